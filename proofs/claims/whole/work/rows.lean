section
-- ===== PART A: goes FIRST, ahead of the names: the tables' words, and 'selects' of the private methods out of them =====
/-- a private method of a class that the tables say can be made, by its rows of tables_1 -/
def lw_okq (q : MethodName × Nat) : Prop := (q.1.cls ≠ "java/lang/invoke/MethodHandle" ∧ q.1.cls ≠ "java/lang/invoke/VarHandle") ∧ Cond.instantiable q.1.cls q.2 ∈ tables_1 ∧ Cond.privateMethod q.1 ∈ tables_1 ∧ Cond.instanceMethod q.1 ∈ tables_1
theorem lw_p0 : lw_okq (⟨"RevealDeckModel", "save", "()V"⟩, 9) := ⟨⟨by decide +kernel, by decide +kernel⟩, List.mem_of_getElem? (i := 738) (by decide +kernel), List.mem_of_getElem? (i := 776) (by decide +kernel), List.mem_of_getElem? (i := 777) (by decide +kernel)⟩
theorem lw_p1 : lw_okq (⟨"RevealDeckModel", "copies", "(II)V"⟩, 9) := ⟨⟨by decide +kernel, by decide +kernel⟩, List.mem_of_getElem? (i := 738) (by decide +kernel), List.mem_of_getElem? (i := 780) (by decide +kernel), List.mem_of_getElem? (i := 781) (by decide +kernel)⟩
theorem lw_p2 : lw_okq (⟨"RevealDeckModel", "of", "(II)I"⟩, 9) := ⟨⟨by decide +kernel, by decide +kernel⟩, List.mem_of_getElem? (i := 738) (by decide +kernel), List.mem_of_getElem? (i := 784) (by decide +kernel), List.mem_of_getElem? (i := 785) (by decide +kernel)⟩
theorem lw_p3 : lw_okq (⟨"RevealDeckModel", "lay", "(III)V"⟩, 9) := ⟨⟨by decide +kernel, by decide +kernel⟩, List.mem_of_getElem? (i := 738) (by decide +kernel), List.mem_of_getElem? (i := 788) (by decide +kernel), List.mem_of_getElem? (i := 789) (by decide +kernel)⟩
theorem lw_p4 : lw_okq (⟨"RevealDeckModel", "isSlide", "(I)Z"⟩, 9) := ⟨⟨by decide +kernel, by decide +kernel⟩, List.mem_of_getElem? (i := 738) (by decide +kernel), List.mem_of_getElem? (i := 796) (by decide +kernel), List.mem_of_getElem? (i := 797) (by decide +kernel)⟩
theorem lw_p5 : lw_okq (⟨"RevealDeckModel", "takesOut", "(I)I"⟩, 9) := ⟨⟨by decide +kernel, by decide +kernel⟩, List.mem_of_getElem? (i := 738) (by decide +kernel), List.mem_of_getElem? (i := 803) (by decide +kernel), List.mem_of_getElem? (i := 804) (by decide +kernel)⟩
theorem lw_p6 : lw_okq (⟨"RevealDeckModel", "placeOf", "(I)I"⟩, 9) := ⟨⟨by decide +kernel, by decide +kernel⟩, List.mem_of_getElem? (i := 738) (by decide +kernel), List.mem_of_getElem? (i := 807) (by decide +kernel), List.mem_of_getElem? (i := 808) (by decide +kernel)⟩
theorem lw_p7 : lw_okq (⟨"RevealDeckModel", "isItem", "(II)Z"⟩, 9) := ⟨⟨by decide +kernel, by decide +kernel⟩, List.mem_of_getElem? (i := 738) (by decide +kernel), List.mem_of_getElem? (i := 831) (by decide +kernel), List.mem_of_getElem? (i := 832) (by decide +kernel)⟩
theorem lw_p8 : lw_okq (⟨"RevealDeckModel", "finalStep", "(I)I"⟩, 9) := ⟨⟨by decide +kernel, by decide +kernel⟩, List.mem_of_getElem? (i := 738) (by decide +kernel), List.mem_of_getElem? (i := 835) (by decide +kernel), List.mem_of_getElem? (i := 836) (by decide +kernel)⟩
theorem lw_p9 : lw_okq (⟨"RevealDeckModel", "isKey", "(I)Z"⟩, 9) := ⟨⟨by decide +kernel, by decide +kernel⟩, List.mem_of_getElem? (i := 738) (by decide +kernel), List.mem_of_getElem? (i := 843) (by decide +kernel), List.mem_of_getElem? (i := 844) (by decide +kernel)⟩
theorem lw_p10 : lw_okq (⟨"RevealDeckModel", "links", "(I)I"⟩, 9) := ⟨⟨by decide +kernel, by decide +kernel⟩, List.mem_of_getElem? (i := 738) (by decide +kernel), List.mem_of_getElem? (i := 847) (by decide +kernel), List.mem_of_getElem? (i := 848) (by decide +kernel)⟩
theorem lw_p11 : lw_okq (⟨"RevealDeckModel", "notePlace", "(I)I"⟩, 9) := ⟨⟨by decide +kernel, by decide +kernel⟩, List.mem_of_getElem? (i := 738) (by decide +kernel), List.mem_of_getElem? (i := 859) (by decide +kernel), List.mem_of_getElem? (i := 860) (by decide +kernel)⟩
theorem lw_p12 : lw_okq (⟨"RevealDeckModel", "shownFrom", "(I)I"⟩, 9) := ⟨⟨by decide +kernel, by decide +kernel⟩, List.mem_of_getElem? (i := 738) (by decide +kernel), List.mem_of_getElem? (i := 871) (by decide +kernel), List.mem_of_getElem? (i := 872) (by decide +kernel)⟩
theorem lw_p13 : lw_okq (⟨"RevealDeckModel", "isShown", "(I)Z"⟩, 9) := ⟨⟨by decide +kernel, by decide +kernel⟩, List.mem_of_getElem? (i := 738) (by decide +kernel), List.mem_of_getElem? (i := 875) (by decide +kernel), List.mem_of_getElem? (i := 876) (by decide +kernel)⟩
theorem lw_p14 : lw_okq (⟨"RevealDeckModel", "isOn", "()Z"⟩, 9) := ⟨⟨by decide +kernel, by decide +kernel⟩, List.mem_of_getElem? (i := 738) (by decide +kernel), List.mem_of_getElem? (i := 887) (by decide +kernel), List.mem_of_getElem? (i := 888) (by decide +kernel)⟩
theorem lw_p15 : lw_okq (⟨"RevealDeckModel", "isOver", "()Z"⟩, 9) := ⟨⟨by decide +kernel, by decide +kernel⟩, List.mem_of_getElem? (i := 738) (by decide +kernel), List.mem_of_getElem? (i := 891) (by decide +kernel), List.mem_of_getElem? (i := 892) (by decide +kernel)⟩
def lw_privs_1 : List (MethodName × Nat) := [(⟨"RevealDeckModel", "save", "()V"⟩, 9), (⟨"RevealDeckModel", "copies", "(II)V"⟩, 9), (⟨"RevealDeckModel", "of", "(II)I"⟩, 9), (⟨"RevealDeckModel", "lay", "(III)V"⟩, 9), (⟨"RevealDeckModel", "isSlide", "(I)Z"⟩, 9), (⟨"RevealDeckModel", "takesOut", "(I)I"⟩, 9), (⟨"RevealDeckModel", "placeOf", "(I)I"⟩, 9), (⟨"RevealDeckModel", "isItem", "(II)Z"⟩, 9), (⟨"RevealDeckModel", "finalStep", "(I)I"⟩, 9), (⟨"RevealDeckModel", "isKey", "(I)Z"⟩, 9), (⟨"RevealDeckModel", "links", "(I)I"⟩, 9), (⟨"RevealDeckModel", "notePlace", "(I)I"⟩, 9), (⟨"RevealDeckModel", "shownFrom", "(I)I"⟩, 9), (⟨"RevealDeckModel", "isShown", "(I)Z"⟩, 9), (⟨"RevealDeckModel", "isOn", "()Z"⟩, 9), (⟨"RevealDeckModel", "isOver", "()Z"⟩, 9)]
theorem lw_r1 : ∀ q ∈ lw_privs_1, lw_okq q := List.forall_mem_cons.mpr ⟨lw_p0, List.forall_mem_cons.mpr ⟨lw_p1, List.forall_mem_cons.mpr ⟨lw_p2, List.forall_mem_cons.mpr ⟨lw_p3, List.forall_mem_cons.mpr ⟨lw_p4, List.forall_mem_cons.mpr ⟨lw_p5, List.forall_mem_cons.mpr ⟨lw_p6, List.forall_mem_cons.mpr ⟨lw_p7, List.forall_mem_cons.mpr ⟨lw_p8, List.forall_mem_cons.mpr ⟨lw_p9, List.forall_mem_cons.mpr ⟨lw_p10, List.forall_mem_cons.mpr ⟨lw_p11, List.forall_mem_cons.mpr ⟨lw_p12, List.forall_mem_cons.mpr ⟨lw_p13, List.forall_mem_cons.mpr ⟨lw_p14, List.forall_mem_cons.mpr ⟨lw_p15, fun _ h => absurd h List.not_mem_nil⟩⟩⟩⟩⟩⟩⟩⟩⟩⟩⟩⟩⟩⟩⟩⟩
theorem lw_p16 : lw_okq (⟨"RevealDeckModel", "canForward", "()Z"⟩, 9) := ⟨⟨by decide +kernel, by decide +kernel⟩, List.mem_of_getElem? (i := 738) (by decide +kernel), List.mem_of_getElem? (i := 895) (by decide +kernel), List.mem_of_getElem? (i := 896) (by decide +kernel)⟩
theorem lw_p17 : lw_okq (⟨"RevealDeckModel", "nextOf", "(I)I"⟩, 9) := ⟨⟨by decide +kernel, by decide +kernel⟩, List.mem_of_getElem? (i := 738) (by decide +kernel), List.mem_of_getElem? (i := 899) (by decide +kernel), List.mem_of_getElem? (i := 900) (by decide +kernel)⟩
theorem lw_p18 : lw_okq (⟨"RevealDeckModel", "forwards", "()I"⟩, 9) := ⟨⟨by decide +kernel, by decide +kernel⟩, List.mem_of_getElem? (i := 738) (by decide +kernel), List.mem_of_getElem? (i := 903) (by decide +kernel), List.mem_of_getElem? (i := 904) (by decide +kernel)⟩
theorem lw_p19 : lw_okq (⟨"RevealDeckModel", "comes", "(III)V"⟩, 9) := ⟨⟨by decide +kernel, by decide +kernel⟩, List.mem_of_getElem? (i := 738) (by decide +kernel), List.mem_of_getElem? (i := 907) (by decide +kernel), List.mem_of_getElem? (i := 908) (by decide +kernel)⟩
theorem lw_p20 : lw_okq (⟨"RevealDeckModel", "backPlace", "()I"⟩, 9) := ⟨⟨by decide +kernel, by decide +kernel⟩, List.mem_of_getElem? (i := 738) (by decide +kernel), List.mem_of_getElem? (i := 915) (by decide +kernel), List.mem_of_getElem? (i := 916) (by decide +kernel)⟩
theorem lw_p21 : lw_okq (⟨"RevealDeckModel", "backs", "()I"⟩, 9) := ⟨⟨by decide +kernel, by decide +kernel⟩, List.mem_of_getElem? (i := 738) (by decide +kernel), List.mem_of_getElem? (i := 919) (by decide +kernel), List.mem_of_getElem? (i := 920) (by decide +kernel)⟩
theorem lw_p22 : lw_okq (⟨"RevealDeckModel", "canPress", "(I)Z"⟩, 9) := ⟨⟨by decide +kernel, by decide +kernel⟩, List.mem_of_getElem? (i := 738) (by decide +kernel), List.mem_of_getElem? (i := 927) (by decide +kernel), List.mem_of_getElem? (i := 928) (by decide +kernel)⟩
theorem lw_p23 : lw_okq (⟨"RevealDeckModel", "presses", "(I)I"⟩, 9) := ⟨⟨by decide +kernel, by decide +kernel⟩, List.mem_of_getElem? (i := 738) (by decide +kernel), List.mem_of_getElem? (i := 931) (by decide +kernel), List.mem_of_getElem? (i := 932) (by decide +kernel)⟩
theorem lw_p24 : lw_okq (⟨"RevealDeckModel", "ticks", "(I)I"⟩, 9) := ⟨⟨by decide +kernel, by decide +kernel⟩, List.mem_of_getElem? (i := 738) (by decide +kernel), List.mem_of_getElem? (i := 939) (by decide +kernel), List.mem_of_getElem? (i := 940) (by decide +kernel)⟩
theorem lw_p25 : lw_okq (⟨"RevealDeckModel", "isText", "()Z"⟩, 9) := ⟨⟨by decide +kernel, by decide +kernel⟩, List.mem_of_getElem? (i := 738) (by decide +kernel), List.mem_of_getElem? (i := 955) (by decide +kernel), List.mem_of_getElem? (i := 956) (by decide +kernel)⟩
theorem lw_p26 : lw_okq (⟨"RevealDeckModel", "readsMove", "()Z"⟩, 9) := ⟨⟨by decide +kernel, by decide +kernel⟩, List.mem_of_getElem? (i := 738) (by decide +kernel), List.mem_of_getElem? (i := 959) (by decide +kernel), List.mem_of_getElem? (i := 960) (by decide +kernel)⟩
theorem lw_p27 : lw_okq (⟨"RevealDeckModel", "sign", "()I"⟩, 9) := ⟨⟨by decide +kernel, by decide +kernel⟩, List.mem_of_getElem? (i := 738) (by decide +kernel), List.mem_of_getElem? (i := 963) (by decide +kernel), List.mem_of_getElem? (i := 964) (by decide +kernel)⟩
theorem lw_p28 : lw_okq (⟨"RevealDeckModel", "takes", "(I)Z"⟩, 9) := ⟨⟨by decide +kernel, by decide +kernel⟩, List.mem_of_getElem? (i := 738) (by decide +kernel), List.mem_of_getElem? (i := 967) (by decide +kernel), List.mem_of_getElem? (i := 968) (by decide +kernel)⟩
theorem lw_p29 : lw_okq (⟨"RevealDeckModel", "isMade", "()Z"⟩, 9) := ⟨⟨by decide +kernel, by decide +kernel⟩, List.mem_of_getElem? (i := 738) (by decide +kernel), List.mem_of_getElem? (i := 975) (by decide +kernel), List.mem_of_getElem? (i := 976) (by decide +kernel)⟩
theorem lw_p30 : lw_okq (⟨"RevealDeckModel", "seen", "(II)I"⟩, 9) := ⟨⟨by decide +kernel, by decide +kernel⟩, List.mem_of_getElem? (i := 738) (by decide +kernel), List.mem_of_getElem? (i := 1011) (by decide +kernel), List.mem_of_getElem? (i := 1012) (by decide +kernel)⟩
theorem lw_p31 : lw_okq (⟨"RevealDeckModel", "leads", "(I)I"⟩, 9) := ⟨⟨by decide +kernel, by decide +kernel⟩, List.mem_of_getElem? (i := 738) (by decide +kernel), List.mem_of_getElem? (i := 1047) (by decide +kernel), List.mem_of_getElem? (i := 1048) (by decide +kernel)⟩
def lw_privs_2 : List (MethodName × Nat) := [(⟨"RevealDeckModel", "canForward", "()Z"⟩, 9), (⟨"RevealDeckModel", "nextOf", "(I)I"⟩, 9), (⟨"RevealDeckModel", "forwards", "()I"⟩, 9), (⟨"RevealDeckModel", "comes", "(III)V"⟩, 9), (⟨"RevealDeckModel", "backPlace", "()I"⟩, 9), (⟨"RevealDeckModel", "backs", "()I"⟩, 9), (⟨"RevealDeckModel", "canPress", "(I)Z"⟩, 9), (⟨"RevealDeckModel", "presses", "(I)I"⟩, 9), (⟨"RevealDeckModel", "ticks", "(I)I"⟩, 9), (⟨"RevealDeckModel", "isText", "()Z"⟩, 9), (⟨"RevealDeckModel", "readsMove", "()Z"⟩, 9), (⟨"RevealDeckModel", "sign", "()I"⟩, 9), (⟨"RevealDeckModel", "takes", "(I)Z"⟩, 9), (⟨"RevealDeckModel", "isMade", "()Z"⟩, 9), (⟨"RevealDeckModel", "seen", "(II)I"⟩, 9), (⟨"RevealDeckModel", "leads", "(I)I"⟩, 9)]
theorem lw_r2 : ∀ q ∈ lw_privs_2, lw_okq q := List.forall_mem_cons.mpr ⟨lw_p16, List.forall_mem_cons.mpr ⟨lw_p17, List.forall_mem_cons.mpr ⟨lw_p18, List.forall_mem_cons.mpr ⟨lw_p19, List.forall_mem_cons.mpr ⟨lw_p20, List.forall_mem_cons.mpr ⟨lw_p21, List.forall_mem_cons.mpr ⟨lw_p22, List.forall_mem_cons.mpr ⟨lw_p23, List.forall_mem_cons.mpr ⟨lw_p24, List.forall_mem_cons.mpr ⟨lw_p25, List.forall_mem_cons.mpr ⟨lw_p26, List.forall_mem_cons.mpr ⟨lw_p27, List.forall_mem_cons.mpr ⟨lw_p28, List.forall_mem_cons.mpr ⟨lw_p29, List.forall_mem_cons.mpr ⟨lw_p30, List.forall_mem_cons.mpr ⟨lw_p31, fun _ h => absurd h List.not_mem_nil⟩⟩⟩⟩⟩⟩⟩⟩⟩⟩⟩⟩⟩⟩⟩⟩
theorem lw_p32 : lw_okq (⟨"RevealDeckModel", "reaches", "(III)Z"⟩, 9) := ⟨⟨by decide +kernel, by decide +kernel⟩, List.mem_of_getElem? (i := 738) (by decide +kernel), List.mem_of_getElem? (i := 1051) (by decide +kernel), List.mem_of_getElem? (i := 1052) (by decide +kernel)⟩
def lw_privs_3 : List (MethodName × Nat) := [(⟨"RevealDeckModel", "reaches", "(III)Z"⟩, 9)]
theorem lw_r3 : ∀ q ∈ lw_privs_3, lw_okq q := List.forall_mem_cons.mpr ⟨lw_p32, fun _ h => absurd h List.not_mem_nil⟩
def lw_privs : List (MethodName × Nat) := lw_privs_1 ++ (lw_privs_2 ++ (lw_privs_3))
def lw_tbl : List Cond := k2_sels lw_privs ++ tables_1
theorem lw_privs_ok : ∀ q ∈ lw_privs, lw_okq q := by
  show ∀ q ∈ lw_privs_1 ++ (lw_privs_2 ++ (lw_privs_3)), lw_okq q
  exact List.forall_mem_append.mpr ⟨lw_r1, List.forall_mem_append.mpr ⟨lw_r2, lw_r3⟩⟩
/-- the streams that the claim lets the run draw from -/
abbrev lw_cs : List Choice := [Jvm.Choice.named "NaN.bits"]
theorem lw_bits : nanBits ∈ lw_cs := by first | decide | exact List.mem_cons_self | simp [lw_cs, nanBits]

def RX0 : String := "RevealDeck$Deck"
def TX0 : u_T := fun k => match k with
  | 0 => ("RevealDeck$Deck", "count", "I", false)
  | 1 => ("RevealDeck$Deck", "order", "[I", true)
  | _ => ("RevealDeck$Deck", "rows", "[LRevealDeck$Slide;", true)
def tyX0 : Nat → FieldType := fun k => match k with
  | 0 => .int
  | 1 => .array .int
  | _ => .array (.object "RevealDeck$Slide")
theorem nmX0 : ∀ a, a < 3 → ∀ b, b < 3 → a ≠ b → (TX0 a).2.1 ≠ (TX0 b).2.1 := by decide +kernel
theorem tyX0_ok : ∀ k, k < 3 → parseFieldDescriptor (TX0 k).2.2.1 = some (tyX0 k) := by decide +kernel
abbrev cX0_init : ByteArray := prog_2_method_1_code
def yX0_init : MethodName := ⟨RX0, "<init>", "()V"⟩
abbrev cX0_copyFrom : ByteArray := prog_2_method_2_code
def yX0_copyFrom : MethodName := ⟨RX0, "copyFrom", "(LRevealDeck$Deck;)V"⟩
abbrev cX0_find : ByteArray := prog_2_method_3_code
def yX0_find : MethodName := ⟨RX0, "find", "(I)LRevealDeck$Slide;"⟩
abbrev cX0_lowestFree : ByteArray := prog_2_method_4_code
def yX0_lowestFree : MethodName := ⟨RX0, "lowestFree", "()I"⟩
abbrev cX0_putSlide : ByteArray := prog_2_method_5_code
def yX0_putSlide : MethodName := ⟨RX0, "putSlide", "(I)V"⟩
abbrev cX0_dropSlide : ByteArray := prog_2_method_6_code
def yX0_dropSlide : MethodName := ⟨RX0, "dropSlide", "(I)V"⟩
abbrev cX0_putInOrder : ByteArray := prog_2_method_7_code
def yX0_putInOrder : MethodName := ⟨RX0, "putInOrder", "(II)V"⟩
abbrev cX0_dropFromOrder : ByteArray := prog_2_method_8_code
def yX0_dropFromOrder : MethodName := ⟨RX0, "dropFromOrder", "(I)V"⟩
abbrev cX0_placeOf : ByteArray := prog_2_method_9_code
def yX0_placeOf : MethodName := ⟨RX0, "placeOf", "(I)I"⟩
abbrev cX0_numberAt : ByteArray := prog_2_method_10_code
def yX0_numberAt : MethodName := ⟨RX0, "numberAt", "(I)I"⟩
abbrev cX0_nextShown : ByteArray := prog_2_method_11_code
def yX0_nextShown : MethodName := ⟨RX0, "nextShown", "(I)I"⟩
abbrev cX0_countHidden : ByteArray := prog_2_method_12_code
def yX0_countHidden : MethodName := ⟨RX0, "countHidden", "()I"⟩
abbrev cX0_sumSteps : ByteArray := prog_2_method_13_code
def yX0_sumSteps : MethodName := ⟨RX0, "sumSteps", "()I"⟩
def RX1 : String := "RevealDeck$Forecast"
def TX1 : u_T := fun k => match k with
  | _ => ("RevealDeck$Forecast", "reached", "[I", true)
def tyX1 : Nat → FieldType := fun k => match k with
  | _ => .array .int
theorem nmX1 : ∀ a, a < 1 → ∀ b, b < 1 → a ≠ b → (TX1 a).2.1 ≠ (TX1 b).2.1 := by decide +kernel
theorem tyX1_ok : ∀ k, k < 1 → parseFieldDescriptor (TX1 k).2.2.1 = some (tyX1 k) := by decide +kernel
abbrev cX1_init : ByteArray := prog_3_method_1_code
def yX1_init : MethodName := ⟨RX1, "<init>", "()V"⟩
abbrev cX1_countMoves : ByteArray := prog_3_method_2_code
def yX1_countMoves : MethodName := ⟨RX1, "countMoves", "(LRevealDeck$State;)I"⟩
abbrev cX1_countSeconds : ByteArray := prog_3_method_3_code
def yX1_countSeconds : MethodName := ⟨RX1, "countSeconds", "(LRevealDeck$State;)I"⟩
abbrev cX1_movesOn : ByteArray := prog_3_method_4_code
def yX1_movesOn : MethodName := ⟨RX1, "movesOn", "(LRevealDeck$State;I)I"⟩
abbrev cX1_leastMoves : ByteArray := prog_3_method_5_code
def yX1_leastMoves : MethodName := ⟨RX1, "leastMoves", "(LRevealDeck$State;I)I"⟩
abbrev cX1_spreadFrom : ByteArray := prog_3_method_6_code
def yX1_spreadFrom : MethodName := ⟨RX1, "spreadFrom", "(LRevealDeck$State;I)V"⟩
abbrev cX1_lower : ByteArray := prog_3_method_7_code
def yX1_lower : MethodName := ⟨RX1, "lower", "(II)V"⟩
def RX2 : String := "RevealDeck$History"
def TX2 : u_T := fun k => match k with
  | 0 => ("RevealDeck$History", "count", "I", false)
  | _ => ("RevealDeck$History", "states", "[LRevealDeck$State;", true)
def tyX2 : Nat → FieldType := fun k => match k with
  | 0 => .int
  | _ => .array (.object "RevealDeck$State")
theorem nmX2 : ∀ a, a < 2 → ∀ b, b < 2 → a ≠ b → (TX2 a).2.1 ≠ (TX2 b).2.1 := by decide +kernel
theorem tyX2_ok : ∀ k, k < 2 → parseFieldDescriptor (TX2 k).2.2.1 = some (tyX2 k) := by decide +kernel
abbrev cX2_init : ByteArray := prog_4_method_1_code
def yX2_init : MethodName := ⟨RX2, "<init>", "()V"⟩
abbrev cX2_keep : ByteArray := prog_4_method_2_code
def yX2_keep : MethodName := ⟨RX2, "keep", "(LRevealDeck$State;)V"⟩
abbrev cX2_dropOldest : ByteArray := prog_4_method_3_code
def yX2_dropOldest : MethodName := ⟨RX2, "dropOldest", "()V"⟩
abbrev cX2_restore : ByteArray := prog_4_method_4_code
def yX2_restore : MethodName := ⟨RX2, "restore", "(LRevealDeck$State;)V"⟩
def RX3 : String := "RevealDeck$Notes"
def TX3 : u_T := fun k => match k with
  | 0 => ("RevealDeck$Notes", "count", "I", false)
  | 1 => ("RevealDeck$Notes", "seconds", "[I", true)
  | _ => ("RevealDeck$Notes", "numbers", "[I", true)
def tyX3 : Nat → FieldType := fun k => match k with
  | 0 => .int
  | 1 => .array .int
  | _ => .array .int
theorem nmX3 : ∀ a, a < 3 → ∀ b, b < 3 → a ≠ b → (TX3 a).2.1 ≠ (TX3 b).2.1 := by decide +kernel
theorem tyX3_ok : ∀ k, k < 3 → parseFieldDescriptor (TX3 k).2.2.1 = some (tyX3 k) := by decide +kernel
abbrev cX3_init : ByteArray := prog_5_method_1_code
def yX3_init : MethodName := ⟨RX3, "<init>", "()V"⟩
abbrev cX3_copyFrom : ByteArray := prog_5_method_2_code
def yX3_copyFrom : MethodName := ⟨RX3, "copyFrom", "(LRevealDeck$Notes;)V"⟩
abbrev cX3_placeOf : ByteArray := prog_5_method_3_code
def yX3_placeOf : MethodName := ⟨RX3, "placeOf", "(I)I"⟩
abbrev cX3_putAt : ByteArray := prog_5_method_4_code
def yX3_putAt : MethodName := ⟨RX3, "putAt", "(III)V"⟩
abbrev cX3_dropAt : ByteArray := prog_5_method_5_code
def yX3_dropAt : MethodName := ⟨RX3, "dropAt", "(I)V"⟩
abbrev cX3_latestAt : ByteArray := prog_5_method_6_code
def yX3_latestAt : MethodName := ⟨RX3, "latestAt", "(I)I"⟩
def RX4 : String := "RevealDeck$Report"
def TX4 : u_T := fun k => match k with
  | 0 => ("RevealDeck$Report", "move", "I", false)
  | 1 => ("RevealDeck$Report", "character", "I", false)
  | 2 => ("RevealDeck$Report", "number", "I", false)
  | _ => ("RevealDeck$Report", "step", "I", false)
def tyX4 : Nat → FieldType := fun k => match k with
  | 0 => .int
  | 1 => .int
  | 2 => .int
  | _ => .int
theorem nmX4 : ∀ a, a < 4 → ∀ b, b < 4 → a ≠ b → (TX4 a).2.1 ≠ (TX4 b).2.1 := by decide +kernel
theorem tyX4_ok : ∀ k, k < 4 → parseFieldDescriptor (TX4 k).2.2.1 = some (tyX4 k) := by decide +kernel
abbrev cX4_init : ByteArray := prog_6_method_1_code
def yX4_init : MethodName := ⟨RX4, "<init>", "()V"⟩
abbrev cX4_clear : ByteArray := prog_6_method_2_code
def yX4_clear : MethodName := ⟨RX4, "clear", "()V"⟩
abbrev cX4_tell : ByteArray := prog_6_method_3_code
def yX4_tell : MethodName := ⟨RX4, "tell", "(IILRevealDeck$Show;)V"⟩
def RX5 : String := "RevealDeck$Script"
def TX5 : u_T := fun k => match k with
  | 0 => ("RevealDeck$Script", "length", "I", false)
  | _ => ("RevealDeck$Script", "signs", "[C", true)
def tyX5 : Nat → FieldType := fun k => match k with
  | 0 => .int
  | _ => .array .char
theorem nmX5 : ∀ a, a < 2 → ∀ b, b < 2 → a ≠ b → (TX5 a).2.1 ≠ (TX5 b).2.1 := by decide +kernel
theorem tyX5_ok : ∀ k, k < 2 → parseFieldDescriptor (TX5 k).2.2.1 = some (tyX5 k) := by decide +kernel
abbrev cX5_init : ByteArray := prog_7_method_1_code
def yX5_init : MethodName := ⟨RX5, "<init>", "()V"⟩
abbrev cX5_addSign : ByteArray := prog_7_method_2_code
def yX5_addSign : MethodName := ⟨RX5, "addSign", "(C)V"⟩
abbrev cX5_signAt : ByteArray := prog_7_method_3_code
def yX5_signAt : MethodName := ⟨RX5, "signAt", "(I)C"⟩
abbrev cX5_findFault : ByteArray := prog_7_method_4_code
def yX5_findFault : MethodName := ⟨RX5, "findFault", "()I"⟩
abbrev cX5_expectedBehind : ByteArray := prog_7_method_5_code
def yX5_expectedBehind : MethodName := ⟨RX5, "expectedBehind", "(CI)I"⟩
abbrev cX5_expectedBehindLetter : ByteArray := prog_7_method_6_code
def yX5_expectedBehindLetter : MethodName := ⟨RX5, "expectedBehindLetter", "(C)I"⟩
abbrev cX5_expectedBehindMove : ByteArray := prog_7_method_7_code
def yX5_expectedBehindMove : MethodName := ⟨RX5, "expectedBehindMove", "(C)I"⟩
abbrev cX5_isDigit : ByteArray := prog_7_method_8_code
def yX5_isDigit : MethodName := ⟨RX5, "isDigit", "(C)Z"⟩
abbrev cX5_isMove : ByteArray := prog_7_method_9_code
def yX5_isMove : MethodName := ⟨RX5, "isMove", "(C)Z"⟩
abbrev cX5_numberBehind : ByteArray := prog_7_method_10_code
def yX5_numberBehind : MethodName := ⟨RX5, "numberBehind", "(I)I"⟩
def RX6 : String := "RevealDeck$Show"
def TX6 : u_T := fun k => match k with
  | 0 => ("RevealDeck$Show", "number", "I", false)
  | 1 => ("RevealDeck$Show", "step", "I", false)
  | 2 => ("RevealDeck$Show", "mark", "I", false)
  | 3 => ("RevealDeck$Show", "clock", "I", false)
  | 4 => ("RevealDeck$Show", "waited", "I", false)
  | 5 => ("RevealDeck$Show", "trailCount", "I", false)
  | 6 => ("RevealDeck$Show", "trailNumbers", "[I", true)
  | 7 => ("RevealDeck$Show", "trailSteps", "[I", true)
  | _ => ("RevealDeck$Show", "trailMarks", "[I", true)
def tyX6 : Nat → FieldType := fun k => match k with
  | 0 => .int
  | 1 => .int
  | 2 => .int
  | 3 => .int
  | 4 => .int
  | 5 => .int
  | 6 => .array .int
  | 7 => .array .int
  | _ => .array .int
theorem nmX6 : ∀ a, a < 9 → ∀ b, b < 9 → a ≠ b → (TX6 a).2.1 ≠ (TX6 b).2.1 := by decide +kernel
theorem tyX6_ok : ∀ k, k < 9 → parseFieldDescriptor (TX6 k).2.2.1 = some (tyX6 k) := by decide +kernel
abbrev cX6_init : ByteArray := prog_8_method_1_code
def yX6_init : MethodName := ⟨RX6, "<init>", "()V"⟩
abbrev cX6_copyFrom : ByteArray := prog_8_method_2_code
def yX6_copyFrom : MethodName := ⟨RX6, "copyFrom", "(LRevealDeck$Show;)V"⟩
abbrev cX6_begin : ByteArray := prog_8_method_3_code
def yX6_begin : MethodName := ⟨RX6, "begin", "(I)V"⟩
abbrev cX6_clear : ByteArray := prog_8_method_4_code
def yX6_clear : MethodName := ⟨RX6, "clear", "()V"⟩
abbrev cX6_moveTo : ByteArray := prog_8_method_5_code
def yX6_moveTo : MethodName := ⟨RX6, "moveTo", "(III)V"⟩
abbrev cX6_dropOldest : ByteArray := prog_8_method_6_code
def yX6_dropOldest : MethodName := ⟨RX6, "dropOldest", "()V"⟩
abbrev cX6_returnTo : ByteArray := prog_8_method_7_code
def yX6_returnTo : MethodName := ⟨RX6, "returnTo", "(I)V"⟩
abbrev cX6_trailValue : ByteArray := prog_8_method_8_code
def yX6_trailValue : MethodName := ⟨RX6, "trailValue", "(II)I"⟩
def RX7 : String := "RevealDeck$Slide"
def TX7 : u_T := fun k => match k with
  | 0 => ("RevealDeck$Slide", "isThere", "Z", false)
  | 1 => ("RevealDeck$Slide", "isHidden", "Z", false)
  | 2 => ("RevealDeck$Slide", "pause", "I", false)
  | 3 => ("RevealDeck$Slide", "itemCount", "I", false)
  | 4 => ("RevealDeck$Slide", "firsts", "[I", true)
  | 5 => ("RevealDeck$Slide", "lasts", "[I", true)
  | 6 => ("RevealDeck$Slide", "tags", "[I", true)
  | _ => ("RevealDeck$Slide", "targets", "[I", true)
def tyX7 : Nat → FieldType := fun k => match k with
  | 0 => .boolean
  | 1 => .boolean
  | 2 => .int
  | 3 => .int
  | 4 => .array .int
  | 5 => .array .int
  | 6 => .array .int
  | _ => .array .int
theorem nmX7 : ∀ a, a < 8 → ∀ b, b < 8 → a ≠ b → (TX7 a).2.1 ≠ (TX7 b).2.1 := by decide +kernel
theorem tyX7_ok : ∀ k, k < 8 → parseFieldDescriptor (TX7 k).2.2.1 = some (tyX7 k) := by decide +kernel
abbrev cX7_init : ByteArray := prog_9_method_1_code
def yX7_init : MethodName := ⟨RX7, "<init>", "()V"⟩
abbrev cX7_clear : ByteArray := prog_9_method_2_code
def yX7_clear : MethodName := ⟨RX7, "clear", "()V"⟩
abbrev cX7_copyFrom : ByteArray := prog_9_method_3_code
def yX7_copyFrom : MethodName := ⟨RX7, "copyFrom", "(LRevealDeck$Slide;)V"⟩
abbrev cX7_putItem : ByteArray := prog_9_method_4_code
def yX7_putItem : MethodName := ⟨RX7, "putItem", "(III)V"⟩
abbrev cX7_dropItem : ByteArray := prog_9_method_5_code
def yX7_dropItem : MethodName := ⟨RX7, "dropItem", "(I)V"⟩
abbrev cX7_targetOf : ByteArray := prog_9_method_6_code
def yX7_targetOf : MethodName := ⟨RX7, "targetOf", "(I)I"⟩
abbrev cX7_setTarget : ByteArray := prog_9_method_7_code
def yX7_setTarget : MethodName := ⟨RX7, "setTarget", "(II)V"⟩
abbrev cX7_dropLinksTo : ByteArray := prog_9_method_8_code
def yX7_dropLinksTo : MethodName := ⟨RX7, "dropLinksTo", "(I)V"⟩
abbrev cX7_countLinks : ByteArray := prog_9_method_9_code
def yX7_countLinks : MethodName := ⟨RX7, "countLinks", "()I"⟩
abbrev cX7_finalStep : ByteArray := prog_9_method_10_code
def yX7_finalStep : MethodName := ⟨RX7, "finalStep", "()I"⟩
abbrev cX7_isSeen : ByteArray := prog_9_method_11_code
def yX7_isSeen : MethodName := ⟨RX7, "isSeen", "(II)Z"⟩
abbrev cX7_maskAt : ByteArray := prog_9_method_12_code
def yX7_maskAt : MethodName := ⟨RX7, "maskAt", "(I)I"⟩
abbrev cX7_sumTagsAt : ByteArray := prog_9_method_13_code
def yX7_sumTagsAt : MethodName := ⟨RX7, "sumTagsAt", "(I)I"⟩
def RX8 : String := "RevealDeck$State"
def TX8 : u_T := fun k => match k with
  | 0 => ("RevealDeck$State", "endSecond", "I", false)
  | 1 => ("RevealDeck$State", "deck", "LRevealDeck$Deck;", true)
  | 2 => ("RevealDeck$State", "notes", "LRevealDeck$Notes;", true)
  | _ => ("RevealDeck$State", "show", "LRevealDeck$Show;", true)
def tyX8 : Nat → FieldType := fun k => match k with
  | 0 => .int
  | 1 => .object "RevealDeck$Deck"
  | 2 => .object "RevealDeck$Notes"
  | _ => .object "RevealDeck$Show"
theorem nmX8 : ∀ a, a < 4 → ∀ b, b < 4 → a ≠ b → (TX8 a).2.1 ≠ (TX8 b).2.1 := by decide +kernel
theorem tyX8_ok : ∀ k, k < 4 → parseFieldDescriptor (TX8 k).2.2.1 = some (tyX8 k) := by decide +kernel
abbrev cX8_init : ByteArray := prog_10_method_1_code
def yX8_init : MethodName := ⟨RX8, "<init>", "()V"⟩
abbrev cX8_copyFrom : ByteArray := prog_10_method_2_code
def yX8_copyFrom : MethodName := ⟨RX8, "copyFrom", "(LRevealDeck$State;)V"⟩
abbrev cX8_here : ByteArray := prog_10_method_3_code
def yX8_here : MethodName := ⟨RX8, "here", "()LRevealDeck$Slide;"⟩
abbrev cX8_isOver : ByteArray := prog_10_method_4_code
def yX8_isOver : MethodName := ⟨RX8, "isOver", "()Z"⟩
abbrev cX8_canMake : ByteArray := prog_10_method_5_code
def yX8_canMake : MethodName := ⟨RX8, "canMake", "(CI)Z"⟩
abbrev cX8_make : ByteArray := prog_10_method_6_code
def yX8_make : MethodName := ⟨RX8, "make", "(CI)V"⟩
abbrev cX8_nextNumber : ByteArray := prog_10_method_7_code
def yX8_nextNumber : MethodName := ⟨RX8, "nextNumber", "()I"⟩
abbrev cX8_goForward : ByteArray := prog_10_method_8_code
def yX8_goForward : MethodName := ⟨RX8, "goForward", "()V"⟩
abbrev cX8_goByKey : ByteArray := prog_10_method_9_code
def yX8_goByKey : MethodName := ⟨RX8, "goByKey", "(I)V"⟩
abbrev cX8_backPlace : ByteArray := prog_10_method_10_code
def yX8_backPlace : MethodName := ⟨RX8, "backPlace", "()I"⟩
abbrev cX8_goBack : ByteArray := prog_10_method_11_code
def yX8_goBack : MethodName := ⟨RX8, "goBack", "()V"⟩
abbrev cX8_clampStep : ByteArray := prog_10_method_12_code
def yX8_clampStep : MethodName := ⟨RX8, "clampStep", "()V"⟩
abbrev cX8_passSeconds : ByteArray := prog_10_method_13_code
def yX8_passSeconds : MethodName := ⟨RX8, "passSeconds", "(I)I"⟩
abbrev cX8_isPauseOver : ByteArray := prog_10_method_14_code
def yX8_isPauseOver : MethodName := ⟨RX8, "isPauseOver", "()Z"⟩
def RX9 : String := "RevealDeck"
def TX9 : u_T := fun k => match k with
  | 0 => ("RevealDeck", "state", "LRevealDeck$State;", true)
  | 1 => ("RevealDeck", "history", "LRevealDeck$History;", true)
  | 2 => ("RevealDeck", "script", "LRevealDeck$Script;", true)
  | 3 => ("RevealDeck", "report", "LRevealDeck$Report;", true)
  | _ => ("RevealDeck", "forecast", "LRevealDeck$Forecast;", true)
def tyX9 : Nat → FieldType := fun k => match k with
  | 0 => .object "RevealDeck$State"
  | 1 => .object "RevealDeck$History"
  | 2 => .object "RevealDeck$Script"
  | 3 => .object "RevealDeck$Report"
  | _ => .object "RevealDeck$Forecast"
theorem nmX9 : ∀ a, a < 5 → ∀ b, b < 5 → a ≠ b → (TX9 a).2.1 ≠ (TX9 b).2.1 := by decide +kernel
theorem tyX9_ok : ∀ k, k < 5 → parseFieldDescriptor (TX9 k).2.2.1 = some (tyX9 k) := by decide +kernel
abbrev cX9_init : ByteArray := prog_1_method_1_code
def yX9_init : MethodName := ⟨RX9, "<init>", "()V"⟩
abbrev cX9_addSlide : ByteArray := prog_1_method_2_code
def yX9_addSlide : MethodName := ⟨RX9, "addSlide", "()I"⟩
abbrev cX9_removeSlide : ByteArray := prog_1_method_3_code
def yX9_removeSlide : MethodName := ⟨RX9, "removeSlide", "(I)I"⟩
abbrev cX9_moveSlide : ByteArray := prog_1_method_4_code
def yX9_moveSlide : MethodName := ⟨RX9, "moveSlide", "(II)I"⟩
abbrev cX9_hide : ByteArray := prog_1_method_5_code
def yX9_hide : MethodName := ⟨RX9, "hide", "(IZ)I"⟩
abbrev cX9_setPause : ByteArray := prog_1_method_6_code
def yX9_setPause : MethodName := ⟨RX9, "setPause", "(II)I"⟩
abbrev cX9_addItem : ByteArray := prog_1_method_7_code
def yX9_addItem : MethodName := ⟨RX9, "addItem", "(IIII)I"⟩
abbrev cX9_removeItem : ByteArray := prog_1_method_8_code
def yX9_removeItem : MethodName := ⟨RX9, "removeItem", "(II)I"⟩
abbrev cX9_link : ByteArray := prog_1_method_9_code
def yX9_link : MethodName := ⟨RX9, "link", "(III)I"⟩
abbrev cX9_unlink : ByteArray := prog_1_method_10_code
def yX9_unlink : MethodName := ⟨RX9, "unlink", "(II)I"⟩
abbrev cX9_note : ByteArray := prog_1_method_11_code
def yX9_note : MethodName := ⟨RX9, "note", "(II)I"⟩
abbrev cX9_setEnd : ByteArray := prog_1_method_12_code
def yX9_setEnd : MethodName := ⟨RX9, "setEnd", "(I)I"⟩
abbrev cX9_start : ByteArray := prog_1_method_13_code
def yX9_start : MethodName := ⟨RX9, "start", "()I"⟩
abbrev cX9_stop : ByteArray := prog_1_method_14_code
def yX9_stop : MethodName := ⟨RX9, "stop", "()I"⟩
abbrev cX9_forward : ByteArray := prog_1_method_15_code
def yX9_forward : MethodName := ⟨RX9, "forward", "()I"⟩
abbrev cX9_back : ByteArray := prog_1_method_16_code
def yX9_back : MethodName := ⟨RX9, "back", "()I"⟩
abbrev cX9_press : ByteArray := prog_1_method_17_code
def yX9_press : MethodName := ⟨RX9, "press", "(I)I"⟩
abbrev cX9_tick : ByteArray := prog_1_method_18_code
def yX9_tick : MethodName := ⟨RX9, "tick", "(I)I"⟩
abbrev cX9_append : ByteArray := prog_1_method_19_code
def yX9_append : MethodName := ⟨RX9, "append", "(I)I"⟩
abbrev cX9_clearText : ByteArray := prog_1_method_20_code
def yX9_clearText : MethodName := ⟨RX9, "clearText", "()I"⟩
abbrev cX9_fault : ByteArray := prog_1_method_21_code
def yX9_fault : MethodName := ⟨RX9, "fault", "()I"⟩
abbrev cX9_run : ByteArray := prog_1_method_22_code
def yX9_run : MethodName := ⟨RX9, "run", "()I"⟩
abbrev cX9_why : ByteArray := prog_1_method_23_code
def yX9_why : MethodName := ⟨RX9, "why", "(I)I"⟩
abbrev cX9_undo : ByteArray := prog_1_method_24_code
def yX9_undo : MethodName := ⟨RX9, "undo", "()I"⟩
abbrev cX9_slides : ByteArray := prog_1_method_25_code
def yX9_slides : MethodName := ⟨RX9, "slides", "()I"⟩
abbrev cX9_slideAt : ByteArray := prog_1_method_26_code
def yX9_slideAt : MethodName := ⟨RX9, "slideAt", "(I)I"⟩
abbrev cX9_slide : ByteArray := prog_1_method_27_code
def yX9_slide : MethodName := ⟨RX9, "slide", "(II)I"⟩
abbrev cX9_item : ByteArray := prog_1_method_28_code
def yX9_item : MethodName := ⟨RX9, "item", "(III)I"⟩
abbrev cX9_target : ByteArray := prog_1_method_29_code
def yX9_target : MethodName := ⟨RX9, "target", "(II)I"⟩
abbrev cX9_picture : ByteArray := prog_1_method_30_code
def yX9_picture : MethodName := ⟨RX9, "picture", "(II)I"⟩
abbrev cX9_now : ByteArray := prog_1_method_31_code
def yX9_now : MethodName := ⟨RX9, "now", "(I)I"⟩
abbrev cX9_trail : ByteArray := prog_1_method_32_code
def yX9_trail : MethodName := ⟨RX9, "trail", "(II)I"⟩
abbrev cX9_labels : ByteArray := prog_1_method_33_code
def yX9_labels : MethodName := ⟨RX9, "labels", "()I"⟩
abbrev cX9_noteNow : ByteArray := prog_1_method_34_code
def yX9_noteNow : MethodName := ⟨RX9, "noteNow", "()I"⟩
abbrev cX9_end : ByteArray := prog_1_method_35_code
def yX9_end : MethodName := ⟨RX9, "end", "()I"⟩
abbrev cX9_meanSteps : ByteArray := prog_1_method_36_code
def yX9_meanSteps : MethodName := ⟨RX9, "meanSteps", "()F"⟩
abbrev cX9_movesLeft : ByteArray := prog_1_method_37_code
def yX9_movesLeft : MethodName := ⟨RX9, "movesLeft", "()I"⟩
abbrev cX9_fewest : ByteArray := prog_1_method_38_code
def yX9_fewest : MethodName := ⟨RX9, "fewest", "(I)I"⟩
abbrev cX9_secondsLeft : ByteArray := prog_1_method_39_code
def yX9_secondsLeft : MethodName := ⟨RX9, "secondsLeft", "()I"⟩
abbrev cX9_backTo : ByteArray := prog_1_method_40_code
def yX9_backTo : MethodName := ⟨RX9, "backTo", "()I"⟩
abbrev cX9_isWithin : ByteArray := prog_1_method_41_code
def yX9_isWithin : MethodName := ⟨RX9, "isWithin", "(III)Z"⟩
abbrev cX9_asNumber : ByteArray := prog_1_method_42_code
def yX9_asNumber : MethodName := ⟨RX9, "asNumber", "(Z)I"⟩
def RX10 : String := "RevealDeckModel"
def TX10 : u_T := fun k => match k with
  | 0 => ("RevealDeckModel", "s", "[I", true)
  | 1 => ("RevealDeckModel", "states", "I", false)
  | 2 => ("RevealDeckModel", "text", "[I", true)
  | 3 => ("RevealDeckModel", "length", "I", false)
  | 4 => ("RevealDeckModel", "at", "I", false)
  | 5 => ("RevealDeckModel", "letter", "I", false)
  | 6 => ("RevealDeckModel", "number", "I", false)
  | 7 => ("RevealDeckModel", "report", "[I", true)
  | _ => ("RevealDeckModel", "moves", "[I", true)
def tyX10 : Nat → FieldType := fun k => match k with
  | 0 => .array .int
  | 1 => .int
  | 2 => .array .int
  | 3 => .int
  | 4 => .int
  | 5 => .int
  | 6 => .int
  | 7 => .array .int
  | _ => .array .int
theorem nmX10 : ∀ a, a < 9 → ∀ b, b < 9 → a ≠ b → (TX10 a).2.1 ≠ (TX10 b).2.1 := by decide +kernel
theorem tyX10_ok : ∀ k, k < 9 → parseFieldDescriptor (TX10 k).2.2.1 = some (tyX10 k) := by decide +kernel
abbrev cX10_init : ByteArray := prog_12_method_1_code
def yX10_init : MethodName := ⟨RX10, "<init>", "()V"⟩
abbrev cX10_in : ByteArray := prog_12_method_2_code
def yX10_in : MethodName := ⟨RX10, "in", "(III)Z"⟩
abbrev cX10_of : ByteArray := prog_12_method_3_code
def yX10_of : MethodName := ⟨RX10, "of", "(II)I"⟩
abbrev cX10_lay : ByteArray := prog_12_method_4_code
def yX10_lay : MethodName := ⟨RX10, "lay", "(III)V"⟩
abbrev cX10_isSlide : ByteArray := prog_12_method_5_code
def yX10_isSlide : MethodName := ⟨RX10, "isSlide", "(I)Z"⟩
abbrev cX10_isItem : ByteArray := prog_12_method_6_code
def yX10_isItem : MethodName := ⟨RX10, "isItem", "(II)Z"⟩
abbrev cX10_isShown : ByteArray := prog_12_method_7_code
def yX10_isShown : MethodName := ⟨RX10, "isShown", "(I)Z"⟩
abbrev cX10_isKey : ByteArray := prog_12_method_8_code
def yX10_isKey : MethodName := ⟨RX10, "isKey", "(I)Z"⟩
abbrev cX10_finalStep : ByteArray := prog_12_method_9_code
def yX10_finalStep : MethodName := ⟨RX10, "finalStep", "(I)I"⟩
abbrev cX10_seen : ByteArray := prog_12_method_10_code
def yX10_seen : MethodName := ⟨RX10, "seen", "(II)I"⟩
abbrev cX10_links : ByteArray := prog_12_method_11_code
def yX10_links : MethodName := ⟨RX10, "links", "(I)I"⟩
abbrev cX10_placeOf : ByteArray := prog_12_method_12_code
def yX10_placeOf : MethodName := ⟨RX10, "placeOf", "(I)I"⟩
abbrev cX10_shownFrom : ByteArray := prog_12_method_13_code
def yX10_shownFrom : MethodName := ⟨RX10, "shownFrom", "(I)I"⟩
abbrev cX10_nextOf : ByteArray := prog_12_method_14_code
def yX10_nextOf : MethodName := ⟨RX10, "nextOf", "(I)I"⟩
abbrev cX10_isOver : ByteArray := prog_12_method_15_code
def yX10_isOver : MethodName := ⟨RX10, "isOver", "()Z"⟩
abbrev cX10_isOn : ByteArray := prog_12_method_16_code
def yX10_isOn : MethodName := ⟨RX10, "isOn", "()Z"⟩
abbrev cX10_canForward : ByteArray := prog_12_method_17_code
def yX10_canForward : MethodName := ⟨RX10, "canForward", "()Z"⟩
abbrev cX10_comes : ByteArray := prog_12_method_18_code
def yX10_comes : MethodName := ⟨RX10, "comes", "(III)V"⟩
abbrev cX10_forwards : ByteArray := prog_12_method_19_code
def yX10_forwards : MethodName := ⟨RX10, "forwards", "()I"⟩
abbrev cX10_backPlace : ByteArray := prog_12_method_20_code
def yX10_backPlace : MethodName := ⟨RX10, "backPlace", "()I"⟩
abbrev cX10_backs : ByteArray := prog_12_method_21_code
def yX10_backs : MethodName := ⟨RX10, "backs", "()I"⟩
abbrev cX10_canPress : ByteArray := prog_12_method_22_code
def yX10_canPress : MethodName := ⟨RX10, "canPress", "(I)Z"⟩
abbrev cX10_presses : ByteArray := prog_12_method_23_code
def yX10_presses : MethodName := ⟨RX10, "presses", "(I)I"⟩
abbrev cX10_ticks : ByteArray := prog_12_method_24_code
def yX10_ticks : MethodName := ⟨RX10, "ticks", "(I)I"⟩
abbrev cX10_copies : ByteArray := prog_12_method_25_code
def yX10_copies : MethodName := ⟨RX10, "copies", "(II)V"⟩
abbrev cX10_save : ByteArray := prog_12_method_26_code
def yX10_save : MethodName := ⟨RX10, "save", "()V"⟩
abbrev cX10_addSlide : ByteArray := prog_12_method_27_code
def yX10_addSlide : MethodName := ⟨RX10, "addSlide", "()I"⟩
abbrev cX10_takesOut : ByteArray := prog_12_method_28_code
def yX10_takesOut : MethodName := ⟨RX10, "takesOut", "(I)I"⟩
abbrev cX10_removeSlide : ByteArray := prog_12_method_29_code
def yX10_removeSlide : MethodName := ⟨RX10, "removeSlide", "(I)I"⟩
abbrev cX10_moveSlide : ByteArray := prog_12_method_30_code
def yX10_moveSlide : MethodName := ⟨RX10, "moveSlide", "(II)I"⟩
abbrev cX10_hide : ByteArray := prog_12_method_31_code
def yX10_hide : MethodName := ⟨RX10, "hide", "(IZ)I"⟩
abbrev cX10_setPause : ByteArray := prog_12_method_32_code
def yX10_setPause : MethodName := ⟨RX10, "setPause", "(II)I"⟩
abbrev cX10_addItem : ByteArray := prog_12_method_33_code
def yX10_addItem : MethodName := ⟨RX10, "addItem", "(IIII)I"⟩
abbrev cX10_removeItem : ByteArray := prog_12_method_34_code
def yX10_removeItem : MethodName := ⟨RX10, "removeItem", "(II)I"⟩
abbrev cX10_link : ByteArray := prog_12_method_35_code
def yX10_link : MethodName := ⟨RX10, "link", "(III)I"⟩
abbrev cX10_unlink : ByteArray := prog_12_method_36_code
def yX10_unlink : MethodName := ⟨RX10, "unlink", "(II)I"⟩
abbrev cX10_notePlace : ByteArray := prog_12_method_37_code
def yX10_notePlace : MethodName := ⟨RX10, "notePlace", "(I)I"⟩
abbrev cX10_note : ByteArray := prog_12_method_38_code
def yX10_note : MethodName := ⟨RX10, "note", "(II)I"⟩
abbrev cX10_setEnd : ByteArray := prog_12_method_39_code
def yX10_setEnd : MethodName := ⟨RX10, "setEnd", "(I)I"⟩
abbrev cX10_start : ByteArray := prog_12_method_40_code
def yX10_start : MethodName := ⟨RX10, "start", "()I"⟩
abbrev cX10_stop : ByteArray := prog_12_method_41_code
def yX10_stop : MethodName := ⟨RX10, "stop", "()I"⟩
abbrev cX10_forward : ByteArray := prog_12_method_42_code
def yX10_forward : MethodName := ⟨RX10, "forward", "()I"⟩
abbrev cX10_back : ByteArray := prog_12_method_43_code
def yX10_back : MethodName := ⟨RX10, "back", "()I"⟩
abbrev cX10_press : ByteArray := prog_12_method_44_code
def yX10_press : MethodName := ⟨RX10, "press", "(I)I"⟩
abbrev cX10_tick : ByteArray := prog_12_method_45_code
def yX10_tick : MethodName := ⟨RX10, "tick", "(I)I"⟩
abbrev cX10_append : ByteArray := prog_12_method_46_code
def yX10_append : MethodName := ⟨RX10, "append", "(I)I"⟩
abbrev cX10_clearText : ByteArray := prog_12_method_47_code
def yX10_clearText : MethodName := ⟨RX10, "clearText", "()I"⟩
abbrev cX10_sign : ByteArray := prog_12_method_48_code
def yX10_sign : MethodName := ⟨RX10, "sign", "()I"⟩
abbrev cX10_takes : ByteArray := prog_12_method_49_code
def yX10_takes : MethodName := ⟨RX10, "takes", "(I)Z"⟩
abbrev cX10_readsMove : ByteArray := prog_12_method_50_code
def yX10_readsMove : MethodName := ⟨RX10, "readsMove", "()Z"⟩
abbrev cX10_isText : ByteArray := prog_12_method_51_code
def yX10_isText : MethodName := ⟨RX10, "isText", "()Z"⟩
abbrev cX10_fault : ByteArray := prog_12_method_52_code
def yX10_fault : MethodName := ⟨RX10, "fault", "()I"⟩
abbrev cX10_isMade : ByteArray := prog_12_method_53_code
def yX10_isMade : MethodName := ⟨RX10, "isMade", "()Z"⟩
abbrev cX10_run : ByteArray := prog_12_method_54_code
def yX10_run : MethodName := ⟨RX10, "run", "()I"⟩
abbrev cX10_why : ByteArray := prog_12_method_55_code
def yX10_why : MethodName := ⟨RX10, "why", "(I)I"⟩
abbrev cX10_undo : ByteArray := prog_12_method_56_code
def yX10_undo : MethodName := ⟨RX10, "undo", "()I"⟩
abbrev cX10_slides : ByteArray := prog_12_method_57_code
def yX10_slides : MethodName := ⟨RX10, "slides", "()I"⟩
abbrev cX10_slideAt : ByteArray := prog_12_method_58_code
def yX10_slideAt : MethodName := ⟨RX10, "slideAt", "(I)I"⟩
abbrev cX10_slide : ByteArray := prog_12_method_59_code
def yX10_slide : MethodName := ⟨RX10, "slide", "(II)I"⟩
abbrev cX10_item : ByteArray := prog_12_method_60_code
def yX10_item : MethodName := ⟨RX10, "item", "(III)I"⟩
abbrev cX10_target : ByteArray := prog_12_method_61_code
def yX10_target : MethodName := ⟨RX10, "target", "(II)I"⟩
abbrev cX10_picture : ByteArray := prog_12_method_62_code
def yX10_picture : MethodName := ⟨RX10, "picture", "(II)I"⟩
abbrev cX10_now : ByteArray := prog_12_method_63_code
def yX10_now : MethodName := ⟨RX10, "now", "(I)I"⟩
abbrev cX10_trail : ByteArray := prog_12_method_64_code
def yX10_trail : MethodName := ⟨RX10, "trail", "(II)I"⟩
abbrev cX10_labels : ByteArray := prog_12_method_65_code
def yX10_labels : MethodName := ⟨RX10, "labels", "()I"⟩
abbrev cX10_noteNow : ByteArray := prog_12_method_66_code
def yX10_noteNow : MethodName := ⟨RX10, "noteNow", "()I"⟩
abbrev cX10_end : ByteArray := prog_12_method_67_code
def yX10_end : MethodName := ⟨RX10, "end", "()I"⟩
abbrev cX10_meanSteps : ByteArray := prog_12_method_68_code
def yX10_meanSteps : MethodName := ⟨RX10, "meanSteps", "()F"⟩
abbrev cX10_movesLeft : ByteArray := prog_12_method_69_code
def yX10_movesLeft : MethodName := ⟨RX10, "movesLeft", "()I"⟩
abbrev cX10_reaches : ByteArray := prog_12_method_70_code
def yX10_reaches : MethodName := ⟨RX10, "reaches", "(III)Z"⟩
abbrev cX10_leads : ByteArray := prog_12_method_71_code
def yX10_leads : MethodName := ⟨RX10, "leads", "(I)I"⟩
abbrev cX10_fewest : ByteArray := prog_12_method_72_code
def yX10_fewest : MethodName := ⟨RX10, "fewest", "(I)I"⟩
abbrev cX10_secondsLeft : ByteArray := prog_12_method_73_code
def yX10_secondsLeft : MethodName := ⟨RX10, "secondsLeft", "()I"⟩
abbrev cX10_backTo : ByteArray := prog_12_method_74_code
def yX10_backTo : MethodName := ⟨RX10, "backTo", "()I"⟩
def RJ9 : String := "java/lang/Math"
def TJ9 : u_T := fun k => match k with
  | _ => ("", "", "", false)
def tyJ9 : Nat → FieldType := fun k => match k with
  | _ => .int
theorem nmJ9 : ∀ a, a < 0 → ∀ b, b < 0 → a ≠ b → (TJ9 a).2.1 ≠ (TJ9 b).2.1 := by decide +kernel
theorem tyJ9_ok : ∀ k, k < 0 → parseFieldDescriptor (TJ9 k).2.2.1 = some (tyJ9 k) := by decide +kernel
abbrev cJ9_max_7cf53 : ByteArray := prog_13_method_65_code
def yJ9_max_7cf53 : MethodName := ⟨RJ9, "max", "(II)I"⟩
abbrev cJ9_min_7cf53 : ByteArray := prog_13_method_69_code
def yJ9_min_7cf53 : MethodName := ⟨RJ9, "min", "(II)I"⟩
def RJ10 : String := "java/lang/System"
def TJ10 : u_T := fun k => match k with
  | _ => ("", "", "", false)
def tyJ10 : Nat → FieldType := fun k => match k with
  | _ => .int
theorem nmJ10 : ∀ a, a < 0 → ∀ b, b < 0 → a ≠ b → (TJ10 a).2.1 ≠ (TJ10 b).2.1 := by decide +kernel
theorem tyJ10_ok : ∀ k, k < 0 → parseFieldDescriptor (TJ10 k).2.2.1 = some (tyJ10 k) := by decide +kernel
def RL : String := "RevealDeckLaw"
abbrev cL_law : ByteArray := code
def yL_law : MethodName := ⟨RL, "law", "([I)Z"⟩
def rd_T : List Cond := lw_tbl.filter goodWord
theorem rs_X10_save : (.selects RX10 yX10_save yX10_save) ∈ rd_T := List.mem_filter.mpr ⟨List.mem_of_getElem? (i := 0) (by decide +kernel), by decide +kernel⟩
theorem rs_X10_copies : (.selects RX10 yX10_copies yX10_copies) ∈ rd_T := List.mem_filter.mpr ⟨List.mem_of_getElem? (i := 1) (by decide +kernel), by decide +kernel⟩
theorem rs_X10_of : (.selects RX10 yX10_of yX10_of) ∈ rd_T := List.mem_filter.mpr ⟨List.mem_of_getElem? (i := 2) (by decide +kernel), by decide +kernel⟩
theorem rs_X10_lay : (.selects RX10 yX10_lay yX10_lay) ∈ rd_T := List.mem_filter.mpr ⟨List.mem_of_getElem? (i := 3) (by decide +kernel), by decide +kernel⟩
theorem rs_X10_isSlide : (.selects RX10 yX10_isSlide yX10_isSlide) ∈ rd_T := List.mem_filter.mpr ⟨List.mem_of_getElem? (i := 4) (by decide +kernel), by decide +kernel⟩
theorem rs_X10_takesOut : (.selects RX10 yX10_takesOut yX10_takesOut) ∈ rd_T := List.mem_filter.mpr ⟨List.mem_of_getElem? (i := 5) (by decide +kernel), by decide +kernel⟩
theorem rs_X10_placeOf : (.selects RX10 yX10_placeOf yX10_placeOf) ∈ rd_T := List.mem_filter.mpr ⟨List.mem_of_getElem? (i := 6) (by decide +kernel), by decide +kernel⟩
theorem rs_X10_isItem : (.selects RX10 yX10_isItem yX10_isItem) ∈ rd_T := List.mem_filter.mpr ⟨List.mem_of_getElem? (i := 7) (by decide +kernel), by decide +kernel⟩
theorem rs_X10_finalStep : (.selects RX10 yX10_finalStep yX10_finalStep) ∈ rd_T := List.mem_filter.mpr ⟨List.mem_of_getElem? (i := 8) (by decide +kernel), by decide +kernel⟩
theorem rs_X10_isKey : (.selects RX10 yX10_isKey yX10_isKey) ∈ rd_T := List.mem_filter.mpr ⟨List.mem_of_getElem? (i := 9) (by decide +kernel), by decide +kernel⟩
theorem rs_X10_links : (.selects RX10 yX10_links yX10_links) ∈ rd_T := List.mem_filter.mpr ⟨List.mem_of_getElem? (i := 10) (by decide +kernel), by decide +kernel⟩
theorem rs_X10_notePlace : (.selects RX10 yX10_notePlace yX10_notePlace) ∈ rd_T := List.mem_filter.mpr ⟨List.mem_of_getElem? (i := 11) (by decide +kernel), by decide +kernel⟩
theorem rs_X10_shownFrom : (.selects RX10 yX10_shownFrom yX10_shownFrom) ∈ rd_T := List.mem_filter.mpr ⟨List.mem_of_getElem? (i := 12) (by decide +kernel), by decide +kernel⟩
theorem rs_X10_isShown : (.selects RX10 yX10_isShown yX10_isShown) ∈ rd_T := List.mem_filter.mpr ⟨List.mem_of_getElem? (i := 13) (by decide +kernel), by decide +kernel⟩
theorem rs_X10_isOn : (.selects RX10 yX10_isOn yX10_isOn) ∈ rd_T := List.mem_filter.mpr ⟨List.mem_of_getElem? (i := 14) (by decide +kernel), by decide +kernel⟩
theorem rs_X10_isOver : (.selects RX10 yX10_isOver yX10_isOver) ∈ rd_T := List.mem_filter.mpr ⟨List.mem_of_getElem? (i := 15) (by decide +kernel), by decide +kernel⟩
theorem rs_X10_canForward : (.selects RX10 yX10_canForward yX10_canForward) ∈ rd_T := List.mem_filter.mpr ⟨List.mem_of_getElem? (i := 16) (by decide +kernel), by decide +kernel⟩
theorem rs_X10_nextOf : (.selects RX10 yX10_nextOf yX10_nextOf) ∈ rd_T := List.mem_filter.mpr ⟨List.mem_of_getElem? (i := 17) (by decide +kernel), by decide +kernel⟩
theorem rs_X10_forwards : (.selects RX10 yX10_forwards yX10_forwards) ∈ rd_T := List.mem_filter.mpr ⟨List.mem_of_getElem? (i := 18) (by decide +kernel), by decide +kernel⟩
theorem rs_X10_comes : (.selects RX10 yX10_comes yX10_comes) ∈ rd_T := List.mem_filter.mpr ⟨List.mem_of_getElem? (i := 19) (by decide +kernel), by decide +kernel⟩
theorem rs_X10_backPlace : (.selects RX10 yX10_backPlace yX10_backPlace) ∈ rd_T := List.mem_filter.mpr ⟨List.mem_of_getElem? (i := 20) (by decide +kernel), by decide +kernel⟩
theorem rs_X10_backs : (.selects RX10 yX10_backs yX10_backs) ∈ rd_T := List.mem_filter.mpr ⟨List.mem_of_getElem? (i := 21) (by decide +kernel), by decide +kernel⟩
theorem rs_X10_canPress : (.selects RX10 yX10_canPress yX10_canPress) ∈ rd_T := List.mem_filter.mpr ⟨List.mem_of_getElem? (i := 22) (by decide +kernel), by decide +kernel⟩
theorem rs_X10_presses : (.selects RX10 yX10_presses yX10_presses) ∈ rd_T := List.mem_filter.mpr ⟨List.mem_of_getElem? (i := 23) (by decide +kernel), by decide +kernel⟩
theorem rs_X10_ticks : (.selects RX10 yX10_ticks yX10_ticks) ∈ rd_T := List.mem_filter.mpr ⟨List.mem_of_getElem? (i := 24) (by decide +kernel), by decide +kernel⟩
theorem rs_X10_isText : (.selects RX10 yX10_isText yX10_isText) ∈ rd_T := List.mem_filter.mpr ⟨List.mem_of_getElem? (i := 25) (by decide +kernel), by decide +kernel⟩
theorem rs_X10_readsMove : (.selects RX10 yX10_readsMove yX10_readsMove) ∈ rd_T := List.mem_filter.mpr ⟨List.mem_of_getElem? (i := 26) (by decide +kernel), by decide +kernel⟩
theorem rs_X10_sign : (.selects RX10 yX10_sign yX10_sign) ∈ rd_T := List.mem_filter.mpr ⟨List.mem_of_getElem? (i := 27) (by decide +kernel), by decide +kernel⟩
theorem rs_X10_takes : (.selects RX10 yX10_takes yX10_takes) ∈ rd_T := List.mem_filter.mpr ⟨List.mem_of_getElem? (i := 28) (by decide +kernel), by decide +kernel⟩
theorem rs_X10_isMade : (.selects RX10 yX10_isMade yX10_isMade) ∈ rd_T := List.mem_filter.mpr ⟨List.mem_of_getElem? (i := 29) (by decide +kernel), by decide +kernel⟩
theorem rs_X10_seen : (.selects RX10 yX10_seen yX10_seen) ∈ rd_T := List.mem_filter.mpr ⟨List.mem_of_getElem? (i := 30) (by decide +kernel), by decide +kernel⟩
theorem rs_X10_leads : (.selects RX10 yX10_leads yX10_leads) ∈ rd_T := List.mem_filter.mpr ⟨List.mem_of_getElem? (i := 31) (by decide +kernel), by decide +kernel⟩
theorem rs_X10_reaches : (.selects RX10 yX10_reaches yX10_reaches) ∈ rd_T := List.mem_filter.mpr ⟨List.mem_of_getElem? (i := 32) (by decide +kernel), by decide +kernel⟩
theorem rz_L : (.initialized RL) ∈ rd_T := List.mem_filter.mpr ⟨List.mem_of_getElem? (i := 33) (by decide +kernel), by decide +kernel⟩
theorem rz_X9 : (.initialized RX9) ∈ rd_T := List.mem_filter.mpr ⟨List.mem_of_getElem? (i := 34) (by decide +kernel), by decide +kernel⟩
theorem rz_X8 : (.initialized RX8) ∈ rd_T := List.mem_filter.mpr ⟨List.mem_of_getElem? (i := 35) (by decide +kernel), by decide +kernel⟩
theorem rz_X0 : (.initialized RX0) ∈ rd_T := List.mem_filter.mpr ⟨List.mem_of_getElem? (i := 36) (by decide +kernel), by decide +kernel⟩
theorem rz_X7 : (.initialized RX7) ∈ rd_T := List.mem_filter.mpr ⟨List.mem_of_getElem? (i := 37) (by decide +kernel), by decide +kernel⟩
theorem rz_X3 : (.initialized RX3) ∈ rd_T := List.mem_filter.mpr ⟨List.mem_of_getElem? (i := 38) (by decide +kernel), by decide +kernel⟩
theorem rz_X6 : (.initialized RX6) ∈ rd_T := List.mem_filter.mpr ⟨List.mem_of_getElem? (i := 39) (by decide +kernel), by decide +kernel⟩
theorem rz_X2 : (.initialized RX2) ∈ rd_T := List.mem_filter.mpr ⟨List.mem_of_getElem? (i := 40) (by decide +kernel), by decide +kernel⟩
theorem rz_X5 : (.initialized RX5) ∈ rd_T := List.mem_filter.mpr ⟨List.mem_of_getElem? (i := 41) (by decide +kernel), by decide +kernel⟩
theorem rz_X4 : (.initialized RX4) ∈ rd_T := List.mem_filter.mpr ⟨List.mem_of_getElem? (i := 42) (by decide +kernel), by decide +kernel⟩
theorem rz_X1 : (.initialized RX1) ∈ rd_T := List.mem_filter.mpr ⟨List.mem_of_getElem? (i := 43) (by decide +kernel), by decide +kernel⟩
theorem rz_X10 : (.initialized RX10) ∈ rd_T := List.mem_filter.mpr ⟨List.mem_of_getElem? (i := 44) (by decide +kernel), by decide +kernel⟩
theorem rz_J10 : (.initialized RJ10) ∈ rd_T := List.mem_filter.mpr ⟨List.mem_of_getElem? (i := 45) (by decide +kernel), by decide +kernel⟩
theorem rz_J9 : (.initialized RJ9) ∈ rd_T := List.mem_filter.mpr ⟨List.mem_of_getElem? (i := 46) (by decide +kernel), by decide +kernel⟩
theorem rk_L_7 : (.classLink RL 7 RX9) ∈ rd_T := List.mem_filter.mpr ⟨List.mem_of_getElem? (i := 47) (by decide +kernel), by decide +kernel⟩
theorem rq_X9 : (.instantiable RX9 5) ∈ rd_T := List.mem_filter.mpr ⟨List.mem_of_getElem? (i := 48) (by decide +kernel), by decide +kernel⟩
theorem rm_L_9 : (.methodLink RL 9 yX9_init) ∈ rd_T := List.mem_filter.mpr ⟨List.mem_of_getElem? (i := 49) (by decide +kernel), by decide +kernel⟩
theorem ri_X9_init : (.instanceMethod yX9_init) ∈ rd_T := List.mem_filter.mpr ⟨List.mem_of_getElem? (i := 50) (by decide +kernel), by decide +kernel⟩
theorem rc_X9_init : (.code yX9_init cX9_init 1 (Option.none : Option Jvm.ClassFile.FieldType)) ∈ rd_T := List.mem_filter.mpr ⟨List.mem_of_getElem? (i := 51) (by decide +kernel), by decide +kernel⟩
theorem rm_X9_1 : (.methodLink RX9 1 ⟨"java/lang/Object", "<init>", "()V"⟩) ∈ rd_T := List.mem_filter.mpr ⟨List.mem_of_getElem? (i := 52) (by decide +kernel), by decide +kernel⟩
theorem ri_Object__init_ : (.instanceMethod ⟨"java/lang/Object", "<init>", "()V"⟩) ∈ rd_T := List.mem_filter.mpr ⟨List.mem_of_getElem? (i := 53) (by decide +kernel), by decide +kernel⟩
theorem rc_Object__init_ : (.code ⟨"java/lang/Object", "<init>", "()V"⟩ object_method_1_code 1 (Option.none : Option Jvm.ClassFile.FieldType)) ∈ rd_T := List.mem_filter.mpr ⟨List.mem_of_getElem? (i := 54) (by decide +kernel), by decide +kernel⟩
theorem rk_X9_7 : (.classLink RX9 7 RX8) ∈ rd_T := List.mem_filter.mpr ⟨List.mem_of_getElem? (i := 55) (by decide +kernel), by decide +kernel⟩
theorem rq_X8 : (.instantiable RX8 4) ∈ rd_T := List.mem_filter.mpr ⟨List.mem_of_getElem? (i := 56) (by decide +kernel), by decide +kernel⟩
theorem ri_X8_init : (.instanceMethod yX8_init) ∈ rd_T := List.mem_filter.mpr ⟨List.mem_of_getElem? (i := 58) (by decide +kernel), by decide +kernel⟩
theorem rc_X8_init : (.code yX8_init cX8_init 1 (Option.none : Option Jvm.ClassFile.FieldType)) ∈ rd_T := List.mem_filter.mpr ⟨List.mem_of_getElem? (i := 59) (by decide +kernel), by decide +kernel⟩
theorem rm_X8_3 : (.methodLink RX8 3 ⟨"java/lang/Object", "<init>", "()V"⟩) ∈ rd_T := List.mem_filter.mpr ⟨List.mem_of_getElem? (i := 60) (by decide +kernel), by decide +kernel⟩
theorem rk_X8_9 : (.classLink RX8 9 RX0) ∈ rd_T := List.mem_filter.mpr ⟨List.mem_of_getElem? (i := 61) (by decide +kernel), by decide +kernel⟩
theorem rq_X0 : (.instantiable RX0 3) ∈ rd_T := List.mem_filter.mpr ⟨List.mem_of_getElem? (i := 62) (by decide +kernel), by decide +kernel⟩
theorem rm_X8_11 : (.methodLink RX8 11 yX0_init) ∈ rd_T := List.mem_filter.mpr ⟨List.mem_of_getElem? (i := 63) (by decide +kernel), by decide +kernel⟩
theorem ri_X0_init : (.instanceMethod yX0_init) ∈ rd_T := List.mem_filter.mpr ⟨List.mem_of_getElem? (i := 64) (by decide +kernel), by decide +kernel⟩
theorem rc_X0_init : (.code yX0_init cX0_init 3 (Option.none : Option Jvm.ClassFile.FieldType)) ∈ rd_T := List.mem_filter.mpr ⟨List.mem_of_getElem? (i := 65) (by decide +kernel), by decide +kernel⟩
theorem rm_X0_3 : (.methodLink RX0 3 ⟨"java/lang/Object", "<init>", "()V"⟩) ∈ rd_T := List.mem_filter.mpr ⟨List.mem_of_getElem? (i := 66) (by decide +kernel), by decide +kernel⟩
theorem rk_X0_15 : (.classLink RX0 15 RX7) ∈ rd_T := List.mem_filter.mpr ⟨List.mem_of_getElem? (i := 67) (by decide +kernel), by decide +kernel⟩
theorem rq_X7 : (.instantiable RX7 8) ∈ rd_T := List.mem_filter.mpr ⟨List.mem_of_getElem? (i := 69) (by decide +kernel), by decide +kernel⟩
theorem ri_X7_init : (.instanceMethod yX7_init) ∈ rd_T := List.mem_filter.mpr ⟨List.mem_of_getElem? (i := 71) (by decide +kernel), by decide +kernel⟩
theorem rc_X7_init : (.code yX7_init cX7_init 1 (Option.none : Option Jvm.ClassFile.FieldType)) ∈ rd_T := List.mem_filter.mpr ⟨List.mem_of_getElem? (i := 72) (by decide +kernel), by decide +kernel⟩
theorem rm_X7_3 : (.methodLink RX7 3 ⟨"java/lang/Object", "<init>", "()V"⟩) ∈ rd_T := List.mem_filter.mpr ⟨List.mem_of_getElem? (i := 73) (by decide +kernel), by decide +kernel⟩
theorem rf_X7_24 : (.fieldLink RX7 24 "RevealDeck$Slide" "isThere" "Z") ∈ rd_T := List.mem_filter.mpr ⟨List.mem_of_getElem? (i := 74) (by decide +kernel), by decide +kernel⟩
theorem rf_X0_39 : (.fieldLink RX0 39 "RevealDeck$Slide" "isThere" "Z") ∈ rd_T := List.mem_filter.mpr ⟨List.mem_of_getElem? (i := 75) (by decide +kernel), by decide +kernel⟩
theorem rf_X7_28 : (.fieldLink RX7 28 "RevealDeck$Slide" "isHidden" "Z") ∈ rd_T := List.mem_filter.mpr ⟨List.mem_of_getElem? (i := 76) (by decide +kernel), by decide +kernel⟩
theorem rf_X1_69 : (.fieldLink RX1 69 "RevealDeck$Slide" "isHidden" "Z") ∈ rd_T := List.mem_filter.mpr ⟨List.mem_of_getElem? (i := 77) (by decide +kernel), by decide +kernel⟩
theorem rf_X9_97 : (.fieldLink RX9 97 "RevealDeck$Slide" "isHidden" "Z") ∈ rd_T := List.mem_filter.mpr ⟨List.mem_of_getElem? (i := 78) (by decide +kernel), by decide +kernel⟩
theorem rf_X8_116 : (.fieldLink RX8 116 "RevealDeck$Slide" "isHidden" "Z") ∈ rd_T := List.mem_filter.mpr ⟨List.mem_of_getElem? (i := 79) (by decide +kernel), by decide +kernel⟩
theorem rf_X0_69 : (.fieldLink RX0 69 "RevealDeck$Slide" "isHidden" "Z") ∈ rd_T := List.mem_filter.mpr ⟨List.mem_of_getElem? (i := 80) (by decide +kernel), by decide +kernel⟩
theorem rf_X7_31 : (.fieldLink RX7 31 "RevealDeck$Slide" "pause" "I") ∈ rd_T := List.mem_filter.mpr ⟨List.mem_of_getElem? (i := 81) (by decide +kernel), by decide +kernel⟩
theorem rf_X1_55 : (.fieldLink RX1 55 "RevealDeck$Slide" "pause" "I") ∈ rd_T := List.mem_filter.mpr ⟨List.mem_of_getElem? (i := 82) (by decide +kernel), by decide +kernel⟩
theorem rf_X9_106 : (.fieldLink RX9 106 "RevealDeck$Slide" "pause" "I") ∈ rd_T := List.mem_filter.mpr ⟨List.mem_of_getElem? (i := 83) (by decide +kernel), by decide +kernel⟩
theorem rf_X8_137 : (.fieldLink RX8 137 "RevealDeck$Slide" "pause" "I") ∈ rd_T := List.mem_filter.mpr ⟨List.mem_of_getElem? (i := 84) (by decide +kernel), by decide +kernel⟩
theorem rf_X7_35 : (.fieldLink RX7 35 "RevealDeck$Slide" "itemCount" "I") ∈ rd_T := List.mem_filter.mpr ⟨List.mem_of_getElem? (i := 85) (by decide +kernel), by decide +kernel⟩
theorem rf_X9_109 : (.fieldLink RX9 109 "RevealDeck$Slide" "itemCount" "I") ∈ rd_T := List.mem_filter.mpr ⟨List.mem_of_getElem? (i := 86) (by decide +kernel), by decide +kernel⟩
theorem rf_X7_9 : (.fieldLink RX7 9 "RevealDeck$Slide" "firsts" "[I") ∈ rd_T := List.mem_filter.mpr ⟨List.mem_of_getElem? (i := 87) (by decide +kernel), by decide +kernel⟩
theorem rf_X9_226 : (.fieldLink RX9 226 "RevealDeck$Slide" "firsts" "[I") ∈ rd_T := List.mem_filter.mpr ⟨List.mem_of_getElem? (i := 88) (by decide +kernel), by decide +kernel⟩
theorem rf_X7_15 : (.fieldLink RX7 15 "RevealDeck$Slide" "lasts" "[I") ∈ rd_T := List.mem_filter.mpr ⟨List.mem_of_getElem? (i := 89) (by decide +kernel), by decide +kernel⟩
theorem rf_X9_230 : (.fieldLink RX9 230 "RevealDeck$Slide" "lasts" "[I") ∈ rd_T := List.mem_filter.mpr ⟨List.mem_of_getElem? (i := 90) (by decide +kernel), by decide +kernel⟩
theorem rf_X7_18 : (.fieldLink RX7 18 "RevealDeck$Slide" "tags" "[I") ∈ rd_T := List.mem_filter.mpr ⟨List.mem_of_getElem? (i := 91) (by decide +kernel), by decide +kernel⟩
theorem rf_X9_233 : (.fieldLink RX9 233 "RevealDeck$Slide" "tags" "[I") ∈ rd_T := List.mem_filter.mpr ⟨List.mem_of_getElem? (i := 92) (by decide +kernel), by decide +kernel⟩
theorem rf_X7_21 : (.fieldLink RX7 21 "RevealDeck$Slide" "targets" "[I") ∈ rd_T := List.mem_filter.mpr ⟨List.mem_of_getElem? (i := 93) (by decide +kernel), by decide +kernel⟩
theorem rf_X1_96 : (.fieldLink RX1 96 "RevealDeck$Slide" "targets" "[I") ∈ rd_T := List.mem_filter.mpr ⟨List.mem_of_getElem? (i := 94) (by decide +kernel), by decide +kernel⟩
theorem ra_int : (.arrayClass .int) ∈ rd_T := List.mem_filter.mpr ⟨List.mem_of_getElem? (i := 112) (by decide +kernel), by decide +kernel⟩
theorem rm_X0_22 : (.methodLink RX0 22 yX7_clear) ∈ rd_T := List.mem_filter.mpr ⟨List.mem_of_getElem? (i := 113) (by decide +kernel), by decide +kernel⟩
theorem ri_X7_clear : (.instanceMethod yX7_clear) ∈ rd_T := List.mem_filter.mpr ⟨List.mem_of_getElem? (i := 114) (by decide +kernel), by decide +kernel⟩
theorem rs_X7_clear : (.selects RX7 yX7_clear yX7_clear) ∈ rd_T := List.mem_filter.mpr ⟨List.mem_of_getElem? (i := 115) (by decide +kernel), by decide +kernel⟩
theorem rc_X7_clear : (.code yX7_clear cX7_clear 2 (Option.none : Option Jvm.ClassFile.FieldType)) ∈ rd_T := List.mem_filter.mpr ⟨List.mem_of_getElem? (i := 116) (by decide +kernel), by decide +kernel⟩
theorem rf_X0_25 : (.fieldLink RX0 25 "RevealDeck$Deck" "count" "I") ∈ rd_T := List.mem_filter.mpr ⟨List.mem_of_getElem? (i := 117) (by decide +kernel), by decide +kernel⟩
theorem rf_X1_41 : (.fieldLink RX1 41 "RevealDeck$Deck" "count" "I") ∈ rd_T := List.mem_filter.mpr ⟨List.mem_of_getElem? (i := 118) (by decide +kernel), by decide +kernel⟩
theorem rf_X9_79 : (.fieldLink RX9 79 "RevealDeck$Deck" "count" "I") ∈ rd_T := List.mem_filter.mpr ⟨List.mem_of_getElem? (i := 119) (by decide +kernel), by decide +kernel⟩
theorem rf_X0_9 : (.fieldLink RX0 9 "RevealDeck$Deck" "order" "[I") ∈ rd_T := List.mem_filter.mpr ⟨List.mem_of_getElem? (i := 120) (by decide +kernel), by decide +kernel⟩
theorem rf_X0_17 : (.fieldLink RX0 17 "RevealDeck$Deck" "rows" "[LRevealDeck$Slide;") ∈ rd_T := List.mem_filter.mpr ⟨List.mem_of_getElem? (i := 121) (by decide +kernel), by decide +kernel⟩
theorem rk_X8_18 : (.classLink RX8 18 RX3) ∈ rd_T := List.mem_filter.mpr ⟨List.mem_of_getElem? (i := 129) (by decide +kernel), by decide +kernel⟩
theorem rq_X3 : (.instantiable RX3 3) ∈ rd_T := List.mem_filter.mpr ⟨List.mem_of_getElem? (i := 130) (by decide +kernel), by decide +kernel⟩
theorem ri_X3_init : (.instanceMethod yX3_init) ∈ rd_T := List.mem_filter.mpr ⟨List.mem_of_getElem? (i := 132) (by decide +kernel), by decide +kernel⟩
theorem rc_X3_init : (.code yX3_init cX3_init 1 (Option.none : Option Jvm.ClassFile.FieldType)) ∈ rd_T := List.mem_filter.mpr ⟨List.mem_of_getElem? (i := 133) (by decide +kernel), by decide +kernel⟩
theorem rm_X3_3 : (.methodLink RX3 3 ⟨"java/lang/Object", "<init>", "()V"⟩) ∈ rd_T := List.mem_filter.mpr ⟨List.mem_of_getElem? (i := 134) (by decide +kernel), by decide +kernel⟩
theorem rf_X3_18 : (.fieldLink RX3 18 "RevealDeck$Notes" "count" "I") ∈ rd_T := List.mem_filter.mpr ⟨List.mem_of_getElem? (i := 135) (by decide +kernel), by decide +kernel⟩
theorem rf_X9_138 : (.fieldLink RX9 138 "RevealDeck$Notes" "count" "I") ∈ rd_T := List.mem_filter.mpr ⟨List.mem_of_getElem? (i := 136) (by decide +kernel), by decide +kernel⟩
theorem rf_X3_9 : (.fieldLink RX3 9 "RevealDeck$Notes" "seconds" "[I") ∈ rd_T := List.mem_filter.mpr ⟨List.mem_of_getElem? (i := 137) (by decide +kernel), by decide +kernel⟩
theorem rf_X3_15 : (.fieldLink RX3 15 "RevealDeck$Notes" "numbers" "[I") ∈ rd_T := List.mem_filter.mpr ⟨List.mem_of_getElem? (i := 138) (by decide +kernel), by decide +kernel⟩
theorem rk_X8_25 : (.classLink RX8 25 RX6) ∈ rd_T := List.mem_filter.mpr ⟨List.mem_of_getElem? (i := 146) (by decide +kernel), by decide +kernel⟩
theorem rq_X6 : (.instantiable RX6 9) ∈ rd_T := List.mem_filter.mpr ⟨List.mem_of_getElem? (i := 147) (by decide +kernel), by decide +kernel⟩
theorem ri_X6_init : (.instanceMethod yX6_init) ∈ rd_T := List.mem_filter.mpr ⟨List.mem_of_getElem? (i := 149) (by decide +kernel), by decide +kernel⟩
theorem rc_X6_init : (.code yX6_init cX6_init 1 (Option.none : Option Jvm.ClassFile.FieldType)) ∈ rd_T := List.mem_filter.mpr ⟨List.mem_of_getElem? (i := 150) (by decide +kernel), by decide +kernel⟩
theorem rm_X6_3 : (.methodLink RX6 3 ⟨"java/lang/Object", "<init>", "()V"⟩) ∈ rd_T := List.mem_filter.mpr ⟨List.mem_of_getElem? (i := 151) (by decide +kernel), by decide +kernel⟩
theorem rf_X6_9 : (.fieldLink RX6 9 "RevealDeck$Show" "number" "I") ∈ rd_T := List.mem_filter.mpr ⟨List.mem_of_getElem? (i := 152) (by decide +kernel), by decide +kernel⟩
theorem rf_X1_29 : (.fieldLink RX1 29 "RevealDeck$Show" "number" "I") ∈ rd_T := List.mem_filter.mpr ⟨List.mem_of_getElem? (i := 153) (by decide +kernel), by decide +kernel⟩
theorem rf_X4_24 : (.fieldLink RX4 24 "RevealDeck$Show" "number" "I") ∈ rd_T := List.mem_filter.mpr ⟨List.mem_of_getElem? (i := 154) (by decide +kernel), by decide +kernel⟩
theorem rf_X8_46 : (.fieldLink RX8 46 "RevealDeck$Show" "number" "I") ∈ rd_T := List.mem_filter.mpr ⟨List.mem_of_getElem? (i := 155) (by decide +kernel), by decide +kernel⟩
theorem rf_X9_70 : (.fieldLink RX9 70 "RevealDeck$Show" "number" "I") ∈ rd_T := List.mem_filter.mpr ⟨List.mem_of_getElem? (i := 156) (by decide +kernel), by decide +kernel⟩
theorem rf_X6_25 : (.fieldLink RX6 25 "RevealDeck$Show" "step" "I") ∈ rd_T := List.mem_filter.mpr ⟨List.mem_of_getElem? (i := 157) (by decide +kernel), by decide +kernel⟩
theorem rf_X4_27 : (.fieldLink RX4 27 "RevealDeck$Show" "step" "I") ∈ rd_T := List.mem_filter.mpr ⟨List.mem_of_getElem? (i := 158) (by decide +kernel), by decide +kernel⟩
theorem rf_X1_77 : (.fieldLink RX1 77 "RevealDeck$Show" "step" "I") ∈ rd_T := List.mem_filter.mpr ⟨List.mem_of_getElem? (i := 159) (by decide +kernel), by decide +kernel⟩
theorem rf_X8_90 : (.fieldLink RX8 90 "RevealDeck$Show" "step" "I") ∈ rd_T := List.mem_filter.mpr ⟨List.mem_of_getElem? (i := 160) (by decide +kernel), by decide +kernel⟩
theorem rf_X9_172 : (.fieldLink RX9 172 "RevealDeck$Show" "step" "I") ∈ rd_T := List.mem_filter.mpr ⟨List.mem_of_getElem? (i := 161) (by decide +kernel), by decide +kernel⟩
theorem rf_X6_28 : (.fieldLink RX6 28 "RevealDeck$Show" "mark" "I") ∈ rd_T := List.mem_filter.mpr ⟨List.mem_of_getElem? (i := 162) (by decide +kernel), by decide +kernel⟩
theorem rf_X8_102 : (.fieldLink RX8 102 "RevealDeck$Show" "mark" "I") ∈ rd_T := List.mem_filter.mpr ⟨List.mem_of_getElem? (i := 163) (by decide +kernel), by decide +kernel⟩
theorem rf_X9_249 : (.fieldLink RX9 249 "RevealDeck$Show" "mark" "I") ∈ rd_T := List.mem_filter.mpr ⟨List.mem_of_getElem? (i := 164) (by decide +kernel), by decide +kernel⟩
theorem rf_X6_31 : (.fieldLink RX6 31 "RevealDeck$Show" "clock" "I") ∈ rd_T := List.mem_filter.mpr ⟨List.mem_of_getElem? (i := 165) (by decide +kernel), by decide +kernel⟩
theorem rf_X8_53 : (.fieldLink RX8 53 "RevealDeck$Show" "clock" "I") ∈ rd_T := List.mem_filter.mpr ⟨List.mem_of_getElem? (i := 166) (by decide +kernel), by decide +kernel⟩
theorem rf_X9_158 : (.fieldLink RX9 158 "RevealDeck$Show" "clock" "I") ∈ rd_T := List.mem_filter.mpr ⟨List.mem_of_getElem? (i := 167) (by decide +kernel), by decide +kernel⟩
theorem rf_X6_34 : (.fieldLink RX6 34 "RevealDeck$Show" "waited" "I") ∈ rd_T := List.mem_filter.mpr ⟨List.mem_of_getElem? (i := 168) (by decide +kernel), by decide +kernel⟩
theorem rf_X1_60 : (.fieldLink RX1 60 "RevealDeck$Show" "waited" "I") ∈ rd_T := List.mem_filter.mpr ⟨List.mem_of_getElem? (i := 169) (by decide +kernel), by decide +kernel⟩
theorem rf_X8_131 : (.fieldLink RX8 131 "RevealDeck$Show" "waited" "I") ∈ rd_T := List.mem_filter.mpr ⟨List.mem_of_getElem? (i := 170) (by decide +kernel), by decide +kernel⟩
theorem rf_X9_239 : (.fieldLink RX9 239 "RevealDeck$Show" "waited" "I") ∈ rd_T := List.mem_filter.mpr ⟨List.mem_of_getElem? (i := 171) (by decide +kernel), by decide +kernel⟩
theorem rf_X6_37 : (.fieldLink RX6 37 "RevealDeck$Show" "trailCount" "I") ∈ rd_T := List.mem_filter.mpr ⟨List.mem_of_getElem? (i := 172) (by decide +kernel), by decide +kernel⟩
theorem rf_X8_109 : (.fieldLink RX8 109 "RevealDeck$Show" "trailCount" "I") ∈ rd_T := List.mem_filter.mpr ⟨List.mem_of_getElem? (i := 173) (by decide +kernel), by decide +kernel⟩
theorem rf_X9_242 : (.fieldLink RX9 242 "RevealDeck$Show" "trailCount" "I") ∈ rd_T := List.mem_filter.mpr ⟨List.mem_of_getElem? (i := 174) (by decide +kernel), by decide +kernel⟩
theorem rf_X6_15 : (.fieldLink RX6 15 "RevealDeck$Show" "trailNumbers" "[I") ∈ rd_T := List.mem_filter.mpr ⟨List.mem_of_getElem? (i := 175) (by decide +kernel), by decide +kernel⟩
theorem rf_X6_19 : (.fieldLink RX6 19 "RevealDeck$Show" "trailSteps" "[I") ∈ rd_T := List.mem_filter.mpr ⟨List.mem_of_getElem? (i := 176) (by decide +kernel), by decide +kernel⟩
theorem rf_X6_22 : (.fieldLink RX6 22 "RevealDeck$Show" "trailMarks" "[I") ∈ rd_T := List.mem_filter.mpr ⟨List.mem_of_getElem? (i := 177) (by decide +kernel), by decide +kernel⟩
theorem rf_X8_32 : (.fieldLink RX8 32 "RevealDeck$State" "endSecond" "I") ∈ rd_T := List.mem_filter.mpr ⟨List.mem_of_getElem? (i := 197) (by decide +kernel), by decide +kernel⟩
theorem rf_X9_145 : (.fieldLink RX9 145 "RevealDeck$State" "endSecond" "I") ∈ rd_T := List.mem_filter.mpr ⟨List.mem_of_getElem? (i := 198) (by decide +kernel), by decide +kernel⟩
theorem rf_X8_12 : (.fieldLink RX8 12 "RevealDeck$State" "deck" "LRevealDeck$Deck;") ∈ rd_T := List.mem_filter.mpr ⟨List.mem_of_getElem? (i := 199) (by decide +kernel), by decide +kernel⟩
theorem rf_X9_44 : (.fieldLink RX9 44 "RevealDeck$State" "deck" "LRevealDeck$Deck;") ∈ rd_T := List.mem_filter.mpr ⟨List.mem_of_getElem? (i := 200) (by decide +kernel), by decide +kernel⟩
theorem rf_X1_21 : (.fieldLink RX1 21 "RevealDeck$State" "deck" "LRevealDeck$Deck;") ∈ rd_T := List.mem_filter.mpr ⟨List.mem_of_getElem? (i := 201) (by decide +kernel), by decide +kernel⟩
theorem rf_X8_21 : (.fieldLink RX8 21 "RevealDeck$State" "notes" "LRevealDeck$Notes;") ∈ rd_T := List.mem_filter.mpr ⟨List.mem_of_getElem? (i := 202) (by decide +kernel), by decide +kernel⟩
theorem rf_X9_131 : (.fieldLink RX9 131 "RevealDeck$State" "notes" "LRevealDeck$Notes;") ∈ rd_T := List.mem_filter.mpr ⟨List.mem_of_getElem? (i := 203) (by decide +kernel), by decide +kernel⟩
theorem rf_X8_28 : (.fieldLink RX8 28 "RevealDeck$State" "show" "LRevealDeck$Show;") ∈ rd_T := List.mem_filter.mpr ⟨List.mem_of_getElem? (i := 204) (by decide +kernel), by decide +kernel⟩
theorem rf_X1_25 : (.fieldLink RX1 25 "RevealDeck$State" "show" "LRevealDeck$Show;") ∈ rd_T := List.mem_filter.mpr ⟨List.mem_of_getElem? (i := 205) (by decide +kernel), by decide +kernel⟩
theorem rf_X9_66 : (.fieldLink RX9 66 "RevealDeck$State" "show" "LRevealDeck$Show;") ∈ rd_T := List.mem_filter.mpr ⟨List.mem_of_getElem? (i := 206) (by decide +kernel), by decide +kernel⟩
theorem rk_X9_16 : (.classLink RX9 16 RX2) ∈ rd_T := List.mem_filter.mpr ⟨List.mem_of_getElem? (i := 216) (by decide +kernel), by decide +kernel⟩
theorem rq_X2 : (.instantiable RX2 2) ∈ rd_T := List.mem_filter.mpr ⟨List.mem_of_getElem? (i := 217) (by decide +kernel), by decide +kernel⟩
theorem rm_X9_18 : (.methodLink RX9 18 yX2_init) ∈ rd_T := List.mem_filter.mpr ⟨List.mem_of_getElem? (i := 218) (by decide +kernel), by decide +kernel⟩
theorem ri_X2_init : (.instanceMethod yX2_init) ∈ rd_T := List.mem_filter.mpr ⟨List.mem_of_getElem? (i := 219) (by decide +kernel), by decide +kernel⟩
theorem rc_X2_init : (.code yX2_init cX2_init 2 (Option.none : Option Jvm.ClassFile.FieldType)) ∈ rd_T := List.mem_filter.mpr ⟨List.mem_of_getElem? (i := 220) (by decide +kernel), by decide +kernel⟩
theorem rm_X2_3 : (.methodLink RX2 3 ⟨"java/lang/Object", "<init>", "()V"⟩) ∈ rd_T := List.mem_filter.mpr ⟨List.mem_of_getElem? (i := 221) (by decide +kernel), by decide +kernel⟩
theorem rk_X2_9 : (.classLink RX2 9 RX8) ∈ rd_T := List.mem_filter.mpr ⟨List.mem_of_getElem? (i := 222) (by decide +kernel), by decide +kernel⟩
theorem rf_X2_18 : (.fieldLink RX2 18 "RevealDeck$History" "count" "I") ∈ rd_T := List.mem_filter.mpr ⟨List.mem_of_getElem? (i := 225) (by decide +kernel), by decide +kernel⟩
theorem rf_X9_212 : (.fieldLink RX9 212 "RevealDeck$History" "count" "I") ∈ rd_T := List.mem_filter.mpr ⟨List.mem_of_getElem? (i := 226) (by decide +kernel), by decide +kernel⟩
theorem rf_X2_11 : (.fieldLink RX2 11 "RevealDeck$History" "states" "[LRevealDeck$State;") ∈ rd_T := List.mem_filter.mpr ⟨List.mem_of_getElem? (i := 227) (by decide +kernel), by decide +kernel⟩
theorem rk_X9_23 : (.classLink RX9 23 RX5) ∈ rd_T := List.mem_filter.mpr ⟨List.mem_of_getElem? (i := 233) (by decide +kernel), by decide +kernel⟩
theorem rq_X5 : (.instantiable RX5 2) ∈ rd_T := List.mem_filter.mpr ⟨List.mem_of_getElem? (i := 234) (by decide +kernel), by decide +kernel⟩
theorem ri_X5_init : (.instanceMethod yX5_init) ∈ rd_T := List.mem_filter.mpr ⟨List.mem_of_getElem? (i := 236) (by decide +kernel), by decide +kernel⟩
theorem rc_X5_init : (.code yX5_init cX5_init 1 (Option.none : Option Jvm.ClassFile.FieldType)) ∈ rd_T := List.mem_filter.mpr ⟨List.mem_of_getElem? (i := 237) (by decide +kernel), by decide +kernel⟩
theorem rm_X5_3 : (.methodLink RX5 3 ⟨"java/lang/Object", "<init>", "()V"⟩) ∈ rd_T := List.mem_filter.mpr ⟨List.mem_of_getElem? (i := 238) (by decide +kernel), by decide +kernel⟩
theorem rf_X5_15 : (.fieldLink RX5 15 "RevealDeck$Script" "length" "I") ∈ rd_T := List.mem_filter.mpr ⟨List.mem_of_getElem? (i := 239) (by decide +kernel), by decide +kernel⟩
theorem rf_X9_178 : (.fieldLink RX9 178 "RevealDeck$Script" "length" "I") ∈ rd_T := List.mem_filter.mpr ⟨List.mem_of_getElem? (i := 240) (by decide +kernel), by decide +kernel⟩
theorem rf_X5_9 : (.fieldLink RX5 9 "RevealDeck$Script" "signs" "[C") ∈ rd_T := List.mem_filter.mpr ⟨List.mem_of_getElem? (i := 241) (by decide +kernel), by decide +kernel⟩
theorem ra_char : (.arrayClass .char) ∈ rd_T := List.mem_filter.mpr ⟨List.mem_of_getElem? (i := 247) (by decide +kernel), by decide +kernel⟩
theorem rk_X9_30 : (.classLink RX9 30 RX4) ∈ rd_T := List.mem_filter.mpr ⟨List.mem_of_getElem? (i := 248) (by decide +kernel), by decide +kernel⟩
theorem rq_X4 : (.instantiable RX4 4) ∈ rd_T := List.mem_filter.mpr ⟨List.mem_of_getElem? (i := 249) (by decide +kernel), by decide +kernel⟩
theorem ri_X4_init : (.instanceMethod yX4_init) ∈ rd_T := List.mem_filter.mpr ⟨List.mem_of_getElem? (i := 251) (by decide +kernel), by decide +kernel⟩
theorem rc_X4_init : (.code yX4_init cX4_init 1 (Option.none : Option Jvm.ClassFile.FieldType)) ∈ rd_T := List.mem_filter.mpr ⟨List.mem_of_getElem? (i := 252) (by decide +kernel), by decide +kernel⟩
theorem rm_X4_3 : (.methodLink RX4 3 ⟨"java/lang/Object", "<init>", "()V"⟩) ∈ rd_T := List.mem_filter.mpr ⟨List.mem_of_getElem? (i := 253) (by decide +kernel), by decide +kernel⟩
theorem rf_X4_9 : (.fieldLink RX4 9 "RevealDeck$Report" "move" "I") ∈ rd_T := List.mem_filter.mpr ⟨List.mem_of_getElem? (i := 254) (by decide +kernel), by decide +kernel⟩
theorem rf_X9_204 : (.fieldLink RX9 204 "RevealDeck$Report" "move" "I") ∈ rd_T := List.mem_filter.mpr ⟨List.mem_of_getElem? (i := 255) (by decide +kernel), by decide +kernel⟩
theorem rf_X4_15 : (.fieldLink RX4 15 "RevealDeck$Report" "character" "I") ∈ rd_T := List.mem_filter.mpr ⟨List.mem_of_getElem? (i := 256) (by decide +kernel), by decide +kernel⟩
theorem rf_X9_207 : (.fieldLink RX9 207 "RevealDeck$Report" "character" "I") ∈ rd_T := List.mem_filter.mpr ⟨List.mem_of_getElem? (i := 257) (by decide +kernel), by decide +kernel⟩
theorem rf_X4_18 : (.fieldLink RX4 18 "RevealDeck$Report" "number" "I") ∈ rd_T := List.mem_filter.mpr ⟨List.mem_of_getElem? (i := 258) (by decide +kernel), by decide +kernel⟩
theorem rf_X9_210 : (.fieldLink RX9 210 "RevealDeck$Report" "number" "I") ∈ rd_T := List.mem_filter.mpr ⟨List.mem_of_getElem? (i := 259) (by decide +kernel), by decide +kernel⟩
theorem rf_X4_21 : (.fieldLink RX4 21 "RevealDeck$Report" "step" "I") ∈ rd_T := List.mem_filter.mpr ⟨List.mem_of_getElem? (i := 260) (by decide +kernel), by decide +kernel⟩
theorem rf_X9_211 : (.fieldLink RX9 211 "RevealDeck$Report" "step" "I") ∈ rd_T := List.mem_filter.mpr ⟨List.mem_of_getElem? (i := 261) (by decide +kernel), by decide +kernel⟩
theorem rk_X9_37 : (.classLink RX9 37 RX1) ∈ rd_T := List.mem_filter.mpr ⟨List.mem_of_getElem? (i := 271) (by decide +kernel), by decide +kernel⟩
theorem rq_X1 : (.instantiable RX1 1) ∈ rd_T := List.mem_filter.mpr ⟨List.mem_of_getElem? (i := 272) (by decide +kernel), by decide +kernel⟩
theorem ri_X1_init : (.instanceMethod yX1_init) ∈ rd_T := List.mem_filter.mpr ⟨List.mem_of_getElem? (i := 274) (by decide +kernel), by decide +kernel⟩
theorem rc_X1_init : (.code yX1_init cX1_init 1 (Option.none : Option Jvm.ClassFile.FieldType)) ∈ rd_T := List.mem_filter.mpr ⟨List.mem_of_getElem? (i := 275) (by decide +kernel), by decide +kernel⟩
theorem rm_X1_3 : (.methodLink RX1 3 ⟨"java/lang/Object", "<init>", "()V"⟩) ∈ rd_T := List.mem_filter.mpr ⟨List.mem_of_getElem? (i := 276) (by decide +kernel), by decide +kernel⟩
theorem rf_X1_9 : (.fieldLink RX1 9 "RevealDeck$Forecast" "reached" "[I") ∈ rd_T := List.mem_filter.mpr ⟨List.mem_of_getElem? (i := 277) (by decide +kernel), by decide +kernel⟩
theorem rf_X9_10 : (.fieldLink RX9 10 "RevealDeck" "state" "LRevealDeck$State;") ∈ rd_T := List.mem_filter.mpr ⟨List.mem_of_getElem? (i := 281) (by decide +kernel), by decide +kernel⟩
theorem rf_X9_19 : (.fieldLink RX9 19 "RevealDeck" "history" "LRevealDeck$History;") ∈ rd_T := List.mem_filter.mpr ⟨List.mem_of_getElem? (i := 282) (by decide +kernel), by decide +kernel⟩
theorem rf_X9_26 : (.fieldLink RX9 26 "RevealDeck" "script" "LRevealDeck$Script;") ∈ rd_T := List.mem_filter.mpr ⟨List.mem_of_getElem? (i := 283) (by decide +kernel), by decide +kernel⟩
theorem rf_X9_33 : (.fieldLink RX9 33 "RevealDeck" "report" "LRevealDeck$Report;") ∈ rd_T := List.mem_filter.mpr ⟨List.mem_of_getElem? (i := 284) (by decide +kernel), by decide +kernel⟩
theorem rf_X9_40 : (.fieldLink RX9 40 "RevealDeck" "forecast" "LRevealDeck$Forecast;") ∈ rd_T := List.mem_filter.mpr ⟨List.mem_of_getElem? (i := 285) (by decide +kernel), by decide +kernel⟩
theorem rm_L_13 : (.methodLink RL 13 yX9_addSlide) ∈ rd_T := List.mem_filter.mpr ⟨List.mem_of_getElem? (i := 297) (by decide +kernel), by decide +kernel⟩
theorem ri_X9_addSlide : (.instanceMethod yX9_addSlide) ∈ rd_T := List.mem_filter.mpr ⟨List.mem_of_getElem? (i := 298) (by decide +kernel), by decide +kernel⟩
theorem rs_X9_addSlide : (.selects RX9 yX9_addSlide yX9_addSlide) ∈ rd_T := List.mem_filter.mpr ⟨List.mem_of_getElem? (i := 299) (by decide +kernel), by decide +kernel⟩
theorem rc_X9_addSlide : (.code yX9_addSlide cX9_addSlide 2 (Option.some Jvm.ClassFile.FieldType.int)) ∈ rd_T := List.mem_filter.mpr ⟨List.mem_of_getElem? (i := 300) (by decide +kernel), by decide +kernel⟩
theorem rm_X9_48 : (.methodLink RX9 48 yX0_lowestFree) ∈ rd_T := List.mem_filter.mpr ⟨List.mem_of_getElem? (i := 301) (by decide +kernel), by decide +kernel⟩
theorem ri_X0_lowestFree : (.instanceMethod yX0_lowestFree) ∈ rd_T := List.mem_filter.mpr ⟨List.mem_of_getElem? (i := 302) (by decide +kernel), by decide +kernel⟩
theorem rs_X0_lowestFree : (.selects RX0 yX0_lowestFree yX0_lowestFree) ∈ rd_T := List.mem_filter.mpr ⟨List.mem_of_getElem? (i := 303) (by decide +kernel), by decide +kernel⟩
theorem rc_X0_lowestFree : (.code yX0_lowestFree cX0_lowestFree 2 (Option.some Jvm.ClassFile.FieldType.int)) ∈ rd_T := List.mem_filter.mpr ⟨List.mem_of_getElem? (i := 304) (by decide +kernel), by decide +kernel⟩
theorem rm_X9_54 : (.methodLink RX9 54 yX2_keep) ∈ rd_T := List.mem_filter.mpr ⟨List.mem_of_getElem? (i := 305) (by decide +kernel), by decide +kernel⟩
theorem ri_X2_keep : (.instanceMethod yX2_keep) ∈ rd_T := List.mem_filter.mpr ⟨List.mem_of_getElem? (i := 306) (by decide +kernel), by decide +kernel⟩
theorem rs_X2_keep : (.selects RX2 yX2_keep yX2_keep) ∈ rd_T := List.mem_filter.mpr ⟨List.mem_of_getElem? (i := 307) (by decide +kernel), by decide +kernel⟩
theorem rc_X2_keep : (.code yX2_keep cX2_keep 2 (Option.none : Option Jvm.ClassFile.FieldType)) ∈ rd_T := List.mem_filter.mpr ⟨List.mem_of_getElem? (i := 308) (by decide +kernel), by decide +kernel⟩
theorem rm_X2_22 : (.methodLink RX2 22 yX2_dropOldest) ∈ rd_T := List.mem_filter.mpr ⟨List.mem_of_getElem? (i := 309) (by decide +kernel), by decide +kernel⟩
theorem ri_X2_dropOldest : (.instanceMethod yX2_dropOldest) ∈ rd_T := List.mem_filter.mpr ⟨List.mem_of_getElem? (i := 310) (by decide +kernel), by decide +kernel⟩
theorem rs_X2_dropOldest : (.selects RX2 yX2_dropOldest yX2_dropOldest) ∈ rd_T := List.mem_filter.mpr ⟨List.mem_of_getElem? (i := 311) (by decide +kernel), by decide +kernel⟩
theorem rc_X2_dropOldest : (.code yX2_dropOldest cX2_dropOldest 3 (Option.none : Option Jvm.ClassFile.FieldType)) ∈ rd_T := List.mem_filter.mpr ⟨List.mem_of_getElem? (i := 312) (by decide +kernel), by decide +kernel⟩
theorem rm_X2_25 : (.methodLink RX2 25 yX8_copyFrom) ∈ rd_T := List.mem_filter.mpr ⟨List.mem_of_getElem? (i := 313) (by decide +kernel), by decide +kernel⟩
theorem ri_X8_copyFrom : (.instanceMethod yX8_copyFrom) ∈ rd_T := List.mem_filter.mpr ⟨List.mem_of_getElem? (i := 314) (by decide +kernel), by decide +kernel⟩
theorem rs_X8_copyFrom : (.selects RX8 yX8_copyFrom yX8_copyFrom) ∈ rd_T := List.mem_filter.mpr ⟨List.mem_of_getElem? (i := 315) (by decide +kernel), by decide +kernel⟩
theorem rc_X8_copyFrom : (.code yX8_copyFrom cX8_copyFrom 2 (Option.none : Option Jvm.ClassFile.FieldType)) ∈ rd_T := List.mem_filter.mpr ⟨List.mem_of_getElem? (i := 316) (by decide +kernel), by decide +kernel⟩
theorem rm_X8_36 : (.methodLink RX8 36 yX0_copyFrom) ∈ rd_T := List.mem_filter.mpr ⟨List.mem_of_getElem? (i := 317) (by decide +kernel), by decide +kernel⟩
theorem ri_X0_copyFrom : (.instanceMethod yX0_copyFrom) ∈ rd_T := List.mem_filter.mpr ⟨List.mem_of_getElem? (i := 318) (by decide +kernel), by decide +kernel⟩
theorem rs_X0_copyFrom : (.selects RX0 yX0_copyFrom yX0_copyFrom) ∈ rd_T := List.mem_filter.mpr ⟨List.mem_of_getElem? (i := 319) (by decide +kernel), by decide +kernel⟩
theorem rc_X0_copyFrom : (.code yX0_copyFrom cX0_copyFrom 3 (Option.none : Option Jvm.ClassFile.FieldType)) ∈ rd_T := List.mem_filter.mpr ⟨List.mem_of_getElem? (i := 320) (by decide +kernel), by decide +kernel⟩
theorem rm_X0_29 : (.methodLink RX0 29 ⟨"java/lang/System", "arraycopy", "(Ljava/lang/Object;ILjava/lang/Object;II)V"⟩) ∈ rd_T := List.mem_filter.mpr ⟨List.mem_of_getElem? (i := 321) (by decide +kernel), by decide +kernel⟩
theorem rt_System_arraycopy : (.static ⟨"java/lang/System", "arraycopy", "(Ljava/lang/Object;ILjava/lang/Object;II)V"⟩) ∈ rd_T := List.mem_filter.mpr ⟨List.mem_of_getElem? (i := 322) (by decide +kernel), by decide +kernel⟩
theorem rn_System_arraycopy : (.native ⟨"java/lang/System", "arraycopy", "(Ljava/lang/Object;ILjava/lang/Object;II)V"⟩) ∈ rd_T := List.mem_filter.mpr ⟨List.mem_of_getElem? (i := 323) (by decide +kernel), by decide +kernel⟩
theorem rm_X0_35 : (.methodLink RX0 35 yX7_copyFrom) ∈ rd_T := List.mem_filter.mpr ⟨List.mem_of_getElem? (i := 324) (by decide +kernel), by decide +kernel⟩
theorem ri_X7_copyFrom : (.instanceMethod yX7_copyFrom) ∈ rd_T := List.mem_filter.mpr ⟨List.mem_of_getElem? (i := 325) (by decide +kernel), by decide +kernel⟩
theorem rs_X7_copyFrom : (.selects RX7 yX7_copyFrom yX7_copyFrom) ∈ rd_T := List.mem_filter.mpr ⟨List.mem_of_getElem? (i := 326) (by decide +kernel), by decide +kernel⟩
theorem rc_X7_copyFrom : (.code yX7_copyFrom cX7_copyFrom 2 (Option.none : Option Jvm.ClassFile.FieldType)) ∈ rd_T := List.mem_filter.mpr ⟨List.mem_of_getElem? (i := 327) (by decide +kernel), by decide +kernel⟩
theorem rm_X7_38 : (.methodLink RX7 38 ⟨"java/lang/System", "arraycopy", "(Ljava/lang/Object;ILjava/lang/Object;II)V"⟩) ∈ rd_T := List.mem_filter.mpr ⟨List.mem_of_getElem? (i := 328) (by decide +kernel), by decide +kernel⟩
theorem rm_X8_40 : (.methodLink RX8 40 yX3_copyFrom) ∈ rd_T := List.mem_filter.mpr ⟨List.mem_of_getElem? (i := 329) (by decide +kernel), by decide +kernel⟩
theorem ri_X3_copyFrom : (.instanceMethod yX3_copyFrom) ∈ rd_T := List.mem_filter.mpr ⟨List.mem_of_getElem? (i := 330) (by decide +kernel), by decide +kernel⟩
theorem rs_X3_copyFrom : (.selects RX3 yX3_copyFrom yX3_copyFrom) ∈ rd_T := List.mem_filter.mpr ⟨List.mem_of_getElem? (i := 331) (by decide +kernel), by decide +kernel⟩
theorem rc_X3_copyFrom : (.code yX3_copyFrom cX3_copyFrom 2 (Option.none : Option Jvm.ClassFile.FieldType)) ∈ rd_T := List.mem_filter.mpr ⟨List.mem_of_getElem? (i := 332) (by decide +kernel), by decide +kernel⟩
theorem rm_X3_22 : (.methodLink RX3 22 ⟨"java/lang/System", "arraycopy", "(Ljava/lang/Object;ILjava/lang/Object;II)V"⟩) ∈ rd_T := List.mem_filter.mpr ⟨List.mem_of_getElem? (i := 333) (by decide +kernel), by decide +kernel⟩
theorem rm_X8_43 : (.methodLink RX8 43 yX6_copyFrom) ∈ rd_T := List.mem_filter.mpr ⟨List.mem_of_getElem? (i := 334) (by decide +kernel), by decide +kernel⟩
theorem ri_X6_copyFrom : (.instanceMethod yX6_copyFrom) ∈ rd_T := List.mem_filter.mpr ⟨List.mem_of_getElem? (i := 335) (by decide +kernel), by decide +kernel⟩
theorem rs_X6_copyFrom : (.selects RX6 yX6_copyFrom yX6_copyFrom) ∈ rd_T := List.mem_filter.mpr ⟨List.mem_of_getElem? (i := 336) (by decide +kernel), by decide +kernel⟩
theorem rc_X6_copyFrom : (.code yX6_copyFrom cX6_copyFrom 2 (Option.none : Option Jvm.ClassFile.FieldType)) ∈ rd_T := List.mem_filter.mpr ⟨List.mem_of_getElem? (i := 337) (by decide +kernel), by decide +kernel⟩
theorem rm_X6_40 : (.methodLink RX6 40 ⟨"java/lang/System", "arraycopy", "(Ljava/lang/Object;ILjava/lang/Object;II)V"⟩) ∈ rd_T := List.mem_filter.mpr ⟨List.mem_of_getElem? (i := 338) (by decide +kernel), by decide +kernel⟩
theorem rm_X9_58 : (.methodLink RX9 58 yX0_putSlide) ∈ rd_T := List.mem_filter.mpr ⟨List.mem_of_getElem? (i := 339) (by decide +kernel), by decide +kernel⟩
theorem ri_X0_putSlide : (.instanceMethod yX0_putSlide) ∈ rd_T := List.mem_filter.mpr ⟨List.mem_of_getElem? (i := 340) (by decide +kernel), by decide +kernel⟩
theorem rs_X0_putSlide : (.selects RX0 yX0_putSlide yX0_putSlide) ∈ rd_T := List.mem_filter.mpr ⟨List.mem_of_getElem? (i := 341) (by decide +kernel), by decide +kernel⟩
theorem rc_X0_putSlide : (.code yX0_putSlide cX0_putSlide 2 (Option.none : Option Jvm.ClassFile.FieldType)) ∈ rd_T := List.mem_filter.mpr ⟨List.mem_of_getElem? (i := 342) (by decide +kernel), by decide +kernel⟩
theorem rt_X9_isWithin : (.static yX9_isWithin) ∈ rd_T := List.mem_filter.mpr ⟨List.mem_of_getElem? (i := 344) (by decide +kernel), by decide +kernel⟩
theorem rc_X9_isWithin : (.code yX9_isWithin cX9_isWithin 3 (Option.some Jvm.ClassFile.FieldType.boolean)) ∈ rd_T := List.mem_filter.mpr ⟨List.mem_of_getElem? (i := 345) (by decide +kernel), by decide +kernel⟩
theorem rm_X0_47 : (.methodLink RX0 47 yX0_putInOrder) ∈ rd_T := List.mem_filter.mpr ⟨List.mem_of_getElem? (i := 346) (by decide +kernel), by decide +kernel⟩
theorem ri_X0_putInOrder : (.instanceMethod yX0_putInOrder) ∈ rd_T := List.mem_filter.mpr ⟨List.mem_of_getElem? (i := 347) (by decide +kernel), by decide +kernel⟩
theorem rs_X0_putInOrder : (.selects RX0 yX0_putInOrder yX0_putInOrder) ∈ rd_T := List.mem_filter.mpr ⟨List.mem_of_getElem? (i := 348) (by decide +kernel), by decide +kernel⟩
theorem rc_X0_putInOrder : (.code yX0_putInOrder cX0_putInOrder 4 (Option.none : Option Jvm.ClassFile.FieldType)) ∈ rd_T := List.mem_filter.mpr ⟨List.mem_of_getElem? (i := 349) (by decide +kernel), by decide +kernel⟩
theorem rm_L_18 : (.methodLink RL 18 yX9_removeSlide) ∈ rd_T := List.mem_filter.mpr ⟨List.mem_of_getElem? (i := 350) (by decide +kernel), by decide +kernel⟩
theorem ri_X9_removeSlide : (.instanceMethod yX9_removeSlide) ∈ rd_T := List.mem_filter.mpr ⟨List.mem_of_getElem? (i := 351) (by decide +kernel), by decide +kernel⟩
theorem rs_X9_removeSlide : (.selects RX9 yX9_removeSlide yX9_removeSlide) ∈ rd_T := List.mem_filter.mpr ⟨List.mem_of_getElem? (i := 352) (by decide +kernel), by decide +kernel⟩
theorem rc_X9_removeSlide : (.code yX9_removeSlide cX9_removeSlide 2 (Option.some Jvm.ClassFile.FieldType.int)) ∈ rd_T := List.mem_filter.mpr ⟨List.mem_of_getElem? (i := 353) (by decide +kernel), by decide +kernel⟩
theorem rm_X9_62 : (.methodLink RX9 62 yX0_find) ∈ rd_T := List.mem_filter.mpr ⟨List.mem_of_getElem? (i := 354) (by decide +kernel), by decide +kernel⟩
theorem ri_X0_find : (.instanceMethod yX0_find) ∈ rd_T := List.mem_filter.mpr ⟨List.mem_of_getElem? (i := 355) (by decide +kernel), by decide +kernel⟩
theorem rs_X0_find : (.selects RX0 yX0_find yX0_find) ∈ rd_T := List.mem_filter.mpr ⟨List.mem_of_getElem? (i := 356) (by decide +kernel), by decide +kernel⟩
theorem rc_X0_find : (.code yX0_find cX0_find 3 (Option.some (Jvm.ClassFile.FieldType.object "RevealDeck$Slide"))) ∈ rd_T := List.mem_filter.mpr ⟨List.mem_of_getElem? (i := 357) (by decide +kernel), by decide +kernel⟩
theorem rm_X9_76 : (.methodLink RX9 76 yX0_dropSlide) ∈ rd_T := List.mem_filter.mpr ⟨List.mem_of_getElem? (i := 358) (by decide +kernel), by decide +kernel⟩
theorem ri_X0_dropSlide : (.instanceMethod yX0_dropSlide) ∈ rd_T := List.mem_filter.mpr ⟨List.mem_of_getElem? (i := 359) (by decide +kernel), by decide +kernel⟩
theorem rs_X0_dropSlide : (.selects RX0 yX0_dropSlide yX0_dropSlide) ∈ rd_T := List.mem_filter.mpr ⟨List.mem_of_getElem? (i := 360) (by decide +kernel), by decide +kernel⟩
theorem rc_X0_dropSlide : (.code yX0_dropSlide cX0_dropSlide 7 (Option.none : Option Jvm.ClassFile.FieldType)) ∈ rd_T := List.mem_filter.mpr ⟨List.mem_of_getElem? (i := 361) (by decide +kernel), by decide +kernel⟩
theorem rm_X0_51 : (.methodLink RX0 51 yX0_find) ∈ rd_T := List.mem_filter.mpr ⟨List.mem_of_getElem? (i := 362) (by decide +kernel), by decide +kernel⟩
theorem rm_X0_55 : (.methodLink RX0 55 yX0_dropFromOrder) ∈ rd_T := List.mem_filter.mpr ⟨List.mem_of_getElem? (i := 363) (by decide +kernel), by decide +kernel⟩
theorem ri_X0_dropFromOrder : (.instanceMethod yX0_dropFromOrder) ∈ rd_T := List.mem_filter.mpr ⟨List.mem_of_getElem? (i := 364) (by decide +kernel), by decide +kernel⟩
theorem rs_X0_dropFromOrder : (.selects RX0 yX0_dropFromOrder yX0_dropFromOrder) ∈ rd_T := List.mem_filter.mpr ⟨List.mem_of_getElem? (i := 365) (by decide +kernel), by decide +kernel⟩
theorem rc_X0_dropFromOrder : (.code yX0_dropFromOrder cX0_dropFromOrder 4 (Option.none : Option Jvm.ClassFile.FieldType)) ∈ rd_T := List.mem_filter.mpr ⟨List.mem_of_getElem? (i := 366) (by decide +kernel), by decide +kernel⟩
theorem rm_X0_62 : (.methodLink RX0 62 yX0_placeOf) ∈ rd_T := List.mem_filter.mpr ⟨List.mem_of_getElem? (i := 367) (by decide +kernel), by decide +kernel⟩
theorem ri_X0_placeOf : (.instanceMethod yX0_placeOf) ∈ rd_T := List.mem_filter.mpr ⟨List.mem_of_getElem? (i := 368) (by decide +kernel), by decide +kernel⟩
theorem rs_X0_placeOf : (.selects RX0 yX0_placeOf yX0_placeOf) ∈ rd_T := List.mem_filter.mpr ⟨List.mem_of_getElem? (i := 369) (by decide +kernel), by decide +kernel⟩
theorem rc_X0_placeOf : (.code yX0_placeOf cX0_placeOf 3 (Option.some Jvm.ClassFile.FieldType.int)) ∈ rd_T := List.mem_filter.mpr ⟨List.mem_of_getElem? (i := 370) (by decide +kernel), by decide +kernel⟩
theorem rm_X0_59 : (.methodLink RX0 59 yX7_dropLinksTo) ∈ rd_T := List.mem_filter.mpr ⟨List.mem_of_getElem? (i := 371) (by decide +kernel), by decide +kernel⟩
theorem ri_X7_dropLinksTo : (.instanceMethod yX7_dropLinksTo) ∈ rd_T := List.mem_filter.mpr ⟨List.mem_of_getElem? (i := 372) (by decide +kernel), by decide +kernel⟩
theorem rs_X7_dropLinksTo : (.selects RX7 yX7_dropLinksTo yX7_dropLinksTo) ∈ rd_T := List.mem_filter.mpr ⟨List.mem_of_getElem? (i := 373) (by decide +kernel), by decide +kernel⟩
theorem rc_X7_dropLinksTo : (.code yX7_dropLinksTo cX7_dropLinksTo 3 (Option.none : Option Jvm.ClassFile.FieldType)) ∈ rd_T := List.mem_filter.mpr ⟨List.mem_of_getElem? (i := 374) (by decide +kernel), by decide +kernel⟩
theorem rm_L_23 : (.methodLink RL 23 yX9_moveSlide) ∈ rd_T := List.mem_filter.mpr ⟨List.mem_of_getElem? (i := 375) (by decide +kernel), by decide +kernel⟩
theorem ri_X9_moveSlide : (.instanceMethod yX9_moveSlide) ∈ rd_T := List.mem_filter.mpr ⟨List.mem_of_getElem? (i := 376) (by decide +kernel), by decide +kernel⟩
theorem rs_X9_moveSlide : (.selects RX9 yX9_moveSlide yX9_moveSlide) ∈ rd_T := List.mem_filter.mpr ⟨List.mem_of_getElem? (i := 377) (by decide +kernel), by decide +kernel⟩
theorem rc_X9_moveSlide : (.code yX9_moveSlide cX9_moveSlide 4 (Option.some Jvm.ClassFile.FieldType.int)) ∈ rd_T := List.mem_filter.mpr ⟨List.mem_of_getElem? (i := 378) (by decide +kernel), by decide +kernel⟩
theorem rm_X9_82 : (.methodLink RX9 82 yX9_isWithin) ∈ rd_T := List.mem_filter.mpr ⟨List.mem_of_getElem? (i := 379) (by decide +kernel), by decide +kernel⟩
theorem rm_X9_86 : (.methodLink RX9 86 yX0_placeOf) ∈ rd_T := List.mem_filter.mpr ⟨List.mem_of_getElem? (i := 380) (by decide +kernel), by decide +kernel⟩
theorem rm_X9_90 : (.methodLink RX9 90 yX0_dropFromOrder) ∈ rd_T := List.mem_filter.mpr ⟨List.mem_of_getElem? (i := 381) (by decide +kernel), by decide +kernel⟩
theorem rm_X9_93 : (.methodLink RX9 93 yX0_putInOrder) ∈ rd_T := List.mem_filter.mpr ⟨List.mem_of_getElem? (i := 382) (by decide +kernel), by decide +kernel⟩
theorem rm_L_28 : (.methodLink RL 28 yX9_hide) ∈ rd_T := List.mem_filter.mpr ⟨List.mem_of_getElem? (i := 383) (by decide +kernel), by decide +kernel⟩
theorem ri_X9_hide : (.instanceMethod yX9_hide) ∈ rd_T := List.mem_filter.mpr ⟨List.mem_of_getElem? (i := 384) (by decide +kernel), by decide +kernel⟩
theorem rs_X9_hide : (.selects RX9 yX9_hide yX9_hide) ∈ rd_T := List.mem_filter.mpr ⟨List.mem_of_getElem? (i := 385) (by decide +kernel), by decide +kernel⟩
theorem rc_X9_hide : (.code yX9_hide cX9_hide 4 (Option.some Jvm.ClassFile.FieldType.int)) ∈ rd_T := List.mem_filter.mpr ⟨List.mem_of_getElem? (i := 386) (by decide +kernel), by decide +kernel⟩
theorem rm_X9_103 : (.methodLink RX9 103 yX0_countHidden) ∈ rd_T := List.mem_filter.mpr ⟨List.mem_of_getElem? (i := 387) (by decide +kernel), by decide +kernel⟩
theorem ri_X0_countHidden : (.instanceMethod yX0_countHidden) ∈ rd_T := List.mem_filter.mpr ⟨List.mem_of_getElem? (i := 388) (by decide +kernel), by decide +kernel⟩
theorem rs_X0_countHidden : (.selects RX0 yX0_countHidden yX0_countHidden) ∈ rd_T := List.mem_filter.mpr ⟨List.mem_of_getElem? (i := 389) (by decide +kernel), by decide +kernel⟩
theorem rc_X0_countHidden : (.code yX0_countHidden cX0_countHidden 6 (Option.some Jvm.ClassFile.FieldType.int)) ∈ rd_T := List.mem_filter.mpr ⟨List.mem_of_getElem? (i := 390) (by decide +kernel), by decide +kernel⟩
theorem rm_L_33 : (.methodLink RL 33 yX9_setPause) ∈ rd_T := List.mem_filter.mpr ⟨List.mem_of_getElem? (i := 391) (by decide +kernel), by decide +kernel⟩
theorem ri_X9_setPause : (.instanceMethod yX9_setPause) ∈ rd_T := List.mem_filter.mpr ⟨List.mem_of_getElem? (i := 392) (by decide +kernel), by decide +kernel⟩
theorem rs_X9_setPause : (.selects RX9 yX9_setPause yX9_setPause) ∈ rd_T := List.mem_filter.mpr ⟨List.mem_of_getElem? (i := 393) (by decide +kernel), by decide +kernel⟩
theorem rc_X9_setPause : (.code yX9_setPause cX9_setPause 5 (Option.some Jvm.ClassFile.FieldType.int)) ∈ rd_T := List.mem_filter.mpr ⟨List.mem_of_getElem? (i := 394) (by decide +kernel), by decide +kernel⟩
theorem rm_L_37 : (.methodLink RL 37 yX9_addItem) ∈ rd_T := List.mem_filter.mpr ⟨List.mem_of_getElem? (i := 395) (by decide +kernel), by decide +kernel⟩
theorem ri_X9_addItem : (.instanceMethod yX9_addItem) ∈ rd_T := List.mem_filter.mpr ⟨List.mem_of_getElem? (i := 396) (by decide +kernel), by decide +kernel⟩
theorem rs_X9_addItem : (.selects RX9 yX9_addItem yX9_addItem) ∈ rd_T := List.mem_filter.mpr ⟨List.mem_of_getElem? (i := 397) (by decide +kernel), by decide +kernel⟩
theorem rc_X9_addItem : (.code yX9_addItem cX9_addItem 6 (Option.some Jvm.ClassFile.FieldType.int)) ∈ rd_T := List.mem_filter.mpr ⟨List.mem_of_getElem? (i := 398) (by decide +kernel), by decide +kernel⟩
theorem rm_X9_112 : (.methodLink RX9 112 yX7_putItem) ∈ rd_T := List.mem_filter.mpr ⟨List.mem_of_getElem? (i := 399) (by decide +kernel), by decide +kernel⟩
theorem ri_X7_putItem : (.instanceMethod yX7_putItem) ∈ rd_T := List.mem_filter.mpr ⟨List.mem_of_getElem? (i := 400) (by decide +kernel), by decide +kernel⟩
theorem rs_X7_putItem : (.selects RX7 yX7_putItem yX7_putItem) ∈ rd_T := List.mem_filter.mpr ⟨List.mem_of_getElem? (i := 401) (by decide +kernel), by decide +kernel⟩
theorem rc_X7_putItem : (.code yX7_putItem cX7_putItem 4 (Option.none : Option Jvm.ClassFile.FieldType)) ∈ rd_T := List.mem_filter.mpr ⟨List.mem_of_getElem? (i := 402) (by decide +kernel), by decide +kernel⟩
theorem rm_L_42 : (.methodLink RL 42 yX9_removeItem) ∈ rd_T := List.mem_filter.mpr ⟨List.mem_of_getElem? (i := 403) (by decide +kernel), by decide +kernel⟩
theorem ri_X9_removeItem : (.instanceMethod yX9_removeItem) ∈ rd_T := List.mem_filter.mpr ⟨List.mem_of_getElem? (i := 404) (by decide +kernel), by decide +kernel⟩
theorem rs_X9_removeItem : (.selects RX9 yX9_removeItem yX9_removeItem) ∈ rd_T := List.mem_filter.mpr ⟨List.mem_of_getElem? (i := 405) (by decide +kernel), by decide +kernel⟩
theorem rc_X9_removeItem : (.code yX9_removeItem cX9_removeItem 4 (Option.some Jvm.ClassFile.FieldType.int)) ∈ rd_T := List.mem_filter.mpr ⟨List.mem_of_getElem? (i := 406) (by decide +kernel), by decide +kernel⟩
theorem rm_X9_116 : (.methodLink RX9 116 yX7_dropItem) ∈ rd_T := List.mem_filter.mpr ⟨List.mem_of_getElem? (i := 407) (by decide +kernel), by decide +kernel⟩
theorem ri_X7_dropItem : (.instanceMethod yX7_dropItem) ∈ rd_T := List.mem_filter.mpr ⟨List.mem_of_getElem? (i := 408) (by decide +kernel), by decide +kernel⟩
theorem rs_X7_dropItem : (.selects RX7 yX7_dropItem yX7_dropItem) ∈ rd_T := List.mem_filter.mpr ⟨List.mem_of_getElem? (i := 409) (by decide +kernel), by decide +kernel⟩
theorem rc_X7_dropItem : (.code yX7_dropItem cX7_dropItem 3 (Option.none : Option Jvm.ClassFile.FieldType)) ∈ rd_T := List.mem_filter.mpr ⟨List.mem_of_getElem? (i := 410) (by decide +kernel), by decide +kernel⟩
theorem rm_X9_119 : (.methodLink RX9 119 yX8_clampStep) ∈ rd_T := List.mem_filter.mpr ⟨List.mem_of_getElem? (i := 412) (by decide +kernel), by decide +kernel⟩
theorem ri_X8_clampStep : (.instanceMethod yX8_clampStep) ∈ rd_T := List.mem_filter.mpr ⟨List.mem_of_getElem? (i := 413) (by decide +kernel), by decide +kernel⟩
theorem rs_X8_clampStep : (.selects RX8 yX8_clampStep yX8_clampStep) ∈ rd_T := List.mem_filter.mpr ⟨List.mem_of_getElem? (i := 414) (by decide +kernel), by decide +kernel⟩
theorem rc_X8_clampStep : (.code yX8_clampStep cX8_clampStep 2 (Option.none : Option Jvm.ClassFile.FieldType)) ∈ rd_T := List.mem_filter.mpr ⟨List.mem_of_getElem? (i := 415) (by decide +kernel), by decide +kernel⟩
theorem rm_X8_56 : (.methodLink RX8 56 yX8_here) ∈ rd_T := List.mem_filter.mpr ⟨List.mem_of_getElem? (i := 416) (by decide +kernel), by decide +kernel⟩
theorem ri_X8_here : (.instanceMethod yX8_here) ∈ rd_T := List.mem_filter.mpr ⟨List.mem_of_getElem? (i := 417) (by decide +kernel), by decide +kernel⟩
theorem rs_X8_here : (.selects RX8 yX8_here yX8_here) ∈ rd_T := List.mem_filter.mpr ⟨List.mem_of_getElem? (i := 418) (by decide +kernel), by decide +kernel⟩
theorem rc_X8_here : (.code yX8_here cX8_here 1 (Option.some (Jvm.ClassFile.FieldType.object "RevealDeck$Slide"))) ∈ rd_T := List.mem_filter.mpr ⟨List.mem_of_getElem? (i := 419) (by decide +kernel), by decide +kernel⟩
theorem rm_X8_49 : (.methodLink RX8 49 yX0_find) ∈ rd_T := List.mem_filter.mpr ⟨List.mem_of_getElem? (i := 420) (by decide +kernel), by decide +kernel⟩
theorem rm_X8_93 : (.methodLink RX8 93 yX7_finalStep) ∈ rd_T := List.mem_filter.mpr ⟨List.mem_of_getElem? (i := 421) (by decide +kernel), by decide +kernel⟩
theorem ri_X7_finalStep : (.instanceMethod yX7_finalStep) ∈ rd_T := List.mem_filter.mpr ⟨List.mem_of_getElem? (i := 422) (by decide +kernel), by decide +kernel⟩
theorem rs_X7_finalStep : (.selects RX7 yX7_finalStep yX7_finalStep) ∈ rd_T := List.mem_filter.mpr ⟨List.mem_of_getElem? (i := 423) (by decide +kernel), by decide +kernel⟩
theorem rc_X7_finalStep : (.code yX7_finalStep cX7_finalStep 3 (Option.some Jvm.ClassFile.FieldType.int)) ∈ rd_T := List.mem_filter.mpr ⟨List.mem_of_getElem? (i := 424) (by decide +kernel), by decide +kernel⟩
theorem rm_X7_48 : (.methodLink RX7 48 yJ9_max_7cf53) ∈ rd_T := List.mem_filter.mpr ⟨List.mem_of_getElem? (i := 425) (by decide +kernel), by decide +kernel⟩
theorem rt_J9_max_7cf53 : (.static yJ9_max_7cf53) ∈ rd_T := List.mem_filter.mpr ⟨List.mem_of_getElem? (i := 426) (by decide +kernel), by decide +kernel⟩
theorem rc_J9_max_7cf53 : (.code yJ9_max_7cf53 cJ9_max_7cf53 2 (Option.some Jvm.ClassFile.FieldType.int)) ∈ rd_T := List.mem_filter.mpr ⟨List.mem_of_getElem? (i := 427) (by decide +kernel), by decide +kernel⟩
theorem rm_X8_126 : (.methodLink RX8 126 yJ9_min_7cf53) ∈ rd_T := List.mem_filter.mpr ⟨List.mem_of_getElem? (i := 428) (by decide +kernel), by decide +kernel⟩
theorem rt_J9_min_7cf53 : (.static yJ9_min_7cf53) ∈ rd_T := List.mem_filter.mpr ⟨List.mem_of_getElem? (i := 429) (by decide +kernel), by decide +kernel⟩
theorem rc_J9_min_7cf53 : (.code yJ9_min_7cf53 cJ9_min_7cf53 2 (Option.some Jvm.ClassFile.FieldType.int)) ∈ rd_T := List.mem_filter.mpr ⟨List.mem_of_getElem? (i := 430) (by decide +kernel), by decide +kernel⟩
theorem rm_L_46 : (.methodLink RL 46 yX9_link) ∈ rd_T := List.mem_filter.mpr ⟨List.mem_of_getElem? (i := 431) (by decide +kernel), by decide +kernel⟩
theorem ri_X9_link : (.instanceMethod yX9_link) ∈ rd_T := List.mem_filter.mpr ⟨List.mem_of_getElem? (i := 432) (by decide +kernel), by decide +kernel⟩
theorem rs_X9_link : (.selects RX9 yX9_link yX9_link) ∈ rd_T := List.mem_filter.mpr ⟨List.mem_of_getElem? (i := 433) (by decide +kernel), by decide +kernel⟩
theorem rc_X9_link : (.code yX9_link cX9_link 5 (Option.some Jvm.ClassFile.FieldType.int)) ∈ rd_T := List.mem_filter.mpr ⟨List.mem_of_getElem? (i := 434) (by decide +kernel), by decide +kernel⟩
theorem rm_X9_122 : (.methodLink RX9 122 yX7_targetOf) ∈ rd_T := List.mem_filter.mpr ⟨List.mem_of_getElem? (i := 435) (by decide +kernel), by decide +kernel⟩
theorem ri_X7_targetOf : (.instanceMethod yX7_targetOf) ∈ rd_T := List.mem_filter.mpr ⟨List.mem_of_getElem? (i := 436) (by decide +kernel), by decide +kernel⟩
theorem rs_X7_targetOf : (.selects RX7 yX7_targetOf yX7_targetOf) ∈ rd_T := List.mem_filter.mpr ⟨List.mem_of_getElem? (i := 437) (by decide +kernel), by decide +kernel⟩
theorem rc_X7_targetOf : (.code yX7_targetOf cX7_targetOf 2 (Option.some Jvm.ClassFile.FieldType.int)) ∈ rd_T := List.mem_filter.mpr ⟨List.mem_of_getElem? (i := 438) (by decide +kernel), by decide +kernel⟩
theorem rm_X9_125 : (.methodLink RX9 125 yX7_countLinks) ∈ rd_T := List.mem_filter.mpr ⟨List.mem_of_getElem? (i := 439) (by decide +kernel), by decide +kernel⟩
theorem ri_X7_countLinks : (.instanceMethod yX7_countLinks) ∈ rd_T := List.mem_filter.mpr ⟨List.mem_of_getElem? (i := 440) (by decide +kernel), by decide +kernel⟩
theorem rs_X7_countLinks : (.selects RX7 yX7_countLinks yX7_countLinks) ∈ rd_T := List.mem_filter.mpr ⟨List.mem_of_getElem? (i := 441) (by decide +kernel), by decide +kernel⟩
theorem rc_X7_countLinks : (.code yX7_countLinks cX7_countLinks 6 (Option.some Jvm.ClassFile.FieldType.int)) ∈ rd_T := List.mem_filter.mpr ⟨List.mem_of_getElem? (i := 442) (by decide +kernel), by decide +kernel⟩
theorem rm_X9_128 : (.methodLink RX9 128 yX7_setTarget) ∈ rd_T := List.mem_filter.mpr ⟨List.mem_of_getElem? (i := 443) (by decide +kernel), by decide +kernel⟩
theorem ri_X7_setTarget : (.instanceMethod yX7_setTarget) ∈ rd_T := List.mem_filter.mpr ⟨List.mem_of_getElem? (i := 444) (by decide +kernel), by decide +kernel⟩
theorem rs_X7_setTarget : (.selects RX7 yX7_setTarget yX7_setTarget) ∈ rd_T := List.mem_filter.mpr ⟨List.mem_of_getElem? (i := 445) (by decide +kernel), by decide +kernel⟩
theorem rc_X7_setTarget : (.code yX7_setTarget cX7_setTarget 3 (Option.none : Option Jvm.ClassFile.FieldType)) ∈ rd_T := List.mem_filter.mpr ⟨List.mem_of_getElem? (i := 446) (by decide +kernel), by decide +kernel⟩
theorem rm_L_51 : (.methodLink RL 51 yX9_unlink) ∈ rd_T := List.mem_filter.mpr ⟨List.mem_of_getElem? (i := 447) (by decide +kernel), by decide +kernel⟩
theorem ri_X9_unlink : (.instanceMethod yX9_unlink) ∈ rd_T := List.mem_filter.mpr ⟨List.mem_of_getElem? (i := 448) (by decide +kernel), by decide +kernel⟩
theorem rs_X9_unlink : (.selects RX9 yX9_unlink yX9_unlink) ∈ rd_T := List.mem_filter.mpr ⟨List.mem_of_getElem? (i := 449) (by decide +kernel), by decide +kernel⟩
theorem rc_X9_unlink : (.code yX9_unlink cX9_unlink 4 (Option.some Jvm.ClassFile.FieldType.int)) ∈ rd_T := List.mem_filter.mpr ⟨List.mem_of_getElem? (i := 450) (by decide +kernel), by decide +kernel⟩
theorem rm_L_55 : (.methodLink RL 55 yX9_note) ∈ rd_T := List.mem_filter.mpr ⟨List.mem_of_getElem? (i := 451) (by decide +kernel), by decide +kernel⟩
theorem ri_X9_note : (.instanceMethod yX9_note) ∈ rd_T := List.mem_filter.mpr ⟨List.mem_of_getElem? (i := 452) (by decide +kernel), by decide +kernel⟩
theorem rs_X9_note : (.selects RX9 yX9_note yX9_note) ∈ rd_T := List.mem_filter.mpr ⟨List.mem_of_getElem? (i := 453) (by decide +kernel), by decide +kernel⟩
theorem rc_X9_note : (.code yX9_note cX9_note 4 (Option.some Jvm.ClassFile.FieldType.int)) ∈ rd_T := List.mem_filter.mpr ⟨List.mem_of_getElem? (i := 454) (by decide +kernel), by decide +kernel⟩
theorem rm_X9_135 : (.methodLink RX9 135 yX3_placeOf) ∈ rd_T := List.mem_filter.mpr ⟨List.mem_of_getElem? (i := 455) (by decide +kernel), by decide +kernel⟩
theorem ri_X3_placeOf : (.instanceMethod yX3_placeOf) ∈ rd_T := List.mem_filter.mpr ⟨List.mem_of_getElem? (i := 456) (by decide +kernel), by decide +kernel⟩
theorem rs_X3_placeOf : (.selects RX3 yX3_placeOf yX3_placeOf) ∈ rd_T := List.mem_filter.mpr ⟨List.mem_of_getElem? (i := 457) (by decide +kernel), by decide +kernel⟩
theorem rc_X3_placeOf : (.code yX3_placeOf cX3_placeOf 3 (Option.some Jvm.ClassFile.FieldType.int)) ∈ rd_T := List.mem_filter.mpr ⟨List.mem_of_getElem? (i := 458) (by decide +kernel), by decide +kernel⟩
theorem rm_X9_139 : (.methodLink RX9 139 yX3_dropAt) ∈ rd_T := List.mem_filter.mpr ⟨List.mem_of_getElem? (i := 459) (by decide +kernel), by decide +kernel⟩
theorem ri_X3_dropAt : (.instanceMethod yX3_dropAt) ∈ rd_T := List.mem_filter.mpr ⟨List.mem_of_getElem? (i := 460) (by decide +kernel), by decide +kernel⟩
theorem rs_X3_dropAt : (.selects RX3 yX3_dropAt yX3_dropAt) ∈ rd_T := List.mem_filter.mpr ⟨List.mem_of_getElem? (i := 461) (by decide +kernel), by decide +kernel⟩
theorem rc_X3_dropAt : (.code yX3_dropAt cX3_dropAt 2 (Option.none : Option Jvm.ClassFile.FieldType)) ∈ rd_T := List.mem_filter.mpr ⟨List.mem_of_getElem? (i := 462) (by decide +kernel), by decide +kernel⟩
theorem rm_X9_142 : (.methodLink RX9 142 yX3_putAt) ∈ rd_T := List.mem_filter.mpr ⟨List.mem_of_getElem? (i := 464) (by decide +kernel), by decide +kernel⟩
theorem ri_X3_putAt : (.instanceMethod yX3_putAt) ∈ rd_T := List.mem_filter.mpr ⟨List.mem_of_getElem? (i := 465) (by decide +kernel), by decide +kernel⟩
theorem rs_X3_putAt : (.selects RX3 yX3_putAt yX3_putAt) ∈ rd_T := List.mem_filter.mpr ⟨List.mem_of_getElem? (i := 466) (by decide +kernel), by decide +kernel⟩
theorem rc_X3_putAt : (.code yX3_putAt cX3_putAt 5 (Option.none : Option Jvm.ClassFile.FieldType)) ∈ rd_T := List.mem_filter.mpr ⟨List.mem_of_getElem? (i := 467) (by decide +kernel), by decide +kernel⟩
theorem rm_L_59 : (.methodLink RL 59 yX9_setEnd) ∈ rd_T := List.mem_filter.mpr ⟨List.mem_of_getElem? (i := 468) (by decide +kernel), by decide +kernel⟩
theorem ri_X9_setEnd : (.instanceMethod yX9_setEnd) ∈ rd_T := List.mem_filter.mpr ⟨List.mem_of_getElem? (i := 469) (by decide +kernel), by decide +kernel⟩
theorem rs_X9_setEnd : (.selects RX9 yX9_setEnd yX9_setEnd) ∈ rd_T := List.mem_filter.mpr ⟨List.mem_of_getElem? (i := 470) (by decide +kernel), by decide +kernel⟩
theorem rc_X9_setEnd : (.code yX9_setEnd cX9_setEnd 3 (Option.some Jvm.ClassFile.FieldType.int)) ∈ rd_T := List.mem_filter.mpr ⟨List.mem_of_getElem? (i := 471) (by decide +kernel), by decide +kernel⟩
theorem rm_L_63 : (.methodLink RL 63 yX9_start) ∈ rd_T := List.mem_filter.mpr ⟨List.mem_of_getElem? (i := 472) (by decide +kernel), by decide +kernel⟩
theorem ri_X9_start : (.instanceMethod yX9_start) ∈ rd_T := List.mem_filter.mpr ⟨List.mem_of_getElem? (i := 473) (by decide +kernel), by decide +kernel⟩
theorem rs_X9_start : (.selects RX9 yX9_start yX9_start) ∈ rd_T := List.mem_filter.mpr ⟨List.mem_of_getElem? (i := 474) (by decide +kernel), by decide +kernel⟩
theorem rc_X9_start : (.code yX9_start cX9_start 2 (Option.some Jvm.ClassFile.FieldType.int)) ∈ rd_T := List.mem_filter.mpr ⟨List.mem_of_getElem? (i := 475) (by decide +kernel), by decide +kernel⟩
theorem rm_X9_148 : (.methodLink RX9 148 yX0_nextShown) ∈ rd_T := List.mem_filter.mpr ⟨List.mem_of_getElem? (i := 476) (by decide +kernel), by decide +kernel⟩
theorem ri_X0_nextShown : (.instanceMethod yX0_nextShown) ∈ rd_T := List.mem_filter.mpr ⟨List.mem_of_getElem? (i := 477) (by decide +kernel), by decide +kernel⟩
theorem rs_X0_nextShown : (.selects RX0 yX0_nextShown yX0_nextShown) ∈ rd_T := List.mem_filter.mpr ⟨List.mem_of_getElem? (i := 478) (by decide +kernel), by decide +kernel⟩
theorem rc_X0_nextShown : (.code yX0_nextShown cX0_nextShown 5 (Option.some Jvm.ClassFile.FieldType.int)) ∈ rd_T := List.mem_filter.mpr ⟨List.mem_of_getElem? (i := 479) (by decide +kernel), by decide +kernel⟩
theorem rm_X0_66 : (.methodLink RX0 66 yX0_numberAt) ∈ rd_T := List.mem_filter.mpr ⟨List.mem_of_getElem? (i := 480) (by decide +kernel), by decide +kernel⟩
theorem ri_X0_numberAt : (.instanceMethod yX0_numberAt) ∈ rd_T := List.mem_filter.mpr ⟨List.mem_of_getElem? (i := 481) (by decide +kernel), by decide +kernel⟩
theorem rs_X0_numberAt : (.selects RX0 yX0_numberAt yX0_numberAt) ∈ rd_T := List.mem_filter.mpr ⟨List.mem_of_getElem? (i := 482) (by decide +kernel), by decide +kernel⟩
theorem rc_X0_numberAt : (.code yX0_numberAt cX0_numberAt 2 (Option.some Jvm.ClassFile.FieldType.int)) ∈ rd_T := List.mem_filter.mpr ⟨List.mem_of_getElem? (i := 483) (by decide +kernel), by decide +kernel⟩
theorem rm_X9_151 : (.methodLink RX9 151 yX6_begin) ∈ rd_T := List.mem_filter.mpr ⟨List.mem_of_getElem? (i := 484) (by decide +kernel), by decide +kernel⟩
theorem ri_X6_begin : (.instanceMethod yX6_begin) ∈ rd_T := List.mem_filter.mpr ⟨List.mem_of_getElem? (i := 485) (by decide +kernel), by decide +kernel⟩
theorem rs_X6_begin : (.selects RX6 yX6_begin yX6_begin) ∈ rd_T := List.mem_filter.mpr ⟨List.mem_of_getElem? (i := 486) (by decide +kernel), by decide +kernel⟩
theorem rc_X6_begin : (.code yX6_begin cX6_begin 2 (Option.none : Option Jvm.ClassFile.FieldType)) ∈ rd_T := List.mem_filter.mpr ⟨List.mem_of_getElem? (i := 487) (by decide +kernel), by decide +kernel⟩
theorem rm_X6_46 : (.methodLink RX6 46 yX6_clear) ∈ rd_T := List.mem_filter.mpr ⟨List.mem_of_getElem? (i := 488) (by decide +kernel), by decide +kernel⟩
theorem ri_X6_clear : (.instanceMethod yX6_clear) ∈ rd_T := List.mem_filter.mpr ⟨List.mem_of_getElem? (i := 489) (by decide +kernel), by decide +kernel⟩
theorem rs_X6_clear : (.selects RX6 yX6_clear yX6_clear) ∈ rd_T := List.mem_filter.mpr ⟨List.mem_of_getElem? (i := 490) (by decide +kernel), by decide +kernel⟩
theorem rc_X6_clear : (.code yX6_clear cX6_clear 1 (Option.none : Option Jvm.ClassFile.FieldType)) ∈ rd_T := List.mem_filter.mpr ⟨List.mem_of_getElem? (i := 491) (by decide +kernel), by decide +kernel⟩
theorem rm_L_67 : (.methodLink RL 67 yX9_stop) ∈ rd_T := List.mem_filter.mpr ⟨List.mem_of_getElem? (i := 492) (by decide +kernel), by decide +kernel⟩
theorem ri_X9_stop : (.instanceMethod yX9_stop) ∈ rd_T := List.mem_filter.mpr ⟨List.mem_of_getElem? (i := 493) (by decide +kernel), by decide +kernel⟩
theorem rs_X9_stop : (.selects RX9 yX9_stop yX9_stop) ∈ rd_T := List.mem_filter.mpr ⟨List.mem_of_getElem? (i := 494) (by decide +kernel), by decide +kernel⟩
theorem rc_X9_stop : (.code yX9_stop cX9_stop 2 (Option.some Jvm.ClassFile.FieldType.int)) ∈ rd_T := List.mem_filter.mpr ⟨List.mem_of_getElem? (i := 495) (by decide +kernel), by decide +kernel⟩
theorem rm_X9_154 : (.methodLink RX9 154 yX8_here) ∈ rd_T := List.mem_filter.mpr ⟨List.mem_of_getElem? (i := 496) (by decide +kernel), by decide +kernel⟩
theorem rm_X9_161 : (.methodLink RX9 161 yX6_clear) ∈ rd_T := List.mem_filter.mpr ⟨List.mem_of_getElem? (i := 497) (by decide +kernel), by decide +kernel⟩
theorem rm_L_71 : (.methodLink RL 71 yX9_forward) ∈ rd_T := List.mem_filter.mpr ⟨List.mem_of_getElem? (i := 498) (by decide +kernel), by decide +kernel⟩
theorem ri_X9_forward : (.instanceMethod yX9_forward) ∈ rd_T := List.mem_filter.mpr ⟨List.mem_of_getElem? (i := 499) (by decide +kernel), by decide +kernel⟩
theorem rs_X9_forward : (.selects RX9 yX9_forward yX9_forward) ∈ rd_T := List.mem_filter.mpr ⟨List.mem_of_getElem? (i := 500) (by decide +kernel), by decide +kernel⟩
theorem rc_X9_forward : (.code yX9_forward cX9_forward 1 (Option.some Jvm.ClassFile.FieldType.int)) ∈ rd_T := List.mem_filter.mpr ⟨List.mem_of_getElem? (i := 501) (by decide +kernel), by decide +kernel⟩
theorem rm_X9_164 : (.methodLink RX9 164 yX8_canMake) ∈ rd_T := List.mem_filter.mpr ⟨List.mem_of_getElem? (i := 502) (by decide +kernel), by decide +kernel⟩
theorem ri_X8_canMake : (.instanceMethod yX8_canMake) ∈ rd_T := List.mem_filter.mpr ⟨List.mem_of_getElem? (i := 503) (by decide +kernel), by decide +kernel⟩
theorem rs_X8_canMake : (.selects RX8 yX8_canMake yX8_canMake) ∈ rd_T := List.mem_filter.mpr ⟨List.mem_of_getElem? (i := 504) (by decide +kernel), by decide +kernel⟩
theorem rc_X8_canMake : (.code yX8_canMake cX8_canMake 4 (Option.some Jvm.ClassFile.FieldType.boolean)) ∈ rd_T := List.mem_filter.mpr ⟨List.mem_of_getElem? (i := 505) (by decide +kernel), by decide +kernel⟩
theorem rm_X8_60 : (.methodLink RX8 60 yX8_isOver) ∈ rd_T := List.mem_filter.mpr ⟨List.mem_of_getElem? (i := 506) (by decide +kernel), by decide +kernel⟩
theorem ri_X8_isOver : (.instanceMethod yX8_isOver) ∈ rd_T := List.mem_filter.mpr ⟨List.mem_of_getElem? (i := 507) (by decide +kernel), by decide +kernel⟩
theorem rs_X8_isOver : (.selects RX8 yX8_isOver yX8_isOver) ∈ rd_T := List.mem_filter.mpr ⟨List.mem_of_getElem? (i := 508) (by decide +kernel), by decide +kernel⟩
theorem rc_X8_isOver : (.code yX8_isOver cX8_isOver 1 (Option.some Jvm.ClassFile.FieldType.boolean)) ∈ rd_T := List.mem_filter.mpr ⟨List.mem_of_getElem? (i := 509) (by decide +kernel), by decide +kernel⟩
theorem rm_X8_64 : (.methodLink RX8 64 yX8_nextNumber) ∈ rd_T := List.mem_filter.mpr ⟨List.mem_of_getElem? (i := 510) (by decide +kernel), by decide +kernel⟩
theorem ri_X8_nextNumber : (.instanceMethod yX8_nextNumber) ∈ rd_T := List.mem_filter.mpr ⟨List.mem_of_getElem? (i := 511) (by decide +kernel), by decide +kernel⟩
theorem rs_X8_nextNumber : (.selects RX8 yX8_nextNumber yX8_nextNumber) ∈ rd_T := List.mem_filter.mpr ⟨List.mem_of_getElem? (i := 512) (by decide +kernel), by decide +kernel⟩
theorem rc_X8_nextNumber : (.code yX8_nextNumber cX8_nextNumber 2 (Option.some Jvm.ClassFile.FieldType.int)) ∈ rd_T := List.mem_filter.mpr ⟨List.mem_of_getElem? (i := 513) (by decide +kernel), by decide +kernel⟩
theorem rm_X8_96 : (.methodLink RX8 96 yX0_placeOf) ∈ rd_T := List.mem_filter.mpr ⟨List.mem_of_getElem? (i := 514) (by decide +kernel), by decide +kernel⟩
theorem rm_X8_99 : (.methodLink RX8 99 yX0_nextShown) ∈ rd_T := List.mem_filter.mpr ⟨List.mem_of_getElem? (i := 515) (by decide +kernel), by decide +kernel⟩
theorem rm_X8_68 : (.methodLink RX8 68 yX8_backPlace) ∈ rd_T := List.mem_filter.mpr ⟨List.mem_of_getElem? (i := 516) (by decide +kernel), by decide +kernel⟩
theorem ri_X8_backPlace : (.instanceMethod yX8_backPlace) ∈ rd_T := List.mem_filter.mpr ⟨List.mem_of_getElem? (i := 517) (by decide +kernel), by decide +kernel⟩
theorem rs_X8_backPlace : (.selects RX8 yX8_backPlace yX8_backPlace) ∈ rd_T := List.mem_filter.mpr ⟨List.mem_of_getElem? (i := 518) (by decide +kernel), by decide +kernel⟩
theorem rc_X8_backPlace : (.code yX8_backPlace cX8_backPlace 3 (Option.some Jvm.ClassFile.FieldType.int)) ∈ rd_T := List.mem_filter.mpr ⟨List.mem_of_getElem? (i := 519) (by decide +kernel), by decide +kernel⟩
theorem rm_X8_112 : (.methodLink RX8 112 yX6_trailValue) ∈ rd_T := List.mem_filter.mpr ⟨List.mem_of_getElem? (i := 520) (by decide +kernel), by decide +kernel⟩
theorem ri_X6_trailValue : (.instanceMethod yX6_trailValue) ∈ rd_T := List.mem_filter.mpr ⟨List.mem_of_getElem? (i := 521) (by decide +kernel), by decide +kernel⟩
theorem rs_X6_trailValue : (.selects RX6 yX6_trailValue yX6_trailValue) ∈ rd_T := List.mem_filter.mpr ⟨List.mem_of_getElem? (i := 522) (by decide +kernel), by decide +kernel⟩
theorem rc_X6_trailValue : (.code yX6_trailValue cX6_trailValue 3 (Option.some Jvm.ClassFile.FieldType.int)) ∈ rd_T := List.mem_filter.mpr ⟨List.mem_of_getElem? (i := 523) (by decide +kernel), by decide +kernel⟩
theorem rm_X8_71 : (.methodLink RX8 71 yX7_targetOf) ∈ rd_T := List.mem_filter.mpr ⟨List.mem_of_getElem? (i := 525) (by decide +kernel), by decide +kernel⟩
theorem rm_X9_168 : (.methodLink RX9 168 yX8_make) ∈ rd_T := List.mem_filter.mpr ⟨List.mem_of_getElem? (i := 526) (by decide +kernel), by decide +kernel⟩
theorem ri_X8_make : (.instanceMethod yX8_make) ∈ rd_T := List.mem_filter.mpr ⟨List.mem_of_getElem? (i := 527) (by decide +kernel), by decide +kernel⟩
theorem rs_X8_make : (.selects RX8 yX8_make yX8_make) ∈ rd_T := List.mem_filter.mpr ⟨List.mem_of_getElem? (i := 528) (by decide +kernel), by decide +kernel⟩
theorem rc_X8_make : (.code yX8_make cX8_make 3 (Option.none : Option Jvm.ClassFile.FieldType)) ∈ rd_T := List.mem_filter.mpr ⟨List.mem_of_getElem? (i := 529) (by decide +kernel), by decide +kernel⟩
theorem rm_X8_77 : (.methodLink RX8 77 yX8_goForward) ∈ rd_T := List.mem_filter.mpr ⟨List.mem_of_getElem? (i := 530) (by decide +kernel), by decide +kernel⟩
theorem ri_X8_goForward : (.instanceMethod yX8_goForward) ∈ rd_T := List.mem_filter.mpr ⟨List.mem_of_getElem? (i := 531) (by decide +kernel), by decide +kernel⟩
theorem rs_X8_goForward : (.selects RX8 yX8_goForward yX8_goForward) ∈ rd_T := List.mem_filter.mpr ⟨List.mem_of_getElem? (i := 532) (by decide +kernel), by decide +kernel⟩
theorem rc_X8_goForward : (.code yX8_goForward cX8_goForward 3 (Option.none : Option Jvm.ClassFile.FieldType)) ∈ rd_T := List.mem_filter.mpr ⟨List.mem_of_getElem? (i := 533) (by decide +kernel), by decide +kernel⟩
theorem rm_X8_105 : (.methodLink RX8 105 yX6_moveTo) ∈ rd_T := List.mem_filter.mpr ⟨List.mem_of_getElem? (i := 534) (by decide +kernel), by decide +kernel⟩
theorem ri_X6_moveTo : (.instanceMethod yX6_moveTo) ∈ rd_T := List.mem_filter.mpr ⟨List.mem_of_getElem? (i := 535) (by decide +kernel), by decide +kernel⟩
theorem rs_X6_moveTo : (.selects RX6 yX6_moveTo yX6_moveTo) ∈ rd_T := List.mem_filter.mpr ⟨List.mem_of_getElem? (i := 536) (by decide +kernel), by decide +kernel⟩
theorem rc_X6_moveTo : (.code yX6_moveTo cX6_moveTo 4 (Option.none : Option Jvm.ClassFile.FieldType)) ∈ rd_T := List.mem_filter.mpr ⟨List.mem_of_getElem? (i := 537) (by decide +kernel), by decide +kernel⟩
theorem rm_X6_49 : (.methodLink RX6 49 yX6_dropOldest) ∈ rd_T := List.mem_filter.mpr ⟨List.mem_of_getElem? (i := 538) (by decide +kernel), by decide +kernel⟩
theorem ri_X6_dropOldest : (.instanceMethod yX6_dropOldest) ∈ rd_T := List.mem_filter.mpr ⟨List.mem_of_getElem? (i := 539) (by decide +kernel), by decide +kernel⟩
theorem rs_X6_dropOldest : (.selects RX6 yX6_dropOldest yX6_dropOldest) ∈ rd_T := List.mem_filter.mpr ⟨List.mem_of_getElem? (i := 540) (by decide +kernel), by decide +kernel⟩
theorem rc_X6_dropOldest : (.code yX6_dropOldest cX6_dropOldest 2 (Option.none : Option Jvm.ClassFile.FieldType)) ∈ rd_T := List.mem_filter.mpr ⟨List.mem_of_getElem? (i := 541) (by decide +kernel), by decide +kernel⟩
theorem rm_X8_80 : (.methodLink RX8 80 yX8_goBack) ∈ rd_T := List.mem_filter.mpr ⟨List.mem_of_getElem? (i := 542) (by decide +kernel), by decide +kernel⟩
theorem ri_X8_goBack : (.instanceMethod yX8_goBack) ∈ rd_T := List.mem_filter.mpr ⟨List.mem_of_getElem? (i := 543) (by decide +kernel), by decide +kernel⟩
theorem rs_X8_goBack : (.selects RX8 yX8_goBack yX8_goBack) ∈ rd_T := List.mem_filter.mpr ⟨List.mem_of_getElem? (i := 544) (by decide +kernel), by decide +kernel⟩
theorem rc_X8_goBack : (.code yX8_goBack cX8_goBack 1 (Option.none : Option Jvm.ClassFile.FieldType)) ∈ rd_T := List.mem_filter.mpr ⟨List.mem_of_getElem? (i := 545) (by decide +kernel), by decide +kernel⟩
theorem rm_X8_120 : (.methodLink RX8 120 yX6_returnTo) ∈ rd_T := List.mem_filter.mpr ⟨List.mem_of_getElem? (i := 546) (by decide +kernel), by decide +kernel⟩
theorem ri_X6_returnTo : (.instanceMethod yX6_returnTo) ∈ rd_T := List.mem_filter.mpr ⟨List.mem_of_getElem? (i := 547) (by decide +kernel), by decide +kernel⟩
theorem rs_X6_returnTo : (.selects RX6 yX6_returnTo yX6_returnTo) ∈ rd_T := List.mem_filter.mpr ⟨List.mem_of_getElem? (i := 548) (by decide +kernel), by decide +kernel⟩
theorem rc_X6_returnTo : (.code yX6_returnTo cX6_returnTo 2 (Option.none : Option Jvm.ClassFile.FieldType)) ∈ rd_T := List.mem_filter.mpr ⟨List.mem_of_getElem? (i := 549) (by decide +kernel), by decide +kernel⟩
theorem rm_X8_123 : (.methodLink RX8 123 yX8_clampStep) ∈ rd_T := List.mem_filter.mpr ⟨List.mem_of_getElem? (i := 550) (by decide +kernel), by decide +kernel⟩
theorem rm_X8_83 : (.methodLink RX8 83 yX8_goByKey) ∈ rd_T := List.mem_filter.mpr ⟨List.mem_of_getElem? (i := 551) (by decide +kernel), by decide +kernel⟩
theorem ri_X8_goByKey : (.instanceMethod yX8_goByKey) ∈ rd_T := List.mem_filter.mpr ⟨List.mem_of_getElem? (i := 552) (by decide +kernel), by decide +kernel⟩
theorem rs_X8_goByKey : (.selects RX8 yX8_goByKey yX8_goByKey) ∈ rd_T := List.mem_filter.mpr ⟨List.mem_of_getElem? (i := 553) (by decide +kernel), by decide +kernel⟩
theorem rc_X8_goByKey : (.code yX8_goByKey cX8_goByKey 3 (Option.none : Option Jvm.ClassFile.FieldType)) ∈ rd_T := List.mem_filter.mpr ⟨List.mem_of_getElem? (i := 554) (by decide +kernel), by decide +kernel⟩
theorem rm_X8_87 : (.methodLink RX8 87 yX8_passSeconds) ∈ rd_T := List.mem_filter.mpr ⟨List.mem_of_getElem? (i := 555) (by decide +kernel), by decide +kernel⟩
theorem ri_X8_passSeconds : (.instanceMethod yX8_passSeconds) ∈ rd_T := List.mem_filter.mpr ⟨List.mem_of_getElem? (i := 556) (by decide +kernel), by decide +kernel⟩
theorem rs_X8_passSeconds : (.selects RX8 yX8_passSeconds yX8_passSeconds) ∈ rd_T := List.mem_filter.mpr ⟨List.mem_of_getElem? (i := 557) (by decide +kernel), by decide +kernel⟩
theorem rc_X8_passSeconds : (.code yX8_passSeconds cX8_passSeconds 4 (Option.some Jvm.ClassFile.FieldType.int)) ∈ rd_T := List.mem_filter.mpr ⟨List.mem_of_getElem? (i := 558) (by decide +kernel), by decide +kernel⟩
theorem rm_X8_134 : (.methodLink RX8 134 yX8_isPauseOver) ∈ rd_T := List.mem_filter.mpr ⟨List.mem_of_getElem? (i := 559) (by decide +kernel), by decide +kernel⟩
theorem ri_X8_isPauseOver : (.instanceMethod yX8_isPauseOver) ∈ rd_T := List.mem_filter.mpr ⟨List.mem_of_getElem? (i := 560) (by decide +kernel), by decide +kernel⟩
theorem rs_X8_isPauseOver : (.selects RX8 yX8_isPauseOver yX8_isPauseOver) ∈ rd_T := List.mem_filter.mpr ⟨List.mem_of_getElem? (i := 561) (by decide +kernel), by decide +kernel⟩
theorem rc_X8_isPauseOver : (.code yX8_isPauseOver cX8_isPauseOver 2 (Option.some Jvm.ClassFile.FieldType.boolean)) ∈ rd_T := List.mem_filter.mpr ⟨List.mem_of_getElem? (i := 562) (by decide +kernel), by decide +kernel⟩
theorem rm_L_75 : (.methodLink RL 75 yX9_back) ∈ rd_T := List.mem_filter.mpr ⟨List.mem_of_getElem? (i := 563) (by decide +kernel), by decide +kernel⟩
theorem ri_X9_back : (.instanceMethod yX9_back) ∈ rd_T := List.mem_filter.mpr ⟨List.mem_of_getElem? (i := 564) (by decide +kernel), by decide +kernel⟩
theorem rs_X9_back : (.selects RX9 yX9_back yX9_back) ∈ rd_T := List.mem_filter.mpr ⟨List.mem_of_getElem? (i := 565) (by decide +kernel), by decide +kernel⟩
theorem rc_X9_back : (.code yX9_back cX9_back 1 (Option.some Jvm.ClassFile.FieldType.int)) ∈ rd_T := List.mem_filter.mpr ⟨List.mem_of_getElem? (i := 566) (by decide +kernel), by decide +kernel⟩
theorem rm_L_79 : (.methodLink RL 79 yX9_press) ∈ rd_T := List.mem_filter.mpr ⟨List.mem_of_getElem? (i := 567) (by decide +kernel), by decide +kernel⟩
theorem ri_X9_press : (.instanceMethod yX9_press) ∈ rd_T := List.mem_filter.mpr ⟨List.mem_of_getElem? (i := 568) (by decide +kernel), by decide +kernel⟩
theorem rs_X9_press : (.selects RX9 yX9_press yX9_press) ∈ rd_T := List.mem_filter.mpr ⟨List.mem_of_getElem? (i := 569) (by decide +kernel), by decide +kernel⟩
theorem rc_X9_press : (.code yX9_press cX9_press 2 (Option.some Jvm.ClassFile.FieldType.int)) ∈ rd_T := List.mem_filter.mpr ⟨List.mem_of_getElem? (i := 570) (by decide +kernel), by decide +kernel⟩
theorem rm_L_83 : (.methodLink RL 83 yX9_tick) ∈ rd_T := List.mem_filter.mpr ⟨List.mem_of_getElem? (i := 571) (by decide +kernel), by decide +kernel⟩
theorem ri_X9_tick : (.instanceMethod yX9_tick) ∈ rd_T := List.mem_filter.mpr ⟨List.mem_of_getElem? (i := 572) (by decide +kernel), by decide +kernel⟩
theorem rs_X9_tick : (.selects RX9 yX9_tick yX9_tick) ∈ rd_T := List.mem_filter.mpr ⟨List.mem_of_getElem? (i := 573) (by decide +kernel), by decide +kernel⟩
theorem rc_X9_tick : (.code yX9_tick cX9_tick 2 (Option.some Jvm.ClassFile.FieldType.int)) ∈ rd_T := List.mem_filter.mpr ⟨List.mem_of_getElem? (i := 574) (by decide +kernel), by decide +kernel⟩
theorem rm_X9_175 : (.methodLink RX9 175 yX8_passSeconds) ∈ rd_T := List.mem_filter.mpr ⟨List.mem_of_getElem? (i := 575) (by decide +kernel), by decide +kernel⟩
theorem rm_L_87 : (.methodLink RL 87 yX9_append) ∈ rd_T := List.mem_filter.mpr ⟨List.mem_of_getElem? (i := 576) (by decide +kernel), by decide +kernel⟩
theorem ri_X9_append : (.instanceMethod yX9_append) ∈ rd_T := List.mem_filter.mpr ⟨List.mem_of_getElem? (i := 577) (by decide +kernel), by decide +kernel⟩
theorem rs_X9_append : (.selects RX9 yX9_append yX9_append) ∈ rd_T := List.mem_filter.mpr ⟨List.mem_of_getElem? (i := 578) (by decide +kernel), by decide +kernel⟩
theorem rc_X9_append : (.code yX9_append cX9_append 2 (Option.some Jvm.ClassFile.FieldType.int)) ∈ rd_T := List.mem_filter.mpr ⟨List.mem_of_getElem? (i := 579) (by decide +kernel), by decide +kernel⟩
theorem rm_X9_181 : (.methodLink RX9 181 yX5_addSign) ∈ rd_T := List.mem_filter.mpr ⟨List.mem_of_getElem? (i := 580) (by decide +kernel), by decide +kernel⟩
theorem ri_X5_addSign : (.instanceMethod yX5_addSign) ∈ rd_T := List.mem_filter.mpr ⟨List.mem_of_getElem? (i := 581) (by decide +kernel), by decide +kernel⟩
theorem rs_X5_addSign : (.selects RX5 yX5_addSign yX5_addSign) ∈ rd_T := List.mem_filter.mpr ⟨List.mem_of_getElem? (i := 582) (by decide +kernel), by decide +kernel⟩
theorem rc_X5_addSign : (.code yX5_addSign cX5_addSign 2 (Option.none : Option Jvm.ClassFile.FieldType)) ∈ rd_T := List.mem_filter.mpr ⟨List.mem_of_getElem? (i := 583) (by decide +kernel), by decide +kernel⟩
theorem rm_L_91 : (.methodLink RL 91 yX9_clearText) ∈ rd_T := List.mem_filter.mpr ⟨List.mem_of_getElem? (i := 584) (by decide +kernel), by decide +kernel⟩
theorem ri_X9_clearText : (.instanceMethod yX9_clearText) ∈ rd_T := List.mem_filter.mpr ⟨List.mem_of_getElem? (i := 585) (by decide +kernel), by decide +kernel⟩
theorem rs_X9_clearText : (.selects RX9 yX9_clearText yX9_clearText) ∈ rd_T := List.mem_filter.mpr ⟨List.mem_of_getElem? (i := 586) (by decide +kernel), by decide +kernel⟩
theorem rc_X9_clearText : (.code yX9_clearText cX9_clearText 2 (Option.some Jvm.ClassFile.FieldType.int)) ∈ rd_T := List.mem_filter.mpr ⟨List.mem_of_getElem? (i := 587) (by decide +kernel), by decide +kernel⟩
theorem rm_L_95 : (.methodLink RL 95 yX9_fault) ∈ rd_T := List.mem_filter.mpr ⟨List.mem_of_getElem? (i := 588) (by decide +kernel), by decide +kernel⟩
theorem ri_X9_fault : (.instanceMethod yX9_fault) ∈ rd_T := List.mem_filter.mpr ⟨List.mem_of_getElem? (i := 589) (by decide +kernel), by decide +kernel⟩
theorem rs_X9_fault : (.selects RX9 yX9_fault yX9_fault) ∈ rd_T := List.mem_filter.mpr ⟨List.mem_of_getElem? (i := 590) (by decide +kernel), by decide +kernel⟩
theorem rc_X9_fault : (.code yX9_fault cX9_fault 1 (Option.some Jvm.ClassFile.FieldType.int)) ∈ rd_T := List.mem_filter.mpr ⟨List.mem_of_getElem? (i := 591) (by decide +kernel), by decide +kernel⟩
theorem rm_X9_185 : (.methodLink RX9 185 yX5_findFault) ∈ rd_T := List.mem_filter.mpr ⟨List.mem_of_getElem? (i := 592) (by decide +kernel), by decide +kernel⟩
theorem ri_X5_findFault : (.instanceMethod yX5_findFault) ∈ rd_T := List.mem_filter.mpr ⟨List.mem_of_getElem? (i := 593) (by decide +kernel), by decide +kernel⟩
theorem rs_X5_findFault : (.selects RX5 yX5_findFault yX5_findFault) ∈ rd_T := List.mem_filter.mpr ⟨List.mem_of_getElem? (i := 594) (by decide +kernel), by decide +kernel⟩
theorem rc_X5_findFault : (.code yX5_findFault cX5_findFault 3 (Option.some Jvm.ClassFile.FieldType.int)) ∈ rd_T := List.mem_filter.mpr ⟨List.mem_of_getElem? (i := 595) (by decide +kernel), by decide +kernel⟩
theorem rm_X5_23 : (.methodLink RX5 23 yX5_signAt) ∈ rd_T := List.mem_filter.mpr ⟨List.mem_of_getElem? (i := 596) (by decide +kernel), by decide +kernel⟩
theorem ri_X5_signAt : (.instanceMethod yX5_signAt) ∈ rd_T := List.mem_filter.mpr ⟨List.mem_of_getElem? (i := 597) (by decide +kernel), by decide +kernel⟩
theorem rs_X5_signAt : (.selects RX5 yX5_signAt yX5_signAt) ∈ rd_T := List.mem_filter.mpr ⟨List.mem_of_getElem? (i := 598) (by decide +kernel), by decide +kernel⟩
theorem rc_X5_signAt : (.code yX5_signAt cX5_signAt 2 (Option.some Jvm.ClassFile.FieldType.char)) ∈ rd_T := List.mem_filter.mpr ⟨List.mem_of_getElem? (i := 599) (by decide +kernel), by decide +kernel⟩
theorem rm_X5_27 : (.methodLink RX5 27 yX5_expectedBehind) ∈ rd_T := List.mem_filter.mpr ⟨List.mem_of_getElem? (i := 601) (by decide +kernel), by decide +kernel⟩
theorem rt_X5_expectedBehind : (.static yX5_expectedBehind) ∈ rd_T := List.mem_filter.mpr ⟨List.mem_of_getElem? (i := 602) (by decide +kernel), by decide +kernel⟩
theorem rc_X5_expectedBehind : (.code yX5_expectedBehind cX5_expectedBehind 2 (Option.some Jvm.ClassFile.FieldType.int)) ∈ rd_T := List.mem_filter.mpr ⟨List.mem_of_getElem? (i := 603) (by decide +kernel), by decide +kernel⟩
theorem rm_X5_31 : (.methodLink RX5 31 yX5_expectedBehindLetter) ∈ rd_T := List.mem_filter.mpr ⟨List.mem_of_getElem? (i := 604) (by decide +kernel), by decide +kernel⟩
theorem rt_X5_expectedBehindLetter : (.static yX5_expectedBehindLetter) ∈ rd_T := List.mem_filter.mpr ⟨List.mem_of_getElem? (i := 605) (by decide +kernel), by decide +kernel⟩
theorem rc_X5_expectedBehindLetter : (.code yX5_expectedBehindLetter cX5_expectedBehindLetter 1 (Option.some Jvm.ClassFile.FieldType.int)) ∈ rd_T := List.mem_filter.mpr ⟨List.mem_of_getElem? (i := 606) (by decide +kernel), by decide +kernel⟩
theorem rm_X5_35 : (.methodLink RX5 35 yX5_isDigit) ∈ rd_T := List.mem_filter.mpr ⟨List.mem_of_getElem? (i := 607) (by decide +kernel), by decide +kernel⟩
theorem rt_X5_isDigit : (.static yX5_isDigit) ∈ rd_T := List.mem_filter.mpr ⟨List.mem_of_getElem? (i := 608) (by decide +kernel), by decide +kernel⟩
theorem rc_X5_isDigit : (.code yX5_isDigit cX5_isDigit 1 (Option.some Jvm.ClassFile.FieldType.boolean)) ∈ rd_T := List.mem_filter.mpr ⟨List.mem_of_getElem? (i := 609) (by decide +kernel), by decide +kernel⟩
theorem rm_X5_39 : (.methodLink RX5 39 yX5_expectedBehindMove) ∈ rd_T := List.mem_filter.mpr ⟨List.mem_of_getElem? (i := 610) (by decide +kernel), by decide +kernel⟩
theorem rt_X5_expectedBehindMove : (.static yX5_expectedBehindMove) ∈ rd_T := List.mem_filter.mpr ⟨List.mem_of_getElem? (i := 611) (by decide +kernel), by decide +kernel⟩
theorem rc_X5_expectedBehindMove : (.code yX5_expectedBehindMove cX5_expectedBehindMove 1 (Option.some Jvm.ClassFile.FieldType.int)) ∈ rd_T := List.mem_filter.mpr ⟨List.mem_of_getElem? (i := 612) (by decide +kernel), by decide +kernel⟩
theorem rm_L_99 : (.methodLink RL 99 yX9_run) ∈ rd_T := List.mem_filter.mpr ⟨List.mem_of_getElem? (i := 613) (by decide +kernel), by decide +kernel⟩
theorem ri_X9_run : (.instanceMethod yX9_run) ∈ rd_T := List.mem_filter.mpr ⟨List.mem_of_getElem? (i := 614) (by decide +kernel), by decide +kernel⟩
theorem rs_X9_run : (.selects RX9 yX9_run yX9_run) ∈ rd_T := List.mem_filter.mpr ⟨List.mem_of_getElem? (i := 615) (by decide +kernel), by decide +kernel⟩
theorem rc_X9_run : (.code yX9_run cX9_run 5 (Option.some Jvm.ClassFile.FieldType.int)) ∈ rd_T := List.mem_filter.mpr ⟨List.mem_of_getElem? (i := 616) (by decide +kernel), by decide +kernel⟩
theorem rm_X9_188 : (.methodLink RX9 188 yX4_clear) ∈ rd_T := List.mem_filter.mpr ⟨List.mem_of_getElem? (i := 617) (by decide +kernel), by decide +kernel⟩
theorem ri_X4_clear : (.instanceMethod yX4_clear) ∈ rd_T := List.mem_filter.mpr ⟨List.mem_of_getElem? (i := 618) (by decide +kernel), by decide +kernel⟩
theorem rs_X4_clear : (.selects RX4 yX4_clear yX4_clear) ∈ rd_T := List.mem_filter.mpr ⟨List.mem_of_getElem? (i := 619) (by decide +kernel), by decide +kernel⟩
theorem rc_X4_clear : (.code yX4_clear cX4_clear 1 (Option.none : Option Jvm.ClassFile.FieldType)) ∈ rd_T := List.mem_filter.mpr ⟨List.mem_of_getElem? (i := 620) (by decide +kernel), by decide +kernel⟩
theorem rm_X9_189 : (.methodLink RX9 189 yX5_signAt) ∈ rd_T := List.mem_filter.mpr ⟨List.mem_of_getElem? (i := 621) (by decide +kernel), by decide +kernel⟩
theorem rm_X9_193 : (.methodLink RX9 193 yX5_isMove) ∈ rd_T := List.mem_filter.mpr ⟨List.mem_of_getElem? (i := 622) (by decide +kernel), by decide +kernel⟩
theorem rt_X5_isMove : (.static yX5_isMove) ∈ rd_T := List.mem_filter.mpr ⟨List.mem_of_getElem? (i := 623) (by decide +kernel), by decide +kernel⟩
theorem rc_X5_isMove : (.code yX5_isMove cX5_isMove 1 (Option.some Jvm.ClassFile.FieldType.boolean)) ∈ rd_T := List.mem_filter.mpr ⟨List.mem_of_getElem? (i := 624) (by decide +kernel), by decide +kernel⟩
theorem rm_X9_197 : (.methodLink RX9 197 yX5_numberBehind) ∈ rd_T := List.mem_filter.mpr ⟨List.mem_of_getElem? (i := 625) (by decide +kernel), by decide +kernel⟩
theorem ri_X5_numberBehind : (.instanceMethod yX5_numberBehind) ∈ rd_T := List.mem_filter.mpr ⟨List.mem_of_getElem? (i := 626) (by decide +kernel), by decide +kernel⟩
theorem rs_X5_numberBehind : (.selects RX5 yX5_numberBehind yX5_numberBehind) ∈ rd_T := List.mem_filter.mpr ⟨List.mem_of_getElem? (i := 627) (by decide +kernel), by decide +kernel⟩
theorem rc_X5_numberBehind : (.code yX5_numberBehind cX5_numberBehind 4 (Option.some Jvm.ClassFile.FieldType.int)) ∈ rd_T := List.mem_filter.mpr ⟨List.mem_of_getElem? (i := 628) (by decide +kernel), by decide +kernel⟩
theorem rm_X9_200 : (.methodLink RX9 200 yX4_tell) ∈ rd_T := List.mem_filter.mpr ⟨List.mem_of_getElem? (i := 629) (by decide +kernel), by decide +kernel⟩
theorem ri_X4_tell : (.instanceMethod yX4_tell) ∈ rd_T := List.mem_filter.mpr ⟨List.mem_of_getElem? (i := 630) (by decide +kernel), by decide +kernel⟩
theorem rs_X4_tell : (.selects RX4 yX4_tell yX4_tell) ∈ rd_T := List.mem_filter.mpr ⟨List.mem_of_getElem? (i := 631) (by decide +kernel), by decide +kernel⟩
theorem rc_X4_tell : (.code yX4_tell cX4_tell 5 (Option.none : Option Jvm.ClassFile.FieldType)) ∈ rd_T := List.mem_filter.mpr ⟨List.mem_of_getElem? (i := 632) (by decide +kernel), by decide +kernel⟩
theorem rm_L_103 : (.methodLink RL 103 yX9_why) ∈ rd_T := List.mem_filter.mpr ⟨List.mem_of_getElem? (i := 633) (by decide +kernel), by decide +kernel⟩
theorem ri_X9_why : (.instanceMethod yX9_why) ∈ rd_T := List.mem_filter.mpr ⟨List.mem_of_getElem? (i := 634) (by decide +kernel), by decide +kernel⟩
theorem rs_X9_why : (.selects RX9 yX9_why yX9_why) ∈ rd_T := List.mem_filter.mpr ⟨List.mem_of_getElem? (i := 635) (by decide +kernel), by decide +kernel⟩
theorem rc_X9_why : (.code yX9_why cX9_why 2 (Option.some Jvm.ClassFile.FieldType.int)) ∈ rd_T := List.mem_filter.mpr ⟨List.mem_of_getElem? (i := 636) (by decide +kernel), by decide +kernel⟩
theorem rm_L_107 : (.methodLink RL 107 yX9_undo) ∈ rd_T := List.mem_filter.mpr ⟨List.mem_of_getElem? (i := 637) (by decide +kernel), by decide +kernel⟩
theorem ri_X9_undo : (.instanceMethod yX9_undo) ∈ rd_T := List.mem_filter.mpr ⟨List.mem_of_getElem? (i := 638) (by decide +kernel), by decide +kernel⟩
theorem rs_X9_undo : (.selects RX9 yX9_undo yX9_undo) ∈ rd_T := List.mem_filter.mpr ⟨List.mem_of_getElem? (i := 639) (by decide +kernel), by decide +kernel⟩
theorem rc_X9_undo : (.code yX9_undo cX9_undo 1 (Option.some Jvm.ClassFile.FieldType.int)) ∈ rd_T := List.mem_filter.mpr ⟨List.mem_of_getElem? (i := 640) (by decide +kernel), by decide +kernel⟩
theorem rm_X9_213 : (.methodLink RX9 213 yX2_restore) ∈ rd_T := List.mem_filter.mpr ⟨List.mem_of_getElem? (i := 641) (by decide +kernel), by decide +kernel⟩
theorem ri_X2_restore : (.instanceMethod yX2_restore) ∈ rd_T := List.mem_filter.mpr ⟨List.mem_of_getElem? (i := 642) (by decide +kernel), by decide +kernel⟩
theorem rs_X2_restore : (.selects RX2 yX2_restore yX2_restore) ∈ rd_T := List.mem_filter.mpr ⟨List.mem_of_getElem? (i := 643) (by decide +kernel), by decide +kernel⟩
theorem rc_X2_restore : (.code yX2_restore cX2_restore 2 (Option.none : Option Jvm.ClassFile.FieldType)) ∈ rd_T := List.mem_filter.mpr ⟨List.mem_of_getElem? (i := 644) (by decide +kernel), by decide +kernel⟩
theorem rm_L_111 : (.methodLink RL 111 yX9_slides) ∈ rd_T := List.mem_filter.mpr ⟨List.mem_of_getElem? (i := 645) (by decide +kernel), by decide +kernel⟩
theorem ri_X9_slides : (.instanceMethod yX9_slides) ∈ rd_T := List.mem_filter.mpr ⟨List.mem_of_getElem? (i := 646) (by decide +kernel), by decide +kernel⟩
theorem rs_X9_slides : (.selects RX9 yX9_slides yX9_slides) ∈ rd_T := List.mem_filter.mpr ⟨List.mem_of_getElem? (i := 647) (by decide +kernel), by decide +kernel⟩
theorem rc_X9_slides : (.code yX9_slides cX9_slides 1 (Option.some Jvm.ClassFile.FieldType.int)) ∈ rd_T := List.mem_filter.mpr ⟨List.mem_of_getElem? (i := 648) (by decide +kernel), by decide +kernel⟩
theorem rm_L_115 : (.methodLink RL 115 yX9_slideAt) ∈ rd_T := List.mem_filter.mpr ⟨List.mem_of_getElem? (i := 649) (by decide +kernel), by decide +kernel⟩
theorem ri_X9_slideAt : (.instanceMethod yX9_slideAt) ∈ rd_T := List.mem_filter.mpr ⟨List.mem_of_getElem? (i := 650) (by decide +kernel), by decide +kernel⟩
theorem rs_X9_slideAt : (.selects RX9 yX9_slideAt yX9_slideAt) ∈ rd_T := List.mem_filter.mpr ⟨List.mem_of_getElem? (i := 651) (by decide +kernel), by decide +kernel⟩
theorem rc_X9_slideAt : (.code yX9_slideAt cX9_slideAt 3 (Option.some Jvm.ClassFile.FieldType.int)) ∈ rd_T := List.mem_filter.mpr ⟨List.mem_of_getElem? (i := 652) (by decide +kernel), by decide +kernel⟩
theorem rm_X9_216 : (.methodLink RX9 216 yX0_numberAt) ∈ rd_T := List.mem_filter.mpr ⟨List.mem_of_getElem? (i := 653) (by decide +kernel), by decide +kernel⟩
theorem rm_L_119 : (.methodLink RL 119 yX9_slide) ∈ rd_T := List.mem_filter.mpr ⟨List.mem_of_getElem? (i := 654) (by decide +kernel), by decide +kernel⟩
theorem ri_X9_slide : (.instanceMethod yX9_slide) ∈ rd_T := List.mem_filter.mpr ⟨List.mem_of_getElem? (i := 655) (by decide +kernel), by decide +kernel⟩
theorem rs_X9_slide : (.selects RX9 yX9_slide yX9_slide) ∈ rd_T := List.mem_filter.mpr ⟨List.mem_of_getElem? (i := 656) (by decide +kernel), by decide +kernel⟩
theorem rc_X9_slide : (.code yX9_slide cX9_slide 4 (Option.some Jvm.ClassFile.FieldType.int)) ∈ rd_T := List.mem_filter.mpr ⟨List.mem_of_getElem? (i := 657) (by decide +kernel), by decide +kernel⟩
theorem rm_X9_219 : (.methodLink RX9 219 yX9_asNumber) ∈ rd_T := List.mem_filter.mpr ⟨List.mem_of_getElem? (i := 658) (by decide +kernel), by decide +kernel⟩
theorem rt_X9_asNumber : (.static yX9_asNumber) ∈ rd_T := List.mem_filter.mpr ⟨List.mem_of_getElem? (i := 659) (by decide +kernel), by decide +kernel⟩
theorem rc_X9_asNumber : (.code yX9_asNumber cX9_asNumber 1 (Option.some Jvm.ClassFile.FieldType.int)) ∈ rd_T := List.mem_filter.mpr ⟨List.mem_of_getElem? (i := 660) (by decide +kernel), by decide +kernel⟩
theorem rm_X9_223 : (.methodLink RX9 223 yX7_finalStep) ∈ rd_T := List.mem_filter.mpr ⟨List.mem_of_getElem? (i := 661) (by decide +kernel), by decide +kernel⟩
theorem rm_L_123 : (.methodLink RL 123 yX9_item) ∈ rd_T := List.mem_filter.mpr ⟨List.mem_of_getElem? (i := 662) (by decide +kernel), by decide +kernel⟩
theorem ri_X9_item : (.instanceMethod yX9_item) ∈ rd_T := List.mem_filter.mpr ⟨List.mem_of_getElem? (i := 663) (by decide +kernel), by decide +kernel⟩
theorem rs_X9_item : (.selects RX9 yX9_item yX9_item) ∈ rd_T := List.mem_filter.mpr ⟨List.mem_of_getElem? (i := 664) (by decide +kernel), by decide +kernel⟩
theorem rc_X9_item : (.code yX9_item cX9_item 5 (Option.some Jvm.ClassFile.FieldType.int)) ∈ rd_T := List.mem_filter.mpr ⟨List.mem_of_getElem? (i := 665) (by decide +kernel), by decide +kernel⟩
theorem rm_L_127 : (.methodLink RL 127 yX9_target) ∈ rd_T := List.mem_filter.mpr ⟨List.mem_of_getElem? (i := 666) (by decide +kernel), by decide +kernel⟩
theorem ri_X9_target : (.instanceMethod yX9_target) ∈ rd_T := List.mem_filter.mpr ⟨List.mem_of_getElem? (i := 667) (by decide +kernel), by decide +kernel⟩
theorem rs_X9_target : (.selects RX9 yX9_target yX9_target) ∈ rd_T := List.mem_filter.mpr ⟨List.mem_of_getElem? (i := 668) (by decide +kernel), by decide +kernel⟩
theorem rc_X9_target : (.code yX9_target cX9_target 5 (Option.some Jvm.ClassFile.FieldType.int)) ∈ rd_T := List.mem_filter.mpr ⟨List.mem_of_getElem? (i := 669) (by decide +kernel), by decide +kernel⟩
theorem rm_L_131 : (.methodLink RL 131 yX9_picture) ∈ rd_T := List.mem_filter.mpr ⟨List.mem_of_getElem? (i := 670) (by decide +kernel), by decide +kernel⟩
theorem ri_X9_picture : (.instanceMethod yX9_picture) ∈ rd_T := List.mem_filter.mpr ⟨List.mem_of_getElem? (i := 671) (by decide +kernel), by decide +kernel⟩
theorem rs_X9_picture : (.selects RX9 yX9_picture yX9_picture) ∈ rd_T := List.mem_filter.mpr ⟨List.mem_of_getElem? (i := 672) (by decide +kernel), by decide +kernel⟩
theorem rc_X9_picture : (.code yX9_picture cX9_picture 4 (Option.some Jvm.ClassFile.FieldType.int)) ∈ rd_T := List.mem_filter.mpr ⟨List.mem_of_getElem? (i := 673) (by decide +kernel), by decide +kernel⟩
theorem rm_X9_236 : (.methodLink RX9 236 yX7_maskAt) ∈ rd_T := List.mem_filter.mpr ⟨List.mem_of_getElem? (i := 674) (by decide +kernel), by decide +kernel⟩
theorem ri_X7_maskAt : (.instanceMethod yX7_maskAt) ∈ rd_T := List.mem_filter.mpr ⟨List.mem_of_getElem? (i := 675) (by decide +kernel), by decide +kernel⟩
theorem rs_X7_maskAt : (.selects RX7 yX7_maskAt yX7_maskAt) ∈ rd_T := List.mem_filter.mpr ⟨List.mem_of_getElem? (i := 676) (by decide +kernel), by decide +kernel⟩
theorem rc_X7_maskAt : (.code yX7_maskAt cX7_maskAt 4 (Option.some Jvm.ClassFile.FieldType.int)) ∈ rd_T := List.mem_filter.mpr ⟨List.mem_of_getElem? (i := 677) (by decide +kernel), by decide +kernel⟩
theorem rm_X7_54 : (.methodLink RX7 54 yX7_isSeen) ∈ rd_T := List.mem_filter.mpr ⟨List.mem_of_getElem? (i := 678) (by decide +kernel), by decide +kernel⟩
theorem ri_X7_isSeen : (.instanceMethod yX7_isSeen) ∈ rd_T := List.mem_filter.mpr ⟨List.mem_of_getElem? (i := 679) (by decide +kernel), by decide +kernel⟩
theorem rs_X7_isSeen : (.selects RX7 yX7_isSeen yX7_isSeen) ∈ rd_T := List.mem_filter.mpr ⟨List.mem_of_getElem? (i := 680) (by decide +kernel), by decide +kernel⟩
theorem rc_X7_isSeen : (.code yX7_isSeen cX7_isSeen 3 (Option.some Jvm.ClassFile.FieldType.boolean)) ∈ rd_T := List.mem_filter.mpr ⟨List.mem_of_getElem? (i := 681) (by decide +kernel), by decide +kernel⟩
theorem rm_L_135 : (.methodLink RL 135 yX9_now) ∈ rd_T := List.mem_filter.mpr ⟨List.mem_of_getElem? (i := 682) (by decide +kernel), by decide +kernel⟩
theorem ri_X9_now : (.instanceMethod yX9_now) ∈ rd_T := List.mem_filter.mpr ⟨List.mem_of_getElem? (i := 683) (by decide +kernel), by decide +kernel⟩
theorem rs_X9_now : (.selects RX9 yX9_now yX9_now) ∈ rd_T := List.mem_filter.mpr ⟨List.mem_of_getElem? (i := 684) (by decide +kernel), by decide +kernel⟩
theorem rc_X9_now : (.code yX9_now cX9_now 2 (Option.some Jvm.ClassFile.FieldType.int)) ∈ rd_T := List.mem_filter.mpr ⟨List.mem_of_getElem? (i := 685) (by decide +kernel), by decide +kernel⟩
theorem rm_X9_245 : (.methodLink RX9 245 yX8_isOver) ∈ rd_T := List.mem_filter.mpr ⟨List.mem_of_getElem? (i := 686) (by decide +kernel), by decide +kernel⟩
theorem rm_L_139 : (.methodLink RL 139 yX9_trail) ∈ rd_T := List.mem_filter.mpr ⟨List.mem_of_getElem? (i := 687) (by decide +kernel), by decide +kernel⟩
theorem ri_X9_trail : (.instanceMethod yX9_trail) ∈ rd_T := List.mem_filter.mpr ⟨List.mem_of_getElem? (i := 688) (by decide +kernel), by decide +kernel⟩
theorem rs_X9_trail : (.selects RX9 yX9_trail yX9_trail) ∈ rd_T := List.mem_filter.mpr ⟨List.mem_of_getElem? (i := 689) (by decide +kernel), by decide +kernel⟩
theorem rc_X9_trail : (.code yX9_trail cX9_trail 3 (Option.some Jvm.ClassFile.FieldType.int)) ∈ rd_T := List.mem_filter.mpr ⟨List.mem_of_getElem? (i := 690) (by decide +kernel), by decide +kernel⟩
theorem rm_X9_252 : (.methodLink RX9 252 yX6_trailValue) ∈ rd_T := List.mem_filter.mpr ⟨List.mem_of_getElem? (i := 691) (by decide +kernel), by decide +kernel⟩
theorem rm_L_143 : (.methodLink RL 143 yX9_labels) ∈ rd_T := List.mem_filter.mpr ⟨List.mem_of_getElem? (i := 692) (by decide +kernel), by decide +kernel⟩
theorem ri_X9_labels : (.instanceMethod yX9_labels) ∈ rd_T := List.mem_filter.mpr ⟨List.mem_of_getElem? (i := 693) (by decide +kernel), by decide +kernel⟩
theorem rs_X9_labels : (.selects RX9 yX9_labels yX9_labels) ∈ rd_T := List.mem_filter.mpr ⟨List.mem_of_getElem? (i := 694) (by decide +kernel), by decide +kernel⟩
theorem rc_X9_labels : (.code yX9_labels cX9_labels 2 (Option.some Jvm.ClassFile.FieldType.int)) ∈ rd_T := List.mem_filter.mpr ⟨List.mem_of_getElem? (i := 695) (by decide +kernel), by decide +kernel⟩
theorem rm_X9_256 : (.methodLink RX9 256 yX7_sumTagsAt) ∈ rd_T := List.mem_filter.mpr ⟨List.mem_of_getElem? (i := 696) (by decide +kernel), by decide +kernel⟩
theorem ri_X7_sumTagsAt : (.instanceMethod yX7_sumTagsAt) ∈ rd_T := List.mem_filter.mpr ⟨List.mem_of_getElem? (i := 697) (by decide +kernel), by decide +kernel⟩
theorem rs_X7_sumTagsAt : (.selects RX7 yX7_sumTagsAt yX7_sumTagsAt) ∈ rd_T := List.mem_filter.mpr ⟨List.mem_of_getElem? (i := 698) (by decide +kernel), by decide +kernel⟩
theorem rc_X7_sumTagsAt : (.code yX7_sumTagsAt cX7_sumTagsAt 4 (Option.some Jvm.ClassFile.FieldType.int)) ∈ rd_T := List.mem_filter.mpr ⟨List.mem_of_getElem? (i := 699) (by decide +kernel), by decide +kernel⟩
theorem rm_L_147 : (.methodLink RL 147 yX9_noteNow) ∈ rd_T := List.mem_filter.mpr ⟨List.mem_of_getElem? (i := 700) (by decide +kernel), by decide +kernel⟩
theorem ri_X9_noteNow : (.instanceMethod yX9_noteNow) ∈ rd_T := List.mem_filter.mpr ⟨List.mem_of_getElem? (i := 701) (by decide +kernel), by decide +kernel⟩
theorem rs_X9_noteNow : (.selects RX9 yX9_noteNow yX9_noteNow) ∈ rd_T := List.mem_filter.mpr ⟨List.mem_of_getElem? (i := 702) (by decide +kernel), by decide +kernel⟩
theorem rc_X9_noteNow : (.code yX9_noteNow cX9_noteNow 1 (Option.some Jvm.ClassFile.FieldType.int)) ∈ rd_T := List.mem_filter.mpr ⟨List.mem_of_getElem? (i := 703) (by decide +kernel), by decide +kernel⟩
theorem rm_X9_259 : (.methodLink RX9 259 yX3_latestAt) ∈ rd_T := List.mem_filter.mpr ⟨List.mem_of_getElem? (i := 704) (by decide +kernel), by decide +kernel⟩
theorem ri_X3_latestAt : (.instanceMethod yX3_latestAt) ∈ rd_T := List.mem_filter.mpr ⟨List.mem_of_getElem? (i := 705) (by decide +kernel), by decide +kernel⟩
theorem rs_X3_latestAt : (.selects RX3 yX3_latestAt yX3_latestAt) ∈ rd_T := List.mem_filter.mpr ⟨List.mem_of_getElem? (i := 706) (by decide +kernel), by decide +kernel⟩
theorem rc_X3_latestAt : (.code yX3_latestAt cX3_latestAt 5 (Option.some Jvm.ClassFile.FieldType.int)) ∈ rd_T := List.mem_filter.mpr ⟨List.mem_of_getElem? (i := 707) (by decide +kernel), by decide +kernel⟩
theorem rm_L_151 : (.methodLink RL 151 yX9_end) ∈ rd_T := List.mem_filter.mpr ⟨List.mem_of_getElem? (i := 708) (by decide +kernel), by decide +kernel⟩
theorem ri_X9_end : (.instanceMethod yX9_end) ∈ rd_T := List.mem_filter.mpr ⟨List.mem_of_getElem? (i := 709) (by decide +kernel), by decide +kernel⟩
theorem rs_X9_end : (.selects RX9 yX9_end yX9_end) ∈ rd_T := List.mem_filter.mpr ⟨List.mem_of_getElem? (i := 710) (by decide +kernel), by decide +kernel⟩
theorem rc_X9_end : (.code yX9_end cX9_end 1 (Option.some Jvm.ClassFile.FieldType.int)) ∈ rd_T := List.mem_filter.mpr ⟨List.mem_of_getElem? (i := 711) (by decide +kernel), by decide +kernel⟩
theorem rm_L_155 : (.methodLink RL 155 yX9_meanSteps) ∈ rd_T := List.mem_filter.mpr ⟨List.mem_of_getElem? (i := 712) (by decide +kernel), by decide +kernel⟩
theorem ri_X9_meanSteps : (.instanceMethod yX9_meanSteps) ∈ rd_T := List.mem_filter.mpr ⟨List.mem_of_getElem? (i := 713) (by decide +kernel), by decide +kernel⟩
theorem rs_X9_meanSteps : (.selects RX9 yX9_meanSteps yX9_meanSteps) ∈ rd_T := List.mem_filter.mpr ⟨List.mem_of_getElem? (i := 714) (by decide +kernel), by decide +kernel⟩
theorem rc_X9_meanSteps : (.code yX9_meanSteps cX9_meanSteps 2 (Option.some Jvm.ClassFile.FieldType.float)) ∈ rd_T := List.mem_filter.mpr ⟨List.mem_of_getElem? (i := 715) (by decide +kernel), by decide +kernel⟩
theorem rm_X9_262 : (.methodLink RX9 262 yX0_sumSteps) ∈ rd_T := List.mem_filter.mpr ⟨List.mem_of_getElem? (i := 716) (by decide +kernel), by decide +kernel⟩
theorem ri_X0_sumSteps : (.instanceMethod yX0_sumSteps) ∈ rd_T := List.mem_filter.mpr ⟨List.mem_of_getElem? (i := 717) (by decide +kernel), by decide +kernel⟩
theorem rs_X0_sumSteps : (.selects RX0 yX0_sumSteps yX0_sumSteps) ∈ rd_T := List.mem_filter.mpr ⟨List.mem_of_getElem? (i := 718) (by decide +kernel), by decide +kernel⟩
theorem rc_X0_sumSteps : (.code yX0_sumSteps cX0_sumSteps 6 (Option.some Jvm.ClassFile.FieldType.int)) ∈ rd_T := List.mem_filter.mpr ⟨List.mem_of_getElem? (i := 719) (by decide +kernel), by decide +kernel⟩
theorem rm_X0_72 : (.methodLink RX0 72 yX7_finalStep) ∈ rd_T := List.mem_filter.mpr ⟨List.mem_of_getElem? (i := 720) (by decide +kernel), by decide +kernel⟩
theorem rm_L_160 : (.methodLink RL 160 yX9_movesLeft) ∈ rd_T := List.mem_filter.mpr ⟨List.mem_of_getElem? (i := 721) (by decide +kernel), by decide +kernel⟩
theorem ri_X9_movesLeft : (.instanceMethod yX9_movesLeft) ∈ rd_T := List.mem_filter.mpr ⟨List.mem_of_getElem? (i := 722) (by decide +kernel), by decide +kernel⟩
theorem rs_X9_movesLeft : (.selects RX9 yX9_movesLeft yX9_movesLeft) ∈ rd_T := List.mem_filter.mpr ⟨List.mem_of_getElem? (i := 723) (by decide +kernel), by decide +kernel⟩
theorem rc_X9_movesLeft : (.code yX9_movesLeft cX9_movesLeft 1 (Option.some Jvm.ClassFile.FieldType.int)) ∈ rd_T := List.mem_filter.mpr ⟨List.mem_of_getElem? (i := 724) (by decide +kernel), by decide +kernel⟩
theorem rm_X9_265 : (.methodLink RX9 265 yX1_countMoves) ∈ rd_T := List.mem_filter.mpr ⟨List.mem_of_getElem? (i := 725) (by decide +kernel), by decide +kernel⟩
theorem ri_X1_countMoves : (.instanceMethod yX1_countMoves) ∈ rd_T := List.mem_filter.mpr ⟨List.mem_of_getElem? (i := 726) (by decide +kernel), by decide +kernel⟩
theorem rs_X1_countMoves : (.selects RX1 yX1_countMoves yX1_countMoves) ∈ rd_T := List.mem_filter.mpr ⟨List.mem_of_getElem? (i := 727) (by decide +kernel), by decide +kernel⟩
theorem rc_X1_countMoves : (.code yX1_countMoves cX1_countMoves 4 (Option.some Jvm.ClassFile.FieldType.int)) ∈ rd_T := List.mem_filter.mpr ⟨List.mem_of_getElem? (i := 728) (by decide +kernel), by decide +kernel⟩
theorem rm_X1_15 : (.methodLink RX1 15 yX8_here) ∈ rd_T := List.mem_filter.mpr ⟨List.mem_of_getElem? (i := 729) (by decide +kernel), by decide +kernel⟩
theorem rm_X1_35 : (.methodLink RX1 35 yX0_placeOf) ∈ rd_T := List.mem_filter.mpr ⟨List.mem_of_getElem? (i := 730) (by decide +kernel), by decide +kernel⟩
theorem rm_X1_44 : (.methodLink RX1 44 yX1_movesOn) ∈ rd_T := List.mem_filter.mpr ⟨List.mem_of_getElem? (i := 731) (by decide +kernel), by decide +kernel⟩
theorem rt_X1_movesOn : (.static yX1_movesOn) ∈ rd_T := List.mem_filter.mpr ⟨List.mem_of_getElem? (i := 732) (by decide +kernel), by decide +kernel⟩
theorem rc_X1_movesOn : (.code yX1_movesOn cX1_movesOn 6 (Option.some Jvm.ClassFile.FieldType.int)) ∈ rd_T := List.mem_filter.mpr ⟨List.mem_of_getElem? (i := 733) (by decide +kernel), by decide +kernel⟩
theorem rm_X1_48 : (.methodLink RX1 48 yX0_numberAt) ∈ rd_T := List.mem_filter.mpr ⟨List.mem_of_getElem? (i := 734) (by decide +kernel), by decide +kernel⟩
theorem rm_X1_51 : (.methodLink RX1 51 yX0_find) ∈ rd_T := List.mem_filter.mpr ⟨List.mem_of_getElem? (i := 735) (by decide +kernel), by decide +kernel⟩
theorem rm_X1_73 : (.methodLink RX1 73 yX7_finalStep) ∈ rd_T := List.mem_filter.mpr ⟨List.mem_of_getElem? (i := 736) (by decide +kernel), by decide +kernel⟩
theorem rm_X1_80 : (.methodLink RX1 80 yX0_nextShown) ∈ rd_T := List.mem_filter.mpr ⟨List.mem_of_getElem? (i := 737) (by decide +kernel), by decide +kernel⟩
theorem rm_L_164 : (.methodLink RL 164 yX9_fewest) ∈ rd_T := List.mem_filter.mpr ⟨List.mem_of_getElem? (i := 738) (by decide +kernel), by decide +kernel⟩
theorem ri_X9_fewest : (.instanceMethod yX9_fewest) ∈ rd_T := List.mem_filter.mpr ⟨List.mem_of_getElem? (i := 739) (by decide +kernel), by decide +kernel⟩
theorem rs_X9_fewest : (.selects RX9 yX9_fewest yX9_fewest) ∈ rd_T := List.mem_filter.mpr ⟨List.mem_of_getElem? (i := 740) (by decide +kernel), by decide +kernel⟩
theorem rc_X9_fewest : (.code yX9_fewest cX9_fewest 2 (Option.some Jvm.ClassFile.FieldType.int)) ∈ rd_T := List.mem_filter.mpr ⟨List.mem_of_getElem? (i := 741) (by decide +kernel), by decide +kernel⟩
theorem rm_X9_269 : (.methodLink RX9 269 yX1_leastMoves) ∈ rd_T := List.mem_filter.mpr ⟨List.mem_of_getElem? (i := 742) (by decide +kernel), by decide +kernel⟩
theorem ri_X1_leastMoves : (.instanceMethod yX1_leastMoves) ∈ rd_T := List.mem_filter.mpr ⟨List.mem_of_getElem? (i := 743) (by decide +kernel), by decide +kernel⟩
theorem rs_X1_leastMoves : (.selects RX1 yX1_leastMoves yX1_leastMoves) ∈ rd_T := List.mem_filter.mpr ⟨List.mem_of_getElem? (i := 744) (by decide +kernel), by decide +kernel⟩
theorem rc_X1_leastMoves : (.code yX1_leastMoves cX1_leastMoves 5 (Option.some Jvm.ClassFile.FieldType.int)) ∈ rd_T := List.mem_filter.mpr ⟨List.mem_of_getElem? (i := 745) (by decide +kernel), by decide +kernel⟩
theorem rl_X1_87 : (.constant RX1 87 (1000000)) ∈ rd_T := List.mem_filter.mpr ⟨List.mem_of_getElem? (i := 747) (by decide +kernel), by decide +kernel⟩
theorem rm_X1_88 : (.methodLink RX1 88 yX1_lower) ∈ rd_T := List.mem_filter.mpr ⟨List.mem_of_getElem? (i := 748) (by decide +kernel), by decide +kernel⟩
theorem ri_X1_lower : (.instanceMethod yX1_lower) ∈ rd_T := List.mem_filter.mpr ⟨List.mem_of_getElem? (i := 749) (by decide +kernel), by decide +kernel⟩
theorem rs_X1_lower : (.selects RX1 yX1_lower yX1_lower) ∈ rd_T := List.mem_filter.mpr ⟨List.mem_of_getElem? (i := 750) (by decide +kernel), by decide +kernel⟩
theorem rc_X1_lower : (.code yX1_lower cX1_lower 3 (Option.none : Option Jvm.ClassFile.FieldType)) ∈ rd_T := List.mem_filter.mpr ⟨List.mem_of_getElem? (i := 751) (by decide +kernel), by decide +kernel⟩
theorem rm_X1_92 : (.methodLink RX1 92 yX1_spreadFrom) ∈ rd_T := List.mem_filter.mpr ⟨List.mem_of_getElem? (i := 752) (by decide +kernel), by decide +kernel⟩
theorem ri_X1_spreadFrom : (.instanceMethod yX1_spreadFrom) ∈ rd_T := List.mem_filter.mpr ⟨List.mem_of_getElem? (i := 753) (by decide +kernel), by decide +kernel⟩
theorem rs_X1_spreadFrom : (.selects RX1 yX1_spreadFrom yX1_spreadFrom) ∈ rd_T := List.mem_filter.mpr ⟨List.mem_of_getElem? (i := 754) (by decide +kernel), by decide +kernel⟩
theorem rc_X1_spreadFrom : (.code yX1_spreadFrom cX1_spreadFrom 9 (Option.none : Option Jvm.ClassFile.FieldType)) ∈ rd_T := List.mem_filter.mpr ⟨List.mem_of_getElem? (i := 755) (by decide +kernel), by decide +kernel⟩
theorem rm_L_168 : (.methodLink RL 168 yX9_secondsLeft) ∈ rd_T := List.mem_filter.mpr ⟨List.mem_of_getElem? (i := 756) (by decide +kernel), by decide +kernel⟩
theorem ri_X9_secondsLeft : (.instanceMethod yX9_secondsLeft) ∈ rd_T := List.mem_filter.mpr ⟨List.mem_of_getElem? (i := 757) (by decide +kernel), by decide +kernel⟩
theorem rs_X9_secondsLeft : (.selects RX9 yX9_secondsLeft yX9_secondsLeft) ∈ rd_T := List.mem_filter.mpr ⟨List.mem_of_getElem? (i := 758) (by decide +kernel), by decide +kernel⟩
theorem rc_X9_secondsLeft : (.code yX9_secondsLeft cX9_secondsLeft 1 (Option.some Jvm.ClassFile.FieldType.int)) ∈ rd_T := List.mem_filter.mpr ⟨List.mem_of_getElem? (i := 759) (by decide +kernel), by decide +kernel⟩
theorem rm_X9_273 : (.methodLink RX9 273 yX1_countSeconds) ∈ rd_T := List.mem_filter.mpr ⟨List.mem_of_getElem? (i := 760) (by decide +kernel), by decide +kernel⟩
theorem ri_X1_countSeconds : (.instanceMethod yX1_countSeconds) ∈ rd_T := List.mem_filter.mpr ⟨List.mem_of_getElem? (i := 761) (by decide +kernel), by decide +kernel⟩
theorem rs_X1_countSeconds : (.selects RX1 yX1_countSeconds yX1_countSeconds) ∈ rd_T := List.mem_filter.mpr ⟨List.mem_of_getElem? (i := 762) (by decide +kernel), by decide +kernel⟩
theorem rc_X1_countSeconds : (.code yX1_countSeconds cX1_countSeconds 7 (Option.some Jvm.ClassFile.FieldType.int)) ∈ rd_T := List.mem_filter.mpr ⟨List.mem_of_getElem? (i := 763) (by decide +kernel), by decide +kernel⟩
theorem rm_X1_63 : (.methodLink RX1 63 yJ9_max_7cf53) ∈ rd_T := List.mem_filter.mpr ⟨List.mem_of_getElem? (i := 764) (by decide +kernel), by decide +kernel⟩
theorem rm_L_172 : (.methodLink RL 172 yX9_backTo) ∈ rd_T := List.mem_filter.mpr ⟨List.mem_of_getElem? (i := 765) (by decide +kernel), by decide +kernel⟩
theorem ri_X9_backTo : (.instanceMethod yX9_backTo) ∈ rd_T := List.mem_filter.mpr ⟨List.mem_of_getElem? (i := 766) (by decide +kernel), by decide +kernel⟩
theorem rs_X9_backTo : (.selects RX9 yX9_backTo yX9_backTo) ∈ rd_T := List.mem_filter.mpr ⟨List.mem_of_getElem? (i := 767) (by decide +kernel), by decide +kernel⟩
theorem rc_X9_backTo : (.code yX9_backTo cX9_backTo 1 (Option.some Jvm.ClassFile.FieldType.int)) ∈ rd_T := List.mem_filter.mpr ⟨List.mem_of_getElem? (i := 768) (by decide +kernel), by decide +kernel⟩
theorem rm_X9_276 : (.methodLink RX9 276 yX8_backPlace) ∈ rd_T := List.mem_filter.mpr ⟨List.mem_of_getElem? (i := 769) (by decide +kernel), by decide +kernel⟩
theorem rk_L_10 : (.classLink RL 10 RX10) ∈ rd_T := List.mem_filter.mpr ⟨List.mem_of_getElem? (i := 770) (by decide +kernel), by decide +kernel⟩
theorem rq_X10 : (.instantiable RX10 9) ∈ rd_T := List.mem_filter.mpr ⟨List.mem_of_getElem? (i := 771) (by decide +kernel), by decide +kernel⟩
theorem rm_L_12 : (.methodLink RL 12 yX10_init) ∈ rd_T := List.mem_filter.mpr ⟨List.mem_of_getElem? (i := 772) (by decide +kernel), by decide +kernel⟩
theorem ri_X10_init : (.instanceMethod yX10_init) ∈ rd_T := List.mem_filter.mpr ⟨List.mem_of_getElem? (i := 773) (by decide +kernel), by decide +kernel⟩
theorem rc_X10_init : (.code yX10_init cX10_init 1 (Option.none : Option Jvm.ClassFile.FieldType)) ∈ rd_T := List.mem_filter.mpr ⟨List.mem_of_getElem? (i := 774) (by decide +kernel), by decide +kernel⟩
theorem rm_X10_1 : (.methodLink RX10 1 ⟨"java/lang/Object", "<init>", "()V"⟩) ∈ rd_T := List.mem_filter.mpr ⟨List.mem_of_getElem? (i := 775) (by decide +kernel), by decide +kernel⟩
theorem rf_X10_7 : (.fieldLink RX10 7 "RevealDeckModel" "s" "[I") ∈ rd_T := List.mem_filter.mpr ⟨List.mem_of_getElem? (i := 776) (by decide +kernel), by decide +kernel⟩
theorem rf_X10_68 : (.fieldLink RX10 68 "RevealDeckModel" "states" "I") ∈ rd_T := List.mem_filter.mpr ⟨List.mem_of_getElem? (i := 777) (by decide +kernel), by decide +kernel⟩
theorem rf_X10_13 : (.fieldLink RX10 13 "RevealDeckModel" "text" "[I") ∈ rd_T := List.mem_filter.mpr ⟨List.mem_of_getElem? (i := 778) (by decide +kernel), by decide +kernel⟩
theorem rf_X10_113 : (.fieldLink RX10 113 "RevealDeckModel" "length" "I") ∈ rd_T := List.mem_filter.mpr ⟨List.mem_of_getElem? (i := 779) (by decide +kernel), by decide +kernel⟩
theorem rf_X10_116 : (.fieldLink RX10 116 "RevealDeckModel" "at" "I") ∈ rd_T := List.mem_filter.mpr ⟨List.mem_of_getElem? (i := 780) (by decide +kernel), by decide +kernel⟩
theorem rf_X10_122 : (.fieldLink RX10 122 "RevealDeckModel" "letter" "I") ∈ rd_T := List.mem_filter.mpr ⟨List.mem_of_getElem? (i := 781) (by decide +kernel), by decide +kernel⟩
theorem rf_X10_128 : (.fieldLink RX10 128 "RevealDeckModel" "number" "I") ∈ rd_T := List.mem_filter.mpr ⟨List.mem_of_getElem? (i := 782) (by decide +kernel), by decide +kernel⟩
theorem rf_X10_16 : (.fieldLink RX10 16 "RevealDeckModel" "report" "[I") ∈ rd_T := List.mem_filter.mpr ⟨List.mem_of_getElem? (i := 783) (by decide +kernel), by decide +kernel⟩
theorem rf_X10_19 : (.fieldLink RX10 19 "RevealDeckModel" "moves" "[I") ∈ rd_T := List.mem_filter.mpr ⟨List.mem_of_getElem? (i := 784) (by decide +kernel), by decide +kernel⟩
theorem rm_L_17 : (.methodLink RL 17 yX10_addSlide) ∈ rd_T := List.mem_filter.mpr ⟨List.mem_of_getElem? (i := 804) (by decide +kernel), by decide +kernel⟩
theorem ri_X10_addSlide : (.instanceMethod yX10_addSlide) ∈ rd_T := List.mem_filter.mpr ⟨List.mem_of_getElem? (i := 805) (by decide +kernel), by decide +kernel⟩
theorem rs_X10_addSlide : (.selects RX10 yX10_addSlide yX10_addSlide) ∈ rd_T := List.mem_filter.mpr ⟨List.mem_of_getElem? (i := 806) (by decide +kernel), by decide +kernel⟩
theorem rc_X10_addSlide : (.code yX10_addSlide cX10_addSlide 3 (Option.some Jvm.ClassFile.FieldType.int)) ∈ rd_T := List.mem_filter.mpr ⟨List.mem_of_getElem? (i := 807) (by decide +kernel), by decide +kernel⟩
theorem rm_X10_76 : (.methodLink RX10 76 yX10_save) ∈ rd_T := List.mem_filter.mpr ⟨List.mem_of_getElem? (i := 808) (by decide +kernel), by decide +kernel⟩
theorem ri_X10_save : (.instanceMethod yX10_save) ∈ rd_T := List.mem_filter.mpr ⟨List.mem_of_getElem? (i := 810) (by decide +kernel), by decide +kernel⟩
theorem rc_X10_save : (.code yX10_save cX10_save 2 (Option.none : Option Jvm.ClassFile.FieldType)) ∈ rd_T := List.mem_filter.mpr ⟨List.mem_of_getElem? (i := 811) (by decide +kernel), by decide +kernel⟩
theorem rm_X10_72 : (.methodLink RX10 72 yX10_copies) ∈ rd_T := List.mem_filter.mpr ⟨List.mem_of_getElem? (i := 812) (by decide +kernel), by decide +kernel⟩
theorem ri_X10_copies : (.instanceMethod yX10_copies) ∈ rd_T := List.mem_filter.mpr ⟨List.mem_of_getElem? (i := 814) (by decide +kernel), by decide +kernel⟩
theorem rc_X10_copies : (.code yX10_copies cX10_copies 4 (Option.none : Option Jvm.ClassFile.FieldType)) ∈ rd_T := List.mem_filter.mpr ⟨List.mem_of_getElem? (i := 815) (by decide +kernel), by decide +kernel⟩
theorem rm_X10_26 : (.methodLink RX10 26 yX10_of) ∈ rd_T := List.mem_filter.mpr ⟨List.mem_of_getElem? (i := 816) (by decide +kernel), by decide +kernel⟩
theorem ri_X10_of : (.instanceMethod yX10_of) ∈ rd_T := List.mem_filter.mpr ⟨List.mem_of_getElem? (i := 818) (by decide +kernel), by decide +kernel⟩
theorem rc_X10_of : (.code yX10_of cX10_of 3 (Option.some Jvm.ClassFile.FieldType.int)) ∈ rd_T := List.mem_filter.mpr ⟨List.mem_of_getElem? (i := 819) (by decide +kernel), by decide +kernel⟩
theorem rm_X10_79 : (.methodLink RX10 79 yX10_lay) ∈ rd_T := List.mem_filter.mpr ⟨List.mem_of_getElem? (i := 820) (by decide +kernel), by decide +kernel⟩
theorem ri_X10_lay : (.instanceMethod yX10_lay) ∈ rd_T := List.mem_filter.mpr ⟨List.mem_of_getElem? (i := 822) (by decide +kernel), by decide +kernel⟩
theorem rc_X10_lay : (.code yX10_lay cX10_lay 4 (Option.none : Option Jvm.ClassFile.FieldType)) ∈ rd_T := List.mem_filter.mpr ⟨List.mem_of_getElem? (i := 823) (by decide +kernel), by decide +kernel⟩
theorem rm_L_22 : (.methodLink RL 22 yX10_removeSlide) ∈ rd_T := List.mem_filter.mpr ⟨List.mem_of_getElem? (i := 824) (by decide +kernel), by decide +kernel⟩
theorem ri_X10_removeSlide : (.instanceMethod yX10_removeSlide) ∈ rd_T := List.mem_filter.mpr ⟨List.mem_of_getElem? (i := 825) (by decide +kernel), by decide +kernel⟩
theorem rs_X10_removeSlide : (.selects RX10 yX10_removeSlide yX10_removeSlide) ∈ rd_T := List.mem_filter.mpr ⟨List.mem_of_getElem? (i := 826) (by decide +kernel), by decide +kernel⟩
theorem rc_X10_removeSlide : (.code yX10_removeSlide cX10_removeSlide 3 (Option.some Jvm.ClassFile.FieldType.int)) ∈ rd_T := List.mem_filter.mpr ⟨List.mem_of_getElem? (i := 827) (by decide +kernel), by decide +kernel⟩
theorem rm_X10_30 : (.methodLink RX10 30 yX10_isSlide) ∈ rd_T := List.mem_filter.mpr ⟨List.mem_of_getElem? (i := 828) (by decide +kernel), by decide +kernel⟩
theorem ri_X10_isSlide : (.instanceMethod yX10_isSlide) ∈ rd_T := List.mem_filter.mpr ⟨List.mem_of_getElem? (i := 830) (by decide +kernel), by decide +kernel⟩
theorem rc_X10_isSlide : (.code yX10_isSlide cX10_isSlide 2 (Option.some Jvm.ClassFile.FieldType.boolean)) ∈ rd_T := List.mem_filter.mpr ⟨List.mem_of_getElem? (i := 831) (by decide +kernel), by decide +kernel⟩
theorem rm_X10_22 : (.methodLink RX10 22 yX10_in) ∈ rd_T := List.mem_filter.mpr ⟨List.mem_of_getElem? (i := 832) (by decide +kernel), by decide +kernel⟩
theorem rt_X10_in : (.static yX10_in) ∈ rd_T := List.mem_filter.mpr ⟨List.mem_of_getElem? (i := 833) (by decide +kernel), by decide +kernel⟩
theorem rc_X10_in : (.code yX10_in cX10_in 3 (Option.some Jvm.ClassFile.FieldType.boolean)) ∈ rd_T := List.mem_filter.mpr ⟨List.mem_of_getElem? (i := 834) (by decide +kernel), by decide +kernel⟩
theorem rm_X10_82 : (.methodLink RX10 82 yX10_takesOut) ∈ rd_T := List.mem_filter.mpr ⟨List.mem_of_getElem? (i := 835) (by decide +kernel), by decide +kernel⟩
theorem ri_X10_takesOut : (.instanceMethod yX10_takesOut) ∈ rd_T := List.mem_filter.mpr ⟨List.mem_of_getElem? (i := 837) (by decide +kernel), by decide +kernel⟩
theorem rc_X10_takesOut : (.code yX10_takesOut cX10_takesOut 4 (Option.some Jvm.ClassFile.FieldType.int)) ∈ rd_T := List.mem_filter.mpr ⟨List.mem_of_getElem? (i := 838) (by decide +kernel), by decide +kernel⟩
theorem rm_X10_37 : (.methodLink RX10 37 yX10_placeOf) ∈ rd_T := List.mem_filter.mpr ⟨List.mem_of_getElem? (i := 839) (by decide +kernel), by decide +kernel⟩
theorem ri_X10_placeOf : (.instanceMethod yX10_placeOf) ∈ rd_T := List.mem_filter.mpr ⟨List.mem_of_getElem? (i := 841) (by decide +kernel), by decide +kernel⟩
theorem rc_X10_placeOf : (.code yX10_placeOf cX10_placeOf 3 (Option.some Jvm.ClassFile.FieldType.int)) ∈ rd_T := List.mem_filter.mpr ⟨List.mem_of_getElem? (i := 842) (by decide +kernel), by decide +kernel⟩
theorem rm_L_27 : (.methodLink RL 27 yX10_moveSlide) ∈ rd_T := List.mem_filter.mpr ⟨List.mem_of_getElem? (i := 843) (by decide +kernel), by decide +kernel⟩
theorem ri_X10_moveSlide : (.instanceMethod yX10_moveSlide) ∈ rd_T := List.mem_filter.mpr ⟨List.mem_of_getElem? (i := 844) (by decide +kernel), by decide +kernel⟩
theorem rs_X10_moveSlide : (.selects RX10 yX10_moveSlide yX10_moveSlide) ∈ rd_T := List.mem_filter.mpr ⟨List.mem_of_getElem? (i := 845) (by decide +kernel), by decide +kernel⟩
theorem rc_X10_moveSlide : (.code yX10_moveSlide cX10_moveSlide 5 (Option.some Jvm.ClassFile.FieldType.int)) ∈ rd_T := List.mem_filter.mpr ⟨List.mem_of_getElem? (i := 846) (by decide +kernel), by decide +kernel⟩
theorem rm_L_32 : (.methodLink RL 32 yX10_hide) ∈ rd_T := List.mem_filter.mpr ⟨List.mem_of_getElem? (i := 847) (by decide +kernel), by decide +kernel⟩
theorem ri_X10_hide : (.instanceMethod yX10_hide) ∈ rd_T := List.mem_filter.mpr ⟨List.mem_of_getElem? (i := 848) (by decide +kernel), by decide +kernel⟩
theorem rs_X10_hide : (.selects RX10 yX10_hide yX10_hide) ∈ rd_T := List.mem_filter.mpr ⟨List.mem_of_getElem? (i := 849) (by decide +kernel), by decide +kernel⟩
theorem rc_X10_hide : (.code yX10_hide cX10_hide 5 (Option.some Jvm.ClassFile.FieldType.int)) ∈ rd_T := List.mem_filter.mpr ⟨List.mem_of_getElem? (i := 850) (by decide +kernel), by decide +kernel⟩
theorem rm_L_36 : (.methodLink RL 36 yX10_setPause) ∈ rd_T := List.mem_filter.mpr ⟨List.mem_of_getElem? (i := 851) (by decide +kernel), by decide +kernel⟩
theorem ri_X10_setPause : (.instanceMethod yX10_setPause) ∈ rd_T := List.mem_filter.mpr ⟨List.mem_of_getElem? (i := 852) (by decide +kernel), by decide +kernel⟩
theorem rs_X10_setPause : (.selects RX10 yX10_setPause yX10_setPause) ∈ rd_T := List.mem_filter.mpr ⟨List.mem_of_getElem? (i := 853) (by decide +kernel), by decide +kernel⟩
theorem rc_X10_setPause : (.code yX10_setPause cX10_setPause 4 (Option.some Jvm.ClassFile.FieldType.int)) ∈ rd_T := List.mem_filter.mpr ⟨List.mem_of_getElem? (i := 854) (by decide +kernel), by decide +kernel⟩
theorem rm_L_41 : (.methodLink RL 41 yX10_addItem) ∈ rd_T := List.mem_filter.mpr ⟨List.mem_of_getElem? (i := 855) (by decide +kernel), by decide +kernel⟩
theorem ri_X10_addItem : (.instanceMethod yX10_addItem) ∈ rd_T := List.mem_filter.mpr ⟨List.mem_of_getElem? (i := 856) (by decide +kernel), by decide +kernel⟩
theorem rs_X10_addItem : (.selects RX10 yX10_addItem yX10_addItem) ∈ rd_T := List.mem_filter.mpr ⟨List.mem_of_getElem? (i := 857) (by decide +kernel), by decide +kernel⟩
theorem rc_X10_addItem : (.code yX10_addItem cX10_addItem 7 (Option.some Jvm.ClassFile.FieldType.int)) ∈ rd_T := List.mem_filter.mpr ⟨List.mem_of_getElem? (i := 858) (by decide +kernel), by decide +kernel⟩
theorem rm_L_45 : (.methodLink RL 45 yX10_removeItem) ∈ rd_T := List.mem_filter.mpr ⟨List.mem_of_getElem? (i := 859) (by decide +kernel), by decide +kernel⟩
theorem ri_X10_removeItem : (.instanceMethod yX10_removeItem) ∈ rd_T := List.mem_filter.mpr ⟨List.mem_of_getElem? (i := 860) (by decide +kernel), by decide +kernel⟩
theorem rs_X10_removeItem : (.selects RX10 yX10_removeItem yX10_removeItem) ∈ rd_T := List.mem_filter.mpr ⟨List.mem_of_getElem? (i := 861) (by decide +kernel), by decide +kernel⟩
theorem rc_X10_removeItem : (.code yX10_removeItem cX10_removeItem 5 (Option.some Jvm.ClassFile.FieldType.int)) ∈ rd_T := List.mem_filter.mpr ⟨List.mem_of_getElem? (i := 862) (by decide +kernel), by decide +kernel⟩
theorem rm_X10_85 : (.methodLink RX10 85 yX10_isItem) ∈ rd_T := List.mem_filter.mpr ⟨List.mem_of_getElem? (i := 863) (by decide +kernel), by decide +kernel⟩
theorem ri_X10_isItem : (.instanceMethod yX10_isItem) ∈ rd_T := List.mem_filter.mpr ⟨List.mem_of_getElem? (i := 865) (by decide +kernel), by decide +kernel⟩
theorem rc_X10_isItem : (.code yX10_isItem cX10_isItem 3 (Option.some Jvm.ClassFile.FieldType.boolean)) ∈ rd_T := List.mem_filter.mpr ⟨List.mem_of_getElem? (i := 866) (by decide +kernel), by decide +kernel⟩
theorem rm_X10_48 : (.methodLink RX10 48 yX10_finalStep) ∈ rd_T := List.mem_filter.mpr ⟨List.mem_of_getElem? (i := 867) (by decide +kernel), by decide +kernel⟩
theorem ri_X10_finalStep : (.instanceMethod yX10_finalStep) ∈ rd_T := List.mem_filter.mpr ⟨List.mem_of_getElem? (i := 869) (by decide +kernel), by decide +kernel⟩
theorem rc_X10_finalStep : (.code yX10_finalStep cX10_finalStep 6 (Option.some Jvm.ClassFile.FieldType.int)) ∈ rd_T := List.mem_filter.mpr ⟨List.mem_of_getElem? (i := 870) (by decide +kernel), by decide +kernel⟩
theorem rm_L_50 : (.methodLink RL 50 yX10_link) ∈ rd_T := List.mem_filter.mpr ⟨List.mem_of_getElem? (i := 871) (by decide +kernel), by decide +kernel⟩
theorem ri_X10_link : (.instanceMethod yX10_link) ∈ rd_T := List.mem_filter.mpr ⟨List.mem_of_getElem? (i := 872) (by decide +kernel), by decide +kernel⟩
theorem rs_X10_link : (.selects RX10 yX10_link yX10_link) ∈ rd_T := List.mem_filter.mpr ⟨List.mem_of_getElem? (i := 873) (by decide +kernel), by decide +kernel⟩
theorem rc_X10_link : (.code yX10_link cX10_link 4 (Option.some Jvm.ClassFile.FieldType.int)) ∈ rd_T := List.mem_filter.mpr ⟨List.mem_of_getElem? (i := 874) (by decide +kernel), by decide +kernel⟩
theorem rm_X10_89 : (.methodLink RX10 89 yX10_isKey) ∈ rd_T := List.mem_filter.mpr ⟨List.mem_of_getElem? (i := 875) (by decide +kernel), by decide +kernel⟩
theorem ri_X10_isKey : (.instanceMethod yX10_isKey) ∈ rd_T := List.mem_filter.mpr ⟨List.mem_of_getElem? (i := 877) (by decide +kernel), by decide +kernel⟩
theorem rc_X10_isKey : (.code yX10_isKey cX10_isKey 2 (Option.some Jvm.ClassFile.FieldType.boolean)) ∈ rd_T := List.mem_filter.mpr ⟨List.mem_of_getElem? (i := 878) (by decide +kernel), by decide +kernel⟩
theorem rm_X10_92 : (.methodLink RX10 92 yX10_links) ∈ rd_T := List.mem_filter.mpr ⟨List.mem_of_getElem? (i := 879) (by decide +kernel), by decide +kernel⟩
theorem ri_X10_links : (.instanceMethod yX10_links) ∈ rd_T := List.mem_filter.mpr ⟨List.mem_of_getElem? (i := 881) (by decide +kernel), by decide +kernel⟩
theorem rc_X10_links : (.code yX10_links cX10_links 4 (Option.some Jvm.ClassFile.FieldType.int)) ∈ rd_T := List.mem_filter.mpr ⟨List.mem_of_getElem? (i := 882) (by decide +kernel), by decide +kernel⟩
theorem rm_L_54 : (.methodLink RL 54 yX10_unlink) ∈ rd_T := List.mem_filter.mpr ⟨List.mem_of_getElem? (i := 883) (by decide +kernel), by decide +kernel⟩
theorem ri_X10_unlink : (.instanceMethod yX10_unlink) ∈ rd_T := List.mem_filter.mpr ⟨List.mem_of_getElem? (i := 884) (by decide +kernel), by decide +kernel⟩
theorem rs_X10_unlink : (.selects RX10 yX10_unlink yX10_unlink) ∈ rd_T := List.mem_filter.mpr ⟨List.mem_of_getElem? (i := 885) (by decide +kernel), by decide +kernel⟩
theorem rc_X10_unlink : (.code yX10_unlink cX10_unlink 3 (Option.some Jvm.ClassFile.FieldType.int)) ∈ rd_T := List.mem_filter.mpr ⟨List.mem_of_getElem? (i := 886) (by decide +kernel), by decide +kernel⟩
theorem rm_L_58 : (.methodLink RL 58 yX10_note) ∈ rd_T := List.mem_filter.mpr ⟨List.mem_of_getElem? (i := 887) (by decide +kernel), by decide +kernel⟩
theorem ri_X10_note : (.instanceMethod yX10_note) ∈ rd_T := List.mem_filter.mpr ⟨List.mem_of_getElem? (i := 888) (by decide +kernel), by decide +kernel⟩
theorem rs_X10_note : (.selects RX10 yX10_note yX10_note) ∈ rd_T := List.mem_filter.mpr ⟨List.mem_of_getElem? (i := 889) (by decide +kernel), by decide +kernel⟩
theorem rc_X10_note : (.code yX10_note cX10_note 4 (Option.some Jvm.ClassFile.FieldType.int)) ∈ rd_T := List.mem_filter.mpr ⟨List.mem_of_getElem? (i := 890) (by decide +kernel), by decide +kernel⟩
theorem rm_X10_95 : (.methodLink RX10 95 yX10_notePlace) ∈ rd_T := List.mem_filter.mpr ⟨List.mem_of_getElem? (i := 891) (by decide +kernel), by decide +kernel⟩
theorem ri_X10_notePlace : (.instanceMethod yX10_notePlace) ∈ rd_T := List.mem_filter.mpr ⟨List.mem_of_getElem? (i := 893) (by decide +kernel), by decide +kernel⟩
theorem rc_X10_notePlace : (.code yX10_notePlace cX10_notePlace 3 (Option.some Jvm.ClassFile.FieldType.int)) ∈ rd_T := List.mem_filter.mpr ⟨List.mem_of_getElem? (i := 894) (by decide +kernel), by decide +kernel⟩
theorem rm_L_62 : (.methodLink RL 62 yX10_setEnd) ∈ rd_T := List.mem_filter.mpr ⟨List.mem_of_getElem? (i := 895) (by decide +kernel), by decide +kernel⟩
theorem ri_X10_setEnd : (.instanceMethod yX10_setEnd) ∈ rd_T := List.mem_filter.mpr ⟨List.mem_of_getElem? (i := 896) (by decide +kernel), by decide +kernel⟩
theorem rs_X10_setEnd : (.selects RX10 yX10_setEnd yX10_setEnd) ∈ rd_T := List.mem_filter.mpr ⟨List.mem_of_getElem? (i := 897) (by decide +kernel), by decide +kernel⟩
theorem rc_X10_setEnd : (.code yX10_setEnd cX10_setEnd 3 (Option.some Jvm.ClassFile.FieldType.int)) ∈ rd_T := List.mem_filter.mpr ⟨List.mem_of_getElem? (i := 898) (by decide +kernel), by decide +kernel⟩
theorem rm_L_66 : (.methodLink RL 66 yX10_start) ∈ rd_T := List.mem_filter.mpr ⟨List.mem_of_getElem? (i := 899) (by decide +kernel), by decide +kernel⟩
theorem ri_X10_start : (.instanceMethod yX10_start) ∈ rd_T := List.mem_filter.mpr ⟨List.mem_of_getElem? (i := 900) (by decide +kernel), by decide +kernel⟩
theorem rs_X10_start : (.selects RX10 yX10_start yX10_start) ∈ rd_T := List.mem_filter.mpr ⟨List.mem_of_getElem? (i := 901) (by decide +kernel), by decide +kernel⟩
theorem rc_X10_start : (.code yX10_start cX10_start 2 (Option.some Jvm.ClassFile.FieldType.int)) ∈ rd_T := List.mem_filter.mpr ⟨List.mem_of_getElem? (i := 902) (by decide +kernel), by decide +kernel⟩
theorem rm_X10_41 : (.methodLink RX10 41 yX10_shownFrom) ∈ rd_T := List.mem_filter.mpr ⟨List.mem_of_getElem? (i := 903) (by decide +kernel), by decide +kernel⟩
theorem ri_X10_shownFrom : (.instanceMethod yX10_shownFrom) ∈ rd_T := List.mem_filter.mpr ⟨List.mem_of_getElem? (i := 905) (by decide +kernel), by decide +kernel⟩
theorem rc_X10_shownFrom : (.code yX10_shownFrom cX10_shownFrom 3 (Option.some Jvm.ClassFile.FieldType.int)) ∈ rd_T := List.mem_filter.mpr ⟨List.mem_of_getElem? (i := 906) (by decide +kernel), by decide +kernel⟩
theorem rm_X10_34 : (.methodLink RX10 34 yX10_isShown) ∈ rd_T := List.mem_filter.mpr ⟨List.mem_of_getElem? (i := 907) (by decide +kernel), by decide +kernel⟩
theorem ri_X10_isShown : (.instanceMethod yX10_isShown) ∈ rd_T := List.mem_filter.mpr ⟨List.mem_of_getElem? (i := 909) (by decide +kernel), by decide +kernel⟩
theorem rc_X10_isShown : (.code yX10_isShown cX10_isShown 2 (Option.some Jvm.ClassFile.FieldType.boolean)) ∈ rd_T := List.mem_filter.mpr ⟨List.mem_of_getElem? (i := 910) (by decide +kernel), by decide +kernel⟩
theorem rm_L_70 : (.methodLink RL 70 yX10_stop) ∈ rd_T := List.mem_filter.mpr ⟨List.mem_of_getElem? (i := 911) (by decide +kernel), by decide +kernel⟩
theorem ri_X10_stop : (.instanceMethod yX10_stop) ∈ rd_T := List.mem_filter.mpr ⟨List.mem_of_getElem? (i := 912) (by decide +kernel), by decide +kernel⟩
theorem rs_X10_stop : (.selects RX10 yX10_stop yX10_stop) ∈ rd_T := List.mem_filter.mpr ⟨List.mem_of_getElem? (i := 913) (by decide +kernel), by decide +kernel⟩
theorem rc_X10_stop : (.code yX10_stop cX10_stop 1 (Option.some Jvm.ClassFile.FieldType.int)) ∈ rd_T := List.mem_filter.mpr ⟨List.mem_of_getElem? (i := 914) (by decide +kernel), by decide +kernel⟩
theorem rm_L_74 : (.methodLink RL 74 yX10_forward) ∈ rd_T := List.mem_filter.mpr ⟨List.mem_of_getElem? (i := 915) (by decide +kernel), by decide +kernel⟩
theorem ri_X10_forward : (.instanceMethod yX10_forward) ∈ rd_T := List.mem_filter.mpr ⟨List.mem_of_getElem? (i := 916) (by decide +kernel), by decide +kernel⟩
theorem rs_X10_forward : (.selects RX10 yX10_forward yX10_forward) ∈ rd_T := List.mem_filter.mpr ⟨List.mem_of_getElem? (i := 917) (by decide +kernel), by decide +kernel⟩
theorem rc_X10_forward : (.code yX10_forward cX10_forward 1 (Option.some Jvm.ClassFile.FieldType.int)) ∈ rd_T := List.mem_filter.mpr ⟨List.mem_of_getElem? (i := 918) (by decide +kernel), by decide +kernel⟩
theorem rm_X10_98 : (.methodLink RX10 98 yX10_isOn) ∈ rd_T := List.mem_filter.mpr ⟨List.mem_of_getElem? (i := 919) (by decide +kernel), by decide +kernel⟩
theorem ri_X10_isOn : (.instanceMethod yX10_isOn) ∈ rd_T := List.mem_filter.mpr ⟨List.mem_of_getElem? (i := 921) (by decide +kernel), by decide +kernel⟩
theorem rc_X10_isOn : (.code yX10_isOn cX10_isOn 1 (Option.some Jvm.ClassFile.FieldType.boolean)) ∈ rd_T := List.mem_filter.mpr ⟨List.mem_of_getElem? (i := 922) (by decide +kernel), by decide +kernel⟩
theorem rm_X10_44 : (.methodLink RX10 44 yX10_isOver) ∈ rd_T := List.mem_filter.mpr ⟨List.mem_of_getElem? (i := 923) (by decide +kernel), by decide +kernel⟩
theorem ri_X10_isOver : (.instanceMethod yX10_isOver) ∈ rd_T := List.mem_filter.mpr ⟨List.mem_of_getElem? (i := 925) (by decide +kernel), by decide +kernel⟩
theorem rc_X10_isOver : (.code yX10_isOver cX10_isOver 1 (Option.some Jvm.ClassFile.FieldType.boolean)) ∈ rd_T := List.mem_filter.mpr ⟨List.mem_of_getElem? (i := 926) (by decide +kernel), by decide +kernel⟩
theorem rm_X10_62 : (.methodLink RX10 62 yX10_canForward) ∈ rd_T := List.mem_filter.mpr ⟨List.mem_of_getElem? (i := 927) (by decide +kernel), by decide +kernel⟩
theorem ri_X10_canForward : (.instanceMethod yX10_canForward) ∈ rd_T := List.mem_filter.mpr ⟨List.mem_of_getElem? (i := 929) (by decide +kernel), by decide +kernel⟩
theorem rc_X10_canForward : (.code yX10_canForward cX10_canForward 1 (Option.some Jvm.ClassFile.FieldType.boolean)) ∈ rd_T := List.mem_filter.mpr ⟨List.mem_of_getElem? (i := 930) (by decide +kernel), by decide +kernel⟩
theorem rm_X10_51 : (.methodLink RX10 51 yX10_nextOf) ∈ rd_T := List.mem_filter.mpr ⟨List.mem_of_getElem? (i := 931) (by decide +kernel), by decide +kernel⟩
theorem ri_X10_nextOf : (.instanceMethod yX10_nextOf) ∈ rd_T := List.mem_filter.mpr ⟨List.mem_of_getElem? (i := 933) (by decide +kernel), by decide +kernel⟩
theorem rc_X10_nextOf : (.code yX10_nextOf cX10_nextOf 2 (Option.some Jvm.ClassFile.FieldType.int)) ∈ rd_T := List.mem_filter.mpr ⟨List.mem_of_getElem? (i := 934) (by decide +kernel), by decide +kernel⟩
theorem rm_X10_65 : (.methodLink RX10 65 yX10_forwards) ∈ rd_T := List.mem_filter.mpr ⟨List.mem_of_getElem? (i := 935) (by decide +kernel), by decide +kernel⟩
theorem ri_X10_forwards : (.instanceMethod yX10_forwards) ∈ rd_T := List.mem_filter.mpr ⟨List.mem_of_getElem? (i := 937) (by decide +kernel), by decide +kernel⟩
theorem rc_X10_forwards : (.code yX10_forwards cX10_forwards 1 (Option.some Jvm.ClassFile.FieldType.int)) ∈ rd_T := List.mem_filter.mpr ⟨List.mem_of_getElem? (i := 938) (by decide +kernel), by decide +kernel⟩
theorem rm_X10_54 : (.methodLink RX10 54 yX10_comes) ∈ rd_T := List.mem_filter.mpr ⟨List.mem_of_getElem? (i := 939) (by decide +kernel), by decide +kernel⟩
theorem ri_X10_comes : (.instanceMethod yX10_comes) ∈ rd_T := List.mem_filter.mpr ⟨List.mem_of_getElem? (i := 941) (by decide +kernel), by decide +kernel⟩
theorem rc_X10_comes : (.code yX10_comes cX10_comes 5 (Option.none : Option Jvm.ClassFile.FieldType)) ∈ rd_T := List.mem_filter.mpr ⟨List.mem_of_getElem? (i := 942) (by decide +kernel), by decide +kernel⟩
theorem rm_L_78 : (.methodLink RL 78 yX10_back) ∈ rd_T := List.mem_filter.mpr ⟨List.mem_of_getElem? (i := 943) (by decide +kernel), by decide +kernel⟩
theorem ri_X10_back : (.instanceMethod yX10_back) ∈ rd_T := List.mem_filter.mpr ⟨List.mem_of_getElem? (i := 944) (by decide +kernel), by decide +kernel⟩
theorem rs_X10_back : (.selects RX10 yX10_back yX10_back) ∈ rd_T := List.mem_filter.mpr ⟨List.mem_of_getElem? (i := 945) (by decide +kernel), by decide +kernel⟩
theorem rc_X10_back : (.code yX10_back cX10_back 1 (Option.some Jvm.ClassFile.FieldType.int)) ∈ rd_T := List.mem_filter.mpr ⟨List.mem_of_getElem? (i := 946) (by decide +kernel), by decide +kernel⟩
theorem rm_X10_58 : (.methodLink RX10 58 yX10_backPlace) ∈ rd_T := List.mem_filter.mpr ⟨List.mem_of_getElem? (i := 947) (by decide +kernel), by decide +kernel⟩
theorem ri_X10_backPlace : (.instanceMethod yX10_backPlace) ∈ rd_T := List.mem_filter.mpr ⟨List.mem_of_getElem? (i := 949) (by decide +kernel), by decide +kernel⟩
theorem rc_X10_backPlace : (.code yX10_backPlace cX10_backPlace 3 (Option.some Jvm.ClassFile.FieldType.int)) ∈ rd_T := List.mem_filter.mpr ⟨List.mem_of_getElem? (i := 950) (by decide +kernel), by decide +kernel⟩
theorem rm_X10_101 : (.methodLink RX10 101 yX10_backs) ∈ rd_T := List.mem_filter.mpr ⟨List.mem_of_getElem? (i := 951) (by decide +kernel), by decide +kernel⟩
theorem ri_X10_backs : (.instanceMethod yX10_backs) ∈ rd_T := List.mem_filter.mpr ⟨List.mem_of_getElem? (i := 953) (by decide +kernel), by decide +kernel⟩
theorem rc_X10_backs : (.code yX10_backs cX10_backs 3 (Option.some Jvm.ClassFile.FieldType.int)) ∈ rd_T := List.mem_filter.mpr ⟨List.mem_of_getElem? (i := 954) (by decide +kernel), by decide +kernel⟩
theorem rm_L_82 : (.methodLink RL 82 yX10_press) ∈ rd_T := List.mem_filter.mpr ⟨List.mem_of_getElem? (i := 955) (by decide +kernel), by decide +kernel⟩
theorem ri_X10_press : (.instanceMethod yX10_press) ∈ rd_T := List.mem_filter.mpr ⟨List.mem_of_getElem? (i := 956) (by decide +kernel), by decide +kernel⟩
theorem rs_X10_press : (.selects RX10 yX10_press yX10_press) ∈ rd_T := List.mem_filter.mpr ⟨List.mem_of_getElem? (i := 957) (by decide +kernel), by decide +kernel⟩
theorem rc_X10_press : (.code yX10_press cX10_press 2 (Option.some Jvm.ClassFile.FieldType.int)) ∈ rd_T := List.mem_filter.mpr ⟨List.mem_of_getElem? (i := 958) (by decide +kernel), by decide +kernel⟩
theorem rm_X10_104 : (.methodLink RX10 104 yX10_canPress) ∈ rd_T := List.mem_filter.mpr ⟨List.mem_of_getElem? (i := 959) (by decide +kernel), by decide +kernel⟩
theorem ri_X10_canPress : (.instanceMethod yX10_canPress) ∈ rd_T := List.mem_filter.mpr ⟨List.mem_of_getElem? (i := 961) (by decide +kernel), by decide +kernel⟩
theorem rc_X10_canPress : (.code yX10_canPress cX10_canPress 2 (Option.some Jvm.ClassFile.FieldType.boolean)) ∈ rd_T := List.mem_filter.mpr ⟨List.mem_of_getElem? (i := 962) (by decide +kernel), by decide +kernel⟩
theorem rm_X10_107 : (.methodLink RX10 107 yX10_presses) ∈ rd_T := List.mem_filter.mpr ⟨List.mem_of_getElem? (i := 963) (by decide +kernel), by decide +kernel⟩
theorem ri_X10_presses : (.instanceMethod yX10_presses) ∈ rd_T := List.mem_filter.mpr ⟨List.mem_of_getElem? (i := 965) (by decide +kernel), by decide +kernel⟩
theorem rc_X10_presses : (.code yX10_presses cX10_presses 2 (Option.some Jvm.ClassFile.FieldType.int)) ∈ rd_T := List.mem_filter.mpr ⟨List.mem_of_getElem? (i := 966) (by decide +kernel), by decide +kernel⟩
theorem rm_L_86 : (.methodLink RL 86 yX10_tick) ∈ rd_T := List.mem_filter.mpr ⟨List.mem_of_getElem? (i := 967) (by decide +kernel), by decide +kernel⟩
theorem ri_X10_tick : (.instanceMethod yX10_tick) ∈ rd_T := List.mem_filter.mpr ⟨List.mem_of_getElem? (i := 968) (by decide +kernel), by decide +kernel⟩
theorem rs_X10_tick : (.selects RX10 yX10_tick yX10_tick) ∈ rd_T := List.mem_filter.mpr ⟨List.mem_of_getElem? (i := 969) (by decide +kernel), by decide +kernel⟩
theorem rc_X10_tick : (.code yX10_tick cX10_tick 2 (Option.some Jvm.ClassFile.FieldType.int)) ∈ rd_T := List.mem_filter.mpr ⟨List.mem_of_getElem? (i := 970) (by decide +kernel), by decide +kernel⟩
theorem rm_X10_110 : (.methodLink RX10 110 yX10_ticks) ∈ rd_T := List.mem_filter.mpr ⟨List.mem_of_getElem? (i := 971) (by decide +kernel), by decide +kernel⟩
theorem ri_X10_ticks : (.instanceMethod yX10_ticks) ∈ rd_T := List.mem_filter.mpr ⟨List.mem_of_getElem? (i := 973) (by decide +kernel), by decide +kernel⟩
theorem rc_X10_ticks : (.code yX10_ticks cX10_ticks 5 (Option.some Jvm.ClassFile.FieldType.int)) ∈ rd_T := List.mem_filter.mpr ⟨List.mem_of_getElem? (i := 974) (by decide +kernel), by decide +kernel⟩
theorem rm_L_90 : (.methodLink RL 90 yX10_append) ∈ rd_T := List.mem_filter.mpr ⟨List.mem_of_getElem? (i := 975) (by decide +kernel), by decide +kernel⟩
theorem ri_X10_append : (.instanceMethod yX10_append) ∈ rd_T := List.mem_filter.mpr ⟨List.mem_of_getElem? (i := 976) (by decide +kernel), by decide +kernel⟩
theorem rs_X10_append : (.selects RX10 yX10_append yX10_append) ∈ rd_T := List.mem_filter.mpr ⟨List.mem_of_getElem? (i := 977) (by decide +kernel), by decide +kernel⟩
theorem rc_X10_append : (.code yX10_append cX10_append 2 (Option.some Jvm.ClassFile.FieldType.int)) ∈ rd_T := List.mem_filter.mpr ⟨List.mem_of_getElem? (i := 978) (by decide +kernel), by decide +kernel⟩
theorem rm_L_94 : (.methodLink RL 94 yX10_clearText) ∈ rd_T := List.mem_filter.mpr ⟨List.mem_of_getElem? (i := 979) (by decide +kernel), by decide +kernel⟩
theorem ri_X10_clearText : (.instanceMethod yX10_clearText) ∈ rd_T := List.mem_filter.mpr ⟨List.mem_of_getElem? (i := 980) (by decide +kernel), by decide +kernel⟩
theorem rs_X10_clearText : (.selects RX10 yX10_clearText yX10_clearText) ∈ rd_T := List.mem_filter.mpr ⟨List.mem_of_getElem? (i := 981) (by decide +kernel), by decide +kernel⟩
theorem rc_X10_clearText : (.code yX10_clearText cX10_clearText 2 (Option.some Jvm.ClassFile.FieldType.int)) ∈ rd_T := List.mem_filter.mpr ⟨List.mem_of_getElem? (i := 982) (by decide +kernel), by decide +kernel⟩
theorem rm_L_98 : (.methodLink RL 98 yX10_fault) ∈ rd_T := List.mem_filter.mpr ⟨List.mem_of_getElem? (i := 983) (by decide +kernel), by decide +kernel⟩
theorem ri_X10_fault : (.instanceMethod yX10_fault) ∈ rd_T := List.mem_filter.mpr ⟨List.mem_of_getElem? (i := 984) (by decide +kernel), by decide +kernel⟩
theorem rs_X10_fault : (.selects RX10 yX10_fault yX10_fault) ∈ rd_T := List.mem_filter.mpr ⟨List.mem_of_getElem? (i := 985) (by decide +kernel), by decide +kernel⟩
theorem rc_X10_fault : (.code yX10_fault cX10_fault 1 (Option.some Jvm.ClassFile.FieldType.int)) ∈ rd_T := List.mem_filter.mpr ⟨List.mem_of_getElem? (i := 986) (by decide +kernel), by decide +kernel⟩
theorem rm_X10_134 : (.methodLink RX10 134 yX10_isText) ∈ rd_T := List.mem_filter.mpr ⟨List.mem_of_getElem? (i := 987) (by decide +kernel), by decide +kernel⟩
theorem ri_X10_isText : (.instanceMethod yX10_isText) ∈ rd_T := List.mem_filter.mpr ⟨List.mem_of_getElem? (i := 989) (by decide +kernel), by decide +kernel⟩
theorem rc_X10_isText : (.code yX10_isText cX10_isText 1 (Option.some Jvm.ClassFile.FieldType.boolean)) ∈ rd_T := List.mem_filter.mpr ⟨List.mem_of_getElem? (i := 990) (by decide +kernel), by decide +kernel⟩
theorem rm_X10_131 : (.methodLink RX10 131 yX10_readsMove) ∈ rd_T := List.mem_filter.mpr ⟨List.mem_of_getElem? (i := 991) (by decide +kernel), by decide +kernel⟩
theorem ri_X10_readsMove : (.instanceMethod yX10_readsMove) ∈ rd_T := List.mem_filter.mpr ⟨List.mem_of_getElem? (i := 993) (by decide +kernel), by decide +kernel⟩
theorem rc_X10_readsMove : (.code yX10_readsMove cX10_readsMove 2 (Option.some Jvm.ClassFile.FieldType.boolean)) ∈ rd_T := List.mem_filter.mpr ⟨List.mem_of_getElem? (i := 994) (by decide +kernel), by decide +kernel⟩
theorem rm_X10_119 : (.methodLink RX10 119 yX10_sign) ∈ rd_T := List.mem_filter.mpr ⟨List.mem_of_getElem? (i := 995) (by decide +kernel), by decide +kernel⟩
theorem ri_X10_sign : (.instanceMethod yX10_sign) ∈ rd_T := List.mem_filter.mpr ⟨List.mem_of_getElem? (i := 997) (by decide +kernel), by decide +kernel⟩
theorem rc_X10_sign : (.code yX10_sign cX10_sign 1 (Option.some Jvm.ClassFile.FieldType.int)) ∈ rd_T := List.mem_filter.mpr ⟨List.mem_of_getElem? (i := 998) (by decide +kernel), by decide +kernel⟩
theorem rm_X10_125 : (.methodLink RX10 125 yX10_takes) ∈ rd_T := List.mem_filter.mpr ⟨List.mem_of_getElem? (i := 999) (by decide +kernel), by decide +kernel⟩
theorem ri_X10_takes : (.instanceMethod yX10_takes) ∈ rd_T := List.mem_filter.mpr ⟨List.mem_of_getElem? (i := 1001) (by decide +kernel), by decide +kernel⟩
theorem rc_X10_takes : (.code yX10_takes cX10_takes 3 (Option.some Jvm.ClassFile.FieldType.boolean)) ∈ rd_T := List.mem_filter.mpr ⟨List.mem_of_getElem? (i := 1002) (by decide +kernel), by decide +kernel⟩
theorem rm_L_102 : (.methodLink RL 102 yX10_run) ∈ rd_T := List.mem_filter.mpr ⟨List.mem_of_getElem? (i := 1003) (by decide +kernel), by decide +kernel⟩
theorem ri_X10_run : (.instanceMethod yX10_run) ∈ rd_T := List.mem_filter.mpr ⟨List.mem_of_getElem? (i := 1004) (by decide +kernel), by decide +kernel⟩
theorem rs_X10_run : (.selects RX10 yX10_run yX10_run) ∈ rd_T := List.mem_filter.mpr ⟨List.mem_of_getElem? (i := 1005) (by decide +kernel), by decide +kernel⟩
theorem rc_X10_run : (.code yX10_run cX10_run 5 (Option.some Jvm.ClassFile.FieldType.int)) ∈ rd_T := List.mem_filter.mpr ⟨List.mem_of_getElem? (i := 1006) (by decide +kernel), by decide +kernel⟩
theorem rm_X10_137 : (.methodLink RX10 137 yX10_isMade) ∈ rd_T := List.mem_filter.mpr ⟨List.mem_of_getElem? (i := 1007) (by decide +kernel), by decide +kernel⟩
theorem ri_X10_isMade : (.instanceMethod yX10_isMade) ∈ rd_T := List.mem_filter.mpr ⟨List.mem_of_getElem? (i := 1009) (by decide +kernel), by decide +kernel⟩
theorem rc_X10_isMade : (.code yX10_isMade cX10_isMade 1 (Option.some Jvm.ClassFile.FieldType.boolean)) ∈ rd_T := List.mem_filter.mpr ⟨List.mem_of_getElem? (i := 1010) (by decide +kernel), by decide +kernel⟩
theorem rm_L_106 : (.methodLink RL 106 yX10_why) ∈ rd_T := List.mem_filter.mpr ⟨List.mem_of_getElem? (i := 1011) (by decide +kernel), by decide +kernel⟩
theorem ri_X10_why : (.instanceMethod yX10_why) ∈ rd_T := List.mem_filter.mpr ⟨List.mem_of_getElem? (i := 1012) (by decide +kernel), by decide +kernel⟩
theorem rs_X10_why : (.selects RX10 yX10_why yX10_why) ∈ rd_T := List.mem_filter.mpr ⟨List.mem_of_getElem? (i := 1013) (by decide +kernel), by decide +kernel⟩
theorem rc_X10_why : (.code yX10_why cX10_why 2 (Option.some Jvm.ClassFile.FieldType.int)) ∈ rd_T := List.mem_filter.mpr ⟨List.mem_of_getElem? (i := 1014) (by decide +kernel), by decide +kernel⟩
theorem rm_L_110 : (.methodLink RL 110 yX10_undo) ∈ rd_T := List.mem_filter.mpr ⟨List.mem_of_getElem? (i := 1015) (by decide +kernel), by decide +kernel⟩
theorem ri_X10_undo : (.instanceMethod yX10_undo) ∈ rd_T := List.mem_filter.mpr ⟨List.mem_of_getElem? (i := 1016) (by decide +kernel), by decide +kernel⟩
theorem rs_X10_undo : (.selects RX10 yX10_undo yX10_undo) ∈ rd_T := List.mem_filter.mpr ⟨List.mem_of_getElem? (i := 1017) (by decide +kernel), by decide +kernel⟩
theorem rc_X10_undo : (.code yX10_undo cX10_undo 1 (Option.some Jvm.ClassFile.FieldType.int)) ∈ rd_T := List.mem_filter.mpr ⟨List.mem_of_getElem? (i := 1018) (by decide +kernel), by decide +kernel⟩
theorem rm_L_114 : (.methodLink RL 114 yX10_slides) ∈ rd_T := List.mem_filter.mpr ⟨List.mem_of_getElem? (i := 1019) (by decide +kernel), by decide +kernel⟩
theorem ri_X10_slides : (.instanceMethod yX10_slides) ∈ rd_T := List.mem_filter.mpr ⟨List.mem_of_getElem? (i := 1020) (by decide +kernel), by decide +kernel⟩
theorem rs_X10_slides : (.selects RX10 yX10_slides yX10_slides) ∈ rd_T := List.mem_filter.mpr ⟨List.mem_of_getElem? (i := 1021) (by decide +kernel), by decide +kernel⟩
theorem rc_X10_slides : (.code yX10_slides cX10_slides 1 (Option.some Jvm.ClassFile.FieldType.int)) ∈ rd_T := List.mem_filter.mpr ⟨List.mem_of_getElem? (i := 1022) (by decide +kernel), by decide +kernel⟩
theorem rm_L_118 : (.methodLink RL 118 yX10_slideAt) ∈ rd_T := List.mem_filter.mpr ⟨List.mem_of_getElem? (i := 1023) (by decide +kernel), by decide +kernel⟩
theorem ri_X10_slideAt : (.instanceMethod yX10_slideAt) ∈ rd_T := List.mem_filter.mpr ⟨List.mem_of_getElem? (i := 1024) (by decide +kernel), by decide +kernel⟩
theorem rs_X10_slideAt : (.selects RX10 yX10_slideAt yX10_slideAt) ∈ rd_T := List.mem_filter.mpr ⟨List.mem_of_getElem? (i := 1025) (by decide +kernel), by decide +kernel⟩
theorem rc_X10_slideAt : (.code yX10_slideAt cX10_slideAt 2 (Option.some Jvm.ClassFile.FieldType.int)) ∈ rd_T := List.mem_filter.mpr ⟨List.mem_of_getElem? (i := 1026) (by decide +kernel), by decide +kernel⟩
theorem rm_L_122 : (.methodLink RL 122 yX10_slide) ∈ rd_T := List.mem_filter.mpr ⟨List.mem_of_getElem? (i := 1027) (by decide +kernel), by decide +kernel⟩
theorem ri_X10_slide : (.instanceMethod yX10_slide) ∈ rd_T := List.mem_filter.mpr ⟨List.mem_of_getElem? (i := 1028) (by decide +kernel), by decide +kernel⟩
theorem rs_X10_slide : (.selects RX10 yX10_slide yX10_slide) ∈ rd_T := List.mem_filter.mpr ⟨List.mem_of_getElem? (i := 1029) (by decide +kernel), by decide +kernel⟩
theorem rc_X10_slide : (.code yX10_slide cX10_slide 3 (Option.some Jvm.ClassFile.FieldType.int)) ∈ rd_T := List.mem_filter.mpr ⟨List.mem_of_getElem? (i := 1030) (by decide +kernel), by decide +kernel⟩
theorem rm_L_126 : (.methodLink RL 126 yX10_item) ∈ rd_T := List.mem_filter.mpr ⟨List.mem_of_getElem? (i := 1031) (by decide +kernel), by decide +kernel⟩
theorem ri_X10_item : (.instanceMethod yX10_item) ∈ rd_T := List.mem_filter.mpr ⟨List.mem_of_getElem? (i := 1032) (by decide +kernel), by decide +kernel⟩
theorem rs_X10_item : (.selects RX10 yX10_item yX10_item) ∈ rd_T := List.mem_filter.mpr ⟨List.mem_of_getElem? (i := 1033) (by decide +kernel), by decide +kernel⟩
theorem rc_X10_item : (.code yX10_item cX10_item 5 (Option.some Jvm.ClassFile.FieldType.int)) ∈ rd_T := List.mem_filter.mpr ⟨List.mem_of_getElem? (i := 1034) (by decide +kernel), by decide +kernel⟩
theorem rm_L_130 : (.methodLink RL 130 yX10_target) ∈ rd_T := List.mem_filter.mpr ⟨List.mem_of_getElem? (i := 1035) (by decide +kernel), by decide +kernel⟩
theorem ri_X10_target : (.instanceMethod yX10_target) ∈ rd_T := List.mem_filter.mpr ⟨List.mem_of_getElem? (i := 1036) (by decide +kernel), by decide +kernel⟩
theorem rs_X10_target : (.selects RX10 yX10_target yX10_target) ∈ rd_T := List.mem_filter.mpr ⟨List.mem_of_getElem? (i := 1037) (by decide +kernel), by decide +kernel⟩
theorem rc_X10_target : (.code yX10_target cX10_target 3 (Option.some Jvm.ClassFile.FieldType.int)) ∈ rd_T := List.mem_filter.mpr ⟨List.mem_of_getElem? (i := 1038) (by decide +kernel), by decide +kernel⟩
theorem rm_L_134 : (.methodLink RL 134 yX10_picture) ∈ rd_T := List.mem_filter.mpr ⟨List.mem_of_getElem? (i := 1039) (by decide +kernel), by decide +kernel⟩
theorem ri_X10_picture : (.instanceMethod yX10_picture) ∈ rd_T := List.mem_filter.mpr ⟨List.mem_of_getElem? (i := 1040) (by decide +kernel), by decide +kernel⟩
theorem rs_X10_picture : (.selects RX10 yX10_picture yX10_picture) ∈ rd_T := List.mem_filter.mpr ⟨List.mem_of_getElem? (i := 1041) (by decide +kernel), by decide +kernel⟩
theorem rc_X10_picture : (.code yX10_picture cX10_picture 3 (Option.some Jvm.ClassFile.FieldType.int)) ∈ rd_T := List.mem_filter.mpr ⟨List.mem_of_getElem? (i := 1042) (by decide +kernel), by decide +kernel⟩
theorem rm_X10_140 : (.methodLink RX10 140 yX10_seen) ∈ rd_T := List.mem_filter.mpr ⟨List.mem_of_getElem? (i := 1043) (by decide +kernel), by decide +kernel⟩
theorem ri_X10_seen : (.instanceMethod yX10_seen) ∈ rd_T := List.mem_filter.mpr ⟨List.mem_of_getElem? (i := 1045) (by decide +kernel), by decide +kernel⟩
theorem rc_X10_seen : (.code yX10_seen cX10_seen 7 (Option.some Jvm.ClassFile.FieldType.int)) ∈ rd_T := List.mem_filter.mpr ⟨List.mem_of_getElem? (i := 1046) (by decide +kernel), by decide +kernel⟩
theorem rm_L_138 : (.methodLink RL 138 yX10_now) ∈ rd_T := List.mem_filter.mpr ⟨List.mem_of_getElem? (i := 1047) (by decide +kernel), by decide +kernel⟩
theorem ri_X10_now : (.instanceMethod yX10_now) ∈ rd_T := List.mem_filter.mpr ⟨List.mem_of_getElem? (i := 1048) (by decide +kernel), by decide +kernel⟩
theorem rs_X10_now : (.selects RX10 yX10_now yX10_now) ∈ rd_T := List.mem_filter.mpr ⟨List.mem_of_getElem? (i := 1049) (by decide +kernel), by decide +kernel⟩
theorem rc_X10_now : (.code yX10_now cX10_now 2 (Option.some Jvm.ClassFile.FieldType.int)) ∈ rd_T := List.mem_filter.mpr ⟨List.mem_of_getElem? (i := 1050) (by decide +kernel), by decide +kernel⟩
theorem rm_L_142 : (.methodLink RL 142 yX10_trail) ∈ rd_T := List.mem_filter.mpr ⟨List.mem_of_getElem? (i := 1051) (by decide +kernel), by decide +kernel⟩
theorem ri_X10_trail : (.instanceMethod yX10_trail) ∈ rd_T := List.mem_filter.mpr ⟨List.mem_of_getElem? (i := 1052) (by decide +kernel), by decide +kernel⟩
theorem rs_X10_trail : (.selects RX10 yX10_trail yX10_trail) ∈ rd_T := List.mem_filter.mpr ⟨List.mem_of_getElem? (i := 1053) (by decide +kernel), by decide +kernel⟩
theorem rc_X10_trail : (.code yX10_trail cX10_trail 3 (Option.some Jvm.ClassFile.FieldType.int)) ∈ rd_T := List.mem_filter.mpr ⟨List.mem_of_getElem? (i := 1054) (by decide +kernel), by decide +kernel⟩
theorem rm_L_146 : (.methodLink RL 146 yX10_labels) ∈ rd_T := List.mem_filter.mpr ⟨List.mem_of_getElem? (i := 1055) (by decide +kernel), by decide +kernel⟩
theorem ri_X10_labels : (.instanceMethod yX10_labels) ∈ rd_T := List.mem_filter.mpr ⟨List.mem_of_getElem? (i := 1056) (by decide +kernel), by decide +kernel⟩
theorem rs_X10_labels : (.selects RX10 yX10_labels yX10_labels) ∈ rd_T := List.mem_filter.mpr ⟨List.mem_of_getElem? (i := 1057) (by decide +kernel), by decide +kernel⟩
theorem rc_X10_labels : (.code yX10_labels cX10_labels 4 (Option.some Jvm.ClassFile.FieldType.int)) ∈ rd_T := List.mem_filter.mpr ⟨List.mem_of_getElem? (i := 1058) (by decide +kernel), by decide +kernel⟩
theorem rm_L_150 : (.methodLink RL 150 yX10_noteNow) ∈ rd_T := List.mem_filter.mpr ⟨List.mem_of_getElem? (i := 1059) (by decide +kernel), by decide +kernel⟩
theorem ri_X10_noteNow : (.instanceMethod yX10_noteNow) ∈ rd_T := List.mem_filter.mpr ⟨List.mem_of_getElem? (i := 1060) (by decide +kernel), by decide +kernel⟩
theorem rs_X10_noteNow : (.selects RX10 yX10_noteNow yX10_noteNow) ∈ rd_T := List.mem_filter.mpr ⟨List.mem_of_getElem? (i := 1061) (by decide +kernel), by decide +kernel⟩
theorem rc_X10_noteNow : (.code yX10_noteNow cX10_noteNow 6 (Option.some Jvm.ClassFile.FieldType.int)) ∈ rd_T := List.mem_filter.mpr ⟨List.mem_of_getElem? (i := 1062) (by decide +kernel), by decide +kernel⟩
theorem rm_L_154 : (.methodLink RL 154 yX10_end) ∈ rd_T := List.mem_filter.mpr ⟨List.mem_of_getElem? (i := 1063) (by decide +kernel), by decide +kernel⟩
theorem ri_X10_end : (.instanceMethod yX10_end) ∈ rd_T := List.mem_filter.mpr ⟨List.mem_of_getElem? (i := 1064) (by decide +kernel), by decide +kernel⟩
theorem rs_X10_end : (.selects RX10 yX10_end yX10_end) ∈ rd_T := List.mem_filter.mpr ⟨List.mem_of_getElem? (i := 1065) (by decide +kernel), by decide +kernel⟩
theorem rc_X10_end : (.code yX10_end cX10_end 1 (Option.some Jvm.ClassFile.FieldType.int)) ∈ rd_T := List.mem_filter.mpr ⟨List.mem_of_getElem? (i := 1066) (by decide +kernel), by decide +kernel⟩
theorem rm_L_159 : (.methodLink RL 159 yX10_meanSteps) ∈ rd_T := List.mem_filter.mpr ⟨List.mem_of_getElem? (i := 1067) (by decide +kernel), by decide +kernel⟩
theorem ri_X10_meanSteps : (.instanceMethod yX10_meanSteps) ∈ rd_T := List.mem_filter.mpr ⟨List.mem_of_getElem? (i := 1068) (by decide +kernel), by decide +kernel⟩
theorem rs_X10_meanSteps : (.selects RX10 yX10_meanSteps yX10_meanSteps) ∈ rd_T := List.mem_filter.mpr ⟨List.mem_of_getElem? (i := 1069) (by decide +kernel), by decide +kernel⟩
theorem rc_X10_meanSteps : (.code yX10_meanSteps cX10_meanSteps 3 (Option.some Jvm.ClassFile.FieldType.float)) ∈ rd_T := List.mem_filter.mpr ⟨List.mem_of_getElem? (i := 1070) (by decide +kernel), by decide +kernel⟩
theorem rm_L_163 : (.methodLink RL 163 yX10_movesLeft) ∈ rd_T := List.mem_filter.mpr ⟨List.mem_of_getElem? (i := 1071) (by decide +kernel), by decide +kernel⟩
theorem ri_X10_movesLeft : (.instanceMethod yX10_movesLeft) ∈ rd_T := List.mem_filter.mpr ⟨List.mem_of_getElem? (i := 1072) (by decide +kernel), by decide +kernel⟩
theorem rs_X10_movesLeft : (.selects RX10 yX10_movesLeft yX10_movesLeft) ∈ rd_T := List.mem_filter.mpr ⟨List.mem_of_getElem? (i := 1073) (by decide +kernel), by decide +kernel⟩
theorem rc_X10_movesLeft : (.code yX10_movesLeft cX10_movesLeft 3 (Option.some Jvm.ClassFile.FieldType.int)) ∈ rd_T := List.mem_filter.mpr ⟨List.mem_of_getElem? (i := 1074) (by decide +kernel), by decide +kernel⟩
theorem rm_L_167 : (.methodLink RL 167 yX10_fewest) ∈ rd_T := List.mem_filter.mpr ⟨List.mem_of_getElem? (i := 1075) (by decide +kernel), by decide +kernel⟩
theorem ri_X10_fewest : (.instanceMethod yX10_fewest) ∈ rd_T := List.mem_filter.mpr ⟨List.mem_of_getElem? (i := 1076) (by decide +kernel), by decide +kernel⟩
theorem rs_X10_fewest : (.selects RX10 yX10_fewest yX10_fewest) ∈ rd_T := List.mem_filter.mpr ⟨List.mem_of_getElem? (i := 1077) (by decide +kernel), by decide +kernel⟩
theorem rc_X10_fewest : (.code yX10_fewest cX10_fewest 2 (Option.some Jvm.ClassFile.FieldType.int)) ∈ rd_T := List.mem_filter.mpr ⟨List.mem_of_getElem? (i := 1078) (by decide +kernel), by decide +kernel⟩
theorem rm_X10_146 : (.methodLink RX10 146 yX10_leads) ∈ rd_T := List.mem_filter.mpr ⟨List.mem_of_getElem? (i := 1079) (by decide +kernel), by decide +kernel⟩
theorem ri_X10_leads : (.instanceMethod yX10_leads) ∈ rd_T := List.mem_filter.mpr ⟨List.mem_of_getElem? (i := 1081) (by decide +kernel), by decide +kernel⟩
theorem rc_X10_leads : (.code yX10_leads cX10_leads 8 (Option.some Jvm.ClassFile.FieldType.int)) ∈ rd_T := List.mem_filter.mpr ⟨List.mem_of_getElem? (i := 1082) (by decide +kernel), by decide +kernel⟩
theorem rm_X10_143 : (.methodLink RX10 143 yX10_reaches) ∈ rd_T := List.mem_filter.mpr ⟨List.mem_of_getElem? (i := 1083) (by decide +kernel), by decide +kernel⟩
theorem ri_X10_reaches : (.instanceMethod yX10_reaches) ∈ rd_T := List.mem_filter.mpr ⟨List.mem_of_getElem? (i := 1085) (by decide +kernel), by decide +kernel⟩
theorem rc_X10_reaches : (.code yX10_reaches cX10_reaches 5 (Option.some Jvm.ClassFile.FieldType.boolean)) ∈ rd_T := List.mem_filter.mpr ⟨List.mem_of_getElem? (i := 1086) (by decide +kernel), by decide +kernel⟩
theorem rm_L_171 : (.methodLink RL 171 yX10_secondsLeft) ∈ rd_T := List.mem_filter.mpr ⟨List.mem_of_getElem? (i := 1087) (by decide +kernel), by decide +kernel⟩
theorem ri_X10_secondsLeft : (.instanceMethod yX10_secondsLeft) ∈ rd_T := List.mem_filter.mpr ⟨List.mem_of_getElem? (i := 1088) (by decide +kernel), by decide +kernel⟩
theorem rs_X10_secondsLeft : (.selects RX10 yX10_secondsLeft yX10_secondsLeft) ∈ rd_T := List.mem_filter.mpr ⟨List.mem_of_getElem? (i := 1089) (by decide +kernel), by decide +kernel⟩
theorem rc_X10_secondsLeft : (.code yX10_secondsLeft cX10_secondsLeft 7 (Option.some Jvm.ClassFile.FieldType.int)) ∈ rd_T := List.mem_filter.mpr ⟨List.mem_of_getElem? (i := 1090) (by decide +kernel), by decide +kernel⟩
theorem rm_L_175 : (.methodLink RL 175 yX10_backTo) ∈ rd_T := List.mem_filter.mpr ⟨List.mem_of_getElem? (i := 1091) (by decide +kernel), by decide +kernel⟩
theorem ri_X10_backTo : (.instanceMethod yX10_backTo) ∈ rd_T := List.mem_filter.mpr ⟨List.mem_of_getElem? (i := 1092) (by decide +kernel), by decide +kernel⟩
theorem rs_X10_backTo : (.selects RX10 yX10_backTo yX10_backTo) ∈ rd_T := List.mem_filter.mpr ⟨List.mem_of_getElem? (i := 1093) (by decide +kernel), by decide +kernel⟩
theorem rc_X10_backTo : (.code yX10_backTo cX10_backTo 2 (Option.some Jvm.ClassFile.FieldType.int)) ∈ rd_T := List.mem_filter.mpr ⟨List.mem_of_getElem? (i := 1094) (by decide +kernel), by decide +kernel⟩
def rd_nest : List Cond := [.methodLinkNest RX9 9 yX8_init "RevealDeck", .methodLinkNest RX0 21 yX7_init "RevealDeck", .methodLinkNest RX8 20 yX3_init "RevealDeck", .methodLinkNest RX8 27 yX6_init "RevealDeck", .methodLinkNest RX2 17 yX8_init "RevealDeck", .methodLinkNest RX9 25 yX5_init "RevealDeck", .methodLinkNest RX9 32 yX4_init "RevealDeck", .methodLinkNest RX9 39 yX1_init "RevealDeck", .methodLinkNest RX0 43 yX9_isWithin "RevealDeck", .methodLinkNest RX7 44 yX9_isWithin "RevealDeck", .methodLinkNest RX3 28 yX9_isWithin "RevealDeck", .methodLinkNest RX6 52 yX9_isWithin "RevealDeck", .methodLinkNest RX5 19 yX9_isWithin "RevealDeck", .methodLinkNest RX1 83 yX9_isWithin "RevealDeck"]
theorem rx_X9_9 : (.methodLinkNest RX9 9 yX8_init "RevealDeck" : Cond) ∈ rd_nest := List.mem_of_getElem? (i := 0) (by decide +kernel)
theorem rx_X0_21 : (.methodLinkNest RX0 21 yX7_init "RevealDeck" : Cond) ∈ rd_nest := List.mem_of_getElem? (i := 1) (by decide +kernel)
theorem rx_X8_20 : (.methodLinkNest RX8 20 yX3_init "RevealDeck" : Cond) ∈ rd_nest := List.mem_of_getElem? (i := 2) (by decide +kernel)
theorem rx_X8_27 : (.methodLinkNest RX8 27 yX6_init "RevealDeck" : Cond) ∈ rd_nest := List.mem_of_getElem? (i := 3) (by decide +kernel)
theorem rx_X2_17 : (.methodLinkNest RX2 17 yX8_init "RevealDeck" : Cond) ∈ rd_nest := List.mem_of_getElem? (i := 4) (by decide +kernel)
theorem rx_X9_25 : (.methodLinkNest RX9 25 yX5_init "RevealDeck" : Cond) ∈ rd_nest := List.mem_of_getElem? (i := 5) (by decide +kernel)
theorem rx_X9_32 : (.methodLinkNest RX9 32 yX4_init "RevealDeck" : Cond) ∈ rd_nest := List.mem_of_getElem? (i := 6) (by decide +kernel)
theorem rx_X9_39 : (.methodLinkNest RX9 39 yX1_init "RevealDeck" : Cond) ∈ rd_nest := List.mem_of_getElem? (i := 7) (by decide +kernel)
theorem rx_X0_43 : (.methodLinkNest RX0 43 yX9_isWithin "RevealDeck" : Cond) ∈ rd_nest := List.mem_of_getElem? (i := 8) (by decide +kernel)
theorem rx_X7_44 : (.methodLinkNest RX7 44 yX9_isWithin "RevealDeck" : Cond) ∈ rd_nest := List.mem_of_getElem? (i := 9) (by decide +kernel)
theorem rx_X3_28 : (.methodLinkNest RX3 28 yX9_isWithin "RevealDeck" : Cond) ∈ rd_nest := List.mem_of_getElem? (i := 10) (by decide +kernel)
theorem rx_X6_52 : (.methodLinkNest RX6 52 yX9_isWithin "RevealDeck" : Cond) ∈ rd_nest := List.mem_of_getElem? (i := 11) (by decide +kernel)
theorem rx_X5_19 : (.methodLinkNest RX5 19 yX9_isWithin "RevealDeck" : Cond) ∈ rd_nest := List.mem_of_getElem? (i := 12) (by decide +kernel)
theorem rx_X1_83 : (.methodLinkNest RX1 83 yX9_isWithin "RevealDeck" : Cond) ∈ rd_nest := List.mem_of_getElem? (i := 13) (by decide +kernel)
theorem rd_nest_in : ∀ w ∈ rd_nest, w ∈ lw_tbl := by decide +kernel
theorem ru_X0 : ∀ w ∈ u_ws RX0 TX0 3, w ∈ rd_T := by decide +kernel
theorem ru_X1 : ∀ w ∈ u_ws RX1 TX1 1, w ∈ rd_T := by decide +kernel
theorem ru_X2 : ∀ w ∈ u_ws RX2 TX2 2, w ∈ rd_T := by decide +kernel
theorem ru_X3 : ∀ w ∈ u_ws RX3 TX3 3, w ∈ rd_T := by decide +kernel
theorem ru_X4 : ∀ w ∈ u_ws RX4 TX4 4, w ∈ rd_T := by decide +kernel
theorem ru_X5 : ∀ w ∈ u_ws RX5 TX5 2, w ∈ rd_T := by decide +kernel
theorem ru_X6 : ∀ w ∈ u_ws RX6 TX6 9, w ∈ rd_T := by decide +kernel
theorem ru_X7 : ∀ w ∈ u_ws RX7 TX7 8, w ∈ rd_T := by decide +kernel
theorem ru_X8 : ∀ w ∈ u_ws RX8 TX8 4, w ∈ rd_T := by decide +kernel
theorem ru_X9 : ∀ w ∈ u_ws RX9 TX9 5, w ∈ rd_T := by decide +kernel
theorem ru_X10 : ∀ w ∈ u_ws RX10 TX10 9, w ∈ rd_T := by decide +kernel
end
section
theorem dX0_init_0 : decode cX0_init 0 = .ok (.aload_n 0, 1) := by decide +kernel
theorem dX0_init_1 : decode cX0_init 1 = .ok (.invokespecial 3, 3) := by decide +kernel
theorem dX0_init_4 : decode cX0_init 4 = .ok (.aload_n 0, 1) := by decide +kernel
theorem dX0_init_5 : decode cX0_init 5 = .ok (.bipush 10, 2) := by decide +kernel
theorem dX0_init_7 : decode cX0_init 7 = .ok (.newarray .int, 2) := by decide +kernel
theorem dX0_init_9 : decode cX0_init 9 = .ok (.putfield 9, 3) := by decide +kernel
theorem dX0_init_12 : decode cX0_init 12 = .ok (.aload_n 0, 1) := by decide +kernel
theorem dX0_init_13 : decode cX0_init 13 = .ok (.bipush 10, 2) := by decide +kernel
theorem dX0_init_15 : decode cX0_init 15 = .ok (.anewarray 15, 3) := by decide +kernel
theorem dX0_init_18 : decode cX0_init 18 = .ok (.putfield 17, 3) := by decide +kernel
theorem dX0_init_21 : decode cX0_init 21 = .ok (.iconst 0, 1) := by decide +kernel
theorem dX0_init_22 : decode cX0_init 22 = .ok (.istore_n 1, 1) := by decide +kernel
theorem dX0_init_23 : decode cX0_init 23 = .ok (.iload_n 1, 1) := by decide +kernel
theorem dX0_init_24 : decode cX0_init 24 = .ok (.aload_n 0, 1) := by decide +kernel
theorem dX0_init_25 : decode cX0_init 25 = .ok (.getfield 17, 3) := by decide +kernel
theorem dX0_init_28 : decode cX0_init 28 = .ok (.arraylength, 1) := by decide +kernel
theorem dX0_init_29 : decode cX0_init 29 = .ok (.if_icmp .ge 28, 3) := by decide +kernel
theorem dX0_init_32 : decode cX0_init 32 = .ok (.new 15, 3) := by decide +kernel
theorem dX0_init_35 : decode cX0_init 35 = .ok (.dup, 1) := by decide +kernel
theorem dX0_init_36 : decode cX0_init 36 = .ok (.invokespecial 21, 3) := by decide +kernel
theorem dX0_init_39 : decode cX0_init 39 = .ok (.astore_n 2, 1) := by decide +kernel
theorem dX0_init_40 : decode cX0_init 40 = .ok (.aload_n 2, 1) := by decide +kernel
theorem dX0_init_41 : decode cX0_init 41 = .ok (.invokevirtual 22, 3) := by decide +kernel
theorem dX0_init_44 : decode cX0_init 44 = .ok (.aload_n 0, 1) := by decide +kernel
theorem dX0_init_45 : decode cX0_init 45 = .ok (.getfield 17, 3) := by decide +kernel
theorem dX0_init_48 : decode cX0_init 48 = .ok (.iload_n 1, 1) := by decide +kernel
theorem dX0_init_49 : decode cX0_init 49 = .ok (.aload_n 2, 1) := by decide +kernel
theorem dX0_init_50 : decode cX0_init 50 = .ok (.aastore, 1) := by decide +kernel
theorem dX0_init_51 : decode cX0_init 51 = .ok (.iinc 1 1, 3) := by decide +kernel
theorem dX0_init_54 : decode cX0_init 54 = .ok (.goto (-31), 3) := by decide +kernel
theorem dX0_init_57 : decode cX0_init 57 = .ok (.return_, 1) := by decide +kernel
theorem dX0_copyFrom_0 : decode cX0_copyFrom 0 = .ok (.aload_n 0, 1) := by decide +kernel
theorem dX0_copyFrom_1 : decode cX0_copyFrom 1 = .ok (.aload_n 1, 1) := by decide +kernel
theorem dX0_copyFrom_2 : decode cX0_copyFrom 2 = .ok (.getfield 25, 3) := by decide +kernel
theorem dX0_copyFrom_5 : decode cX0_copyFrom 5 = .ok (.putfield 25, 3) := by decide +kernel
theorem dX0_copyFrom_8 : decode cX0_copyFrom 8 = .ok (.aload_n 1, 1) := by decide +kernel
theorem dX0_copyFrom_9 : decode cX0_copyFrom 9 = .ok (.getfield 9, 3) := by decide +kernel
theorem dX0_copyFrom_12 : decode cX0_copyFrom 12 = .ok (.iconst 0, 1) := by decide +kernel
theorem dX0_copyFrom_13 : decode cX0_copyFrom 13 = .ok (.aload_n 0, 1) := by decide +kernel
theorem dX0_copyFrom_14 : decode cX0_copyFrom 14 = .ok (.getfield 9, 3) := by decide +kernel
theorem dX0_copyFrom_17 : decode cX0_copyFrom 17 = .ok (.iconst 0, 1) := by decide +kernel
theorem dX0_copyFrom_18 : decode cX0_copyFrom 18 = .ok (.bipush 10, 2) := by decide +kernel
theorem dX0_copyFrom_20 : decode cX0_copyFrom 20 = .ok (.invokestatic 29, 3) := by decide +kernel
theorem dX0_copyFrom_23 : decode cX0_copyFrom 23 = .ok (.iconst 0, 1) := by decide +kernel
theorem dX0_copyFrom_24 : decode cX0_copyFrom 24 = .ok (.istore_n 2, 1) := by decide +kernel
theorem dX0_copyFrom_25 : decode cX0_copyFrom 25 = .ok (.iload_n 2, 1) := by decide +kernel
theorem dX0_copyFrom_26 : decode cX0_copyFrom 26 = .ok (.bipush 10, 2) := by decide +kernel
theorem dX0_copyFrom_28 : decode cX0_copyFrom 28 = .ok (.if_icmp .ge 24, 3) := by decide +kernel
theorem dX0_copyFrom_31 : decode cX0_copyFrom 31 = .ok (.aload_n 0, 1) := by decide +kernel
theorem dX0_copyFrom_32 : decode cX0_copyFrom 32 = .ok (.getfield 17, 3) := by decide +kernel
theorem dX0_copyFrom_35 : decode cX0_copyFrom 35 = .ok (.iload_n 2, 1) := by decide +kernel
theorem dX0_copyFrom_36 : decode cX0_copyFrom 36 = .ok (.aaload, 1) := by decide +kernel
theorem dX0_copyFrom_37 : decode cX0_copyFrom 37 = .ok (.aload_n 1, 1) := by decide +kernel
theorem dX0_copyFrom_38 : decode cX0_copyFrom 38 = .ok (.getfield 17, 3) := by decide +kernel
theorem dX0_copyFrom_41 : decode cX0_copyFrom 41 = .ok (.iload_n 2, 1) := by decide +kernel
theorem dX0_copyFrom_42 : decode cX0_copyFrom 42 = .ok (.aaload, 1) := by decide +kernel
theorem dX0_copyFrom_43 : decode cX0_copyFrom 43 = .ok (.invokevirtual 35, 3) := by decide +kernel
theorem dX0_copyFrom_46 : decode cX0_copyFrom 46 = .ok (.iinc 2 1, 3) := by decide +kernel
theorem dX0_copyFrom_49 : decode cX0_copyFrom 49 = .ok (.goto (-24), 3) := by decide +kernel
theorem dX0_copyFrom_52 : decode cX0_copyFrom 52 = .ok (.return_, 1) := by decide +kernel
theorem dX0_find_0 : decode cX0_find 0 = .ok (.iload_n 1, 1) := by decide +kernel
theorem dX0_find_1 : decode cX0_find 1 = .ok (.ifCond .lt 9, 3) := by decide +kernel
theorem dX0_find_4 : decode cX0_find 4 = .ok (.iload_n 1, 1) := by decide +kernel
theorem dX0_find_5 : decode cX0_find 5 = .ok (.bipush 10, 2) := by decide +kernel
theorem dX0_find_7 : decode cX0_find 7 = .ok (.if_icmp .lt 5, 3) := by decide +kernel
theorem dX0_find_10 : decode cX0_find 10 = .ok (.aconst_null, 1) := by decide +kernel
theorem dX0_find_11 : decode cX0_find 11 = .ok (.areturn, 1) := by decide +kernel
theorem dX0_find_12 : decode cX0_find 12 = .ok (.aload_n 0, 1) := by decide +kernel
theorem dX0_find_13 : decode cX0_find 13 = .ok (.getfield 17, 3) := by decide +kernel
theorem dX0_find_16 : decode cX0_find 16 = .ok (.iload_n 1, 1) := by decide +kernel
theorem dX0_find_17 : decode cX0_find 17 = .ok (.aaload, 1) := by decide +kernel
theorem dX0_find_18 : decode cX0_find 18 = .ok (.astore_n 2, 1) := by decide +kernel
theorem dX0_find_19 : decode cX0_find 19 = .ok (.aload_n 2, 1) := by decide +kernel
theorem dX0_find_20 : decode cX0_find 20 = .ok (.getfield 39, 3) := by decide +kernel
theorem dX0_find_23 : decode cX0_find 23 = .ok (.ifCond .eq 7, 3) := by decide +kernel
theorem dX0_find_26 : decode cX0_find 26 = .ok (.aload_n 2, 1) := by decide +kernel
theorem dX0_find_27 : decode cX0_find 27 = .ok (.goto 4, 3) := by decide +kernel
theorem dX0_find_30 : decode cX0_find 30 = .ok (.aconst_null, 1) := by decide +kernel
theorem dX0_find_31 : decode cX0_find 31 = .ok (.areturn, 1) := by decide +kernel
theorem dX0_lowestFree_0 : decode cX0_lowestFree 0 = .ok (.iconst 0, 1) := by decide +kernel
theorem dX0_lowestFree_1 : decode cX0_lowestFree 1 = .ok (.istore_n 1, 1) := by decide +kernel
theorem dX0_lowestFree_2 : decode cX0_lowestFree 2 = .ok (.iload_n 1, 1) := by decide +kernel
theorem dX0_lowestFree_3 : decode cX0_lowestFree 3 = .ok (.bipush 10, 2) := by decide +kernel
theorem dX0_lowestFree_5 : decode cX0_lowestFree 5 = .ok (.if_icmp .ge 23, 3) := by decide +kernel
theorem dX0_lowestFree_8 : decode cX0_lowestFree 8 = .ok (.aload_n 0, 1) := by decide +kernel
theorem dX0_lowestFree_9 : decode cX0_lowestFree 9 = .ok (.getfield 17, 3) := by decide +kernel
theorem dX0_lowestFree_12 : decode cX0_lowestFree 12 = .ok (.iload_n 1, 1) := by decide +kernel
theorem dX0_lowestFree_13 : decode cX0_lowestFree 13 = .ok (.aaload, 1) := by decide +kernel
theorem dX0_lowestFree_14 : decode cX0_lowestFree 14 = .ok (.getfield 39, 3) := by decide +kernel
theorem dX0_lowestFree_17 : decode cX0_lowestFree 17 = .ok (.ifCond .ne 5, 3) := by decide +kernel
theorem dX0_lowestFree_20 : decode cX0_lowestFree 20 = .ok (.iload_n 1, 1) := by decide +kernel
theorem dX0_lowestFree_21 : decode cX0_lowestFree 21 = .ok (.ireturn, 1) := by decide +kernel
theorem dX0_lowestFree_22 : decode cX0_lowestFree 22 = .ok (.iinc 1 1, 3) := by decide +kernel
theorem dX0_lowestFree_25 : decode cX0_lowestFree 25 = .ok (.goto (-23), 3) := by decide +kernel
theorem dX0_lowestFree_28 : decode cX0_lowestFree 28 = .ok (.iconst (-1), 1) := by decide +kernel
theorem dX0_lowestFree_29 : decode cX0_lowestFree 29 = .ok (.ireturn, 1) := by decide +kernel
theorem dX0_putSlide_0 : decode cX0_putSlide 0 = .ok (.iload_n 1, 1) := by decide +kernel
theorem dX0_putSlide_1 : decode cX0_putSlide 1 = .ok (.iconst 0, 1) := by decide +kernel
theorem dX0_putSlide_2 : decode cX0_putSlide 2 = .ok (.bipush 9, 2) := by decide +kernel
theorem dX0_putSlide_4 : decode cX0_putSlide 4 = .ok (.invokestatic 43, 3) := by decide +kernel
theorem dX0_putSlide_7 : decode cX0_putSlide 7 = .ok (.ifCond .eq 22, 3) := by decide +kernel
theorem dX0_putSlide_10 : decode cX0_putSlide 10 = .ok (.aload_n 0, 1) := by decide +kernel
theorem dX0_putSlide_11 : decode cX0_putSlide 11 = .ok (.getfield 17, 3) := by decide +kernel
theorem dX0_putSlide_14 : decode cX0_putSlide 14 = .ok (.iload_n 1, 1) := by decide +kernel
theorem dX0_putSlide_15 : decode cX0_putSlide 15 = .ok (.aaload, 1) := by decide +kernel
theorem dX0_putSlide_16 : decode cX0_putSlide 16 = .ok (.iconst 1, 1) := by decide +kernel
theorem dX0_putSlide_17 : decode cX0_putSlide 17 = .ok (.putfield 39, 3) := by decide +kernel
theorem dX0_putSlide_20 : decode cX0_putSlide 20 = .ok (.aload_n 0, 1) := by decide +kernel
theorem dX0_putSlide_21 : decode cX0_putSlide 21 = .ok (.iload_n 1, 1) := by decide +kernel
theorem dX0_putSlide_22 : decode cX0_putSlide 22 = .ok (.aload_n 0, 1) := by decide +kernel
theorem dX0_putSlide_23 : decode cX0_putSlide 23 = .ok (.getfield 25, 3) := by decide +kernel
theorem dX0_putSlide_26 : decode cX0_putSlide 26 = .ok (.invokevirtual 47, 3) := by decide +kernel
theorem dX0_putSlide_29 : decode cX0_putSlide 29 = .ok (.return_, 1) := by decide +kernel
theorem dX0_dropSlide_0 : decode cX0_dropSlide 0 = .ok (.aload_n 0, 1) := by decide +kernel
theorem dX0_dropSlide_1 : decode cX0_dropSlide 1 = .ok (.iload_n 1, 1) := by decide +kernel
theorem dX0_dropSlide_2 : decode cX0_dropSlide 2 = .ok (.invokevirtual 51, 3) := by decide +kernel
theorem dX0_dropSlide_5 : decode cX0_dropSlide 5 = .ok (.astore_n 2, 1) := by decide +kernel
theorem dX0_dropSlide_6 : decode cX0_dropSlide 6 = .ok (.aload_n 2, 1) := by decide +kernel
theorem dX0_dropSlide_7 : decode cX0_dropSlide 7 = .ok (.ifnonnull 4, 3) := by decide +kernel
theorem dX0_dropSlide_10 : decode cX0_dropSlide 10 = .ok (.return_, 1) := by decide +kernel
theorem dX0_dropSlide_11 : decode cX0_dropSlide 11 = .ok (.aload_n 2, 1) := by decide +kernel
theorem dX0_dropSlide_12 : decode cX0_dropSlide 12 = .ok (.invokevirtual 22, 3) := by decide +kernel
theorem dX0_dropSlide_15 : decode cX0_dropSlide 15 = .ok (.aload_n 0, 1) := by decide +kernel
theorem dX0_dropSlide_16 : decode cX0_dropSlide 16 = .ok (.iload_n 1, 1) := by decide +kernel
theorem dX0_dropSlide_17 : decode cX0_dropSlide 17 = .ok (.invokevirtual 55, 3) := by decide +kernel
theorem dX0_dropSlide_20 : decode cX0_dropSlide 20 = .ok (.aload_n 0, 1) := by decide +kernel
theorem dX0_dropSlide_21 : decode cX0_dropSlide 21 = .ok (.getfield 17, 3) := by decide +kernel
theorem dX0_dropSlide_24 : decode cX0_dropSlide 24 = .ok (.astore_n 3, 1) := by decide +kernel
theorem dX0_dropSlide_25 : decode cX0_dropSlide 25 = .ok (.aload_n 3, 1) := by decide +kernel
theorem dX0_dropSlide_26 : decode cX0_dropSlide 26 = .ok (.arraylength, 1) := by decide +kernel
theorem dX0_dropSlide_27 : decode cX0_dropSlide 27 = .ok (.istore 4, 2) := by decide +kernel
theorem dX0_dropSlide_29 : decode cX0_dropSlide 29 = .ok (.iconst 0, 1) := by decide +kernel
theorem dX0_dropSlide_30 : decode cX0_dropSlide 30 = .ok (.istore 5, 2) := by decide +kernel
theorem dX0_dropSlide_32 : decode cX0_dropSlide 32 = .ok (.iload 5, 2) := by decide +kernel
theorem dX0_dropSlide_34 : decode cX0_dropSlide 34 = .ok (.iload 4, 2) := by decide +kernel
theorem dX0_dropSlide_36 : decode cX0_dropSlide 36 = .ok (.if_icmp .ge 21, 3) := by decide +kernel
theorem dX0_dropSlide_39 : decode cX0_dropSlide 39 = .ok (.aload_n 3, 1) := by decide +kernel
theorem dX0_dropSlide_40 : decode cX0_dropSlide 40 = .ok (.iload 5, 2) := by decide +kernel
theorem dX0_dropSlide_42 : decode cX0_dropSlide 42 = .ok (.aaload, 1) := by decide +kernel
theorem dX0_dropSlide_43 : decode cX0_dropSlide 43 = .ok (.astore 6, 2) := by decide +kernel
theorem dX0_dropSlide_45 : decode cX0_dropSlide 45 = .ok (.aload 6, 2) := by decide +kernel
theorem dX0_dropSlide_47 : decode cX0_dropSlide 47 = .ok (.iload_n 1, 1) := by decide +kernel
theorem dX0_dropSlide_48 : decode cX0_dropSlide 48 = .ok (.invokevirtual 59, 3) := by decide +kernel
theorem dX0_dropSlide_51 : decode cX0_dropSlide 51 = .ok (.iinc 5 1, 3) := by decide +kernel
theorem dX0_dropSlide_54 : decode cX0_dropSlide 54 = .ok (.goto (-22), 3) := by decide +kernel
theorem dX0_dropSlide_57 : decode cX0_dropSlide 57 = .ok (.return_, 1) := by decide +kernel
theorem dX0_putInOrder_0 : decode cX0_putInOrder 0 = .ok (.aload_n 0, 1) := by decide +kernel
theorem dX0_putInOrder_1 : decode cX0_putInOrder 1 = .ok (.getfield 25, 3) := by decide +kernel
theorem dX0_putInOrder_4 : decode cX0_putInOrder 4 = .ok (.bipush 10, 2) := by decide +kernel
theorem dX0_putInOrder_6 : decode cX0_putInOrder 6 = .ok (.if_icmp .ge 15, 3) := by decide +kernel
theorem dX0_putInOrder_9 : decode cX0_putInOrder 9 = .ok (.iload_n 2, 1) := by decide +kernel
theorem dX0_putInOrder_10 : decode cX0_putInOrder 10 = .ok (.iconst 0, 1) := by decide +kernel
theorem dX0_putInOrder_11 : decode cX0_putInOrder 11 = .ok (.aload_n 0, 1) := by decide +kernel
theorem dX0_putInOrder_12 : decode cX0_putInOrder 12 = .ok (.getfield 25, 3) := by decide +kernel
theorem dX0_putInOrder_15 : decode cX0_putInOrder 15 = .ok (.invokestatic 43, 3) := by decide +kernel
theorem dX0_putInOrder_18 : decode cX0_putInOrder 18 = .ok (.ifCond .ne 4, 3) := by decide +kernel
theorem dX0_putInOrder_21 : decode cX0_putInOrder 21 = .ok (.return_, 1) := by decide +kernel
theorem dX0_putInOrder_22 : decode cX0_putInOrder 22 = .ok (.aload_n 0, 1) := by decide +kernel
theorem dX0_putInOrder_23 : decode cX0_putInOrder 23 = .ok (.getfield 25, 3) := by decide +kernel
theorem dX0_putInOrder_26 : decode cX0_putInOrder 26 = .ok (.istore_n 3, 1) := by decide +kernel
theorem dX0_putInOrder_27 : decode cX0_putInOrder 27 = .ok (.iload_n 3, 1) := by decide +kernel
theorem dX0_putInOrder_28 : decode cX0_putInOrder 28 = .ok (.iload_n 2, 1) := by decide +kernel
theorem dX0_putInOrder_29 : decode cX0_putInOrder 29 = .ok (.if_icmp .le 23, 3) := by decide +kernel
theorem dX0_putInOrder_32 : decode cX0_putInOrder 32 = .ok (.aload_n 0, 1) := by decide +kernel
theorem dX0_putInOrder_33 : decode cX0_putInOrder 33 = .ok (.getfield 9, 3) := by decide +kernel
theorem dX0_putInOrder_36 : decode cX0_putInOrder 36 = .ok (.iload_n 3, 1) := by decide +kernel
theorem dX0_putInOrder_37 : decode cX0_putInOrder 37 = .ok (.aload_n 0, 1) := by decide +kernel
theorem dX0_putInOrder_38 : decode cX0_putInOrder 38 = .ok (.getfield 9, 3) := by decide +kernel
theorem dX0_putInOrder_41 : decode cX0_putInOrder 41 = .ok (.iload_n 3, 1) := by decide +kernel
theorem dX0_putInOrder_42 : decode cX0_putInOrder 42 = .ok (.iconst 1, 1) := by decide +kernel
theorem dX0_putInOrder_43 : decode cX0_putInOrder 43 = .ok (.isub, 1) := by decide +kernel
theorem dX0_putInOrder_44 : decode cX0_putInOrder 44 = .ok (.iaload, 1) := by decide +kernel
theorem dX0_putInOrder_45 : decode cX0_putInOrder 45 = .ok (.iastore, 1) := by decide +kernel
theorem dX0_putInOrder_46 : decode cX0_putInOrder 46 = .ok (.iinc 3 (-1), 3) := by decide +kernel
theorem dX0_putInOrder_49 : decode cX0_putInOrder 49 = .ok (.goto (-22), 3) := by decide +kernel
theorem dX0_putInOrder_52 : decode cX0_putInOrder 52 = .ok (.aload_n 0, 1) := by decide +kernel
theorem dX0_putInOrder_53 : decode cX0_putInOrder 53 = .ok (.getfield 9, 3) := by decide +kernel
theorem dX0_putInOrder_56 : decode cX0_putInOrder 56 = .ok (.iload_n 2, 1) := by decide +kernel
theorem dX0_putInOrder_57 : decode cX0_putInOrder 57 = .ok (.iload_n 1, 1) := by decide +kernel
theorem dX0_putInOrder_58 : decode cX0_putInOrder 58 = .ok (.iastore, 1) := by decide +kernel
theorem dX0_putInOrder_59 : decode cX0_putInOrder 59 = .ok (.aload_n 0, 1) := by decide +kernel
theorem dX0_putInOrder_60 : decode cX0_putInOrder 60 = .ok (.dup, 1) := by decide +kernel
theorem dX0_putInOrder_61 : decode cX0_putInOrder 61 = .ok (.getfield 25, 3) := by decide +kernel
theorem dX0_putInOrder_64 : decode cX0_putInOrder 64 = .ok (.iconst 1, 1) := by decide +kernel
theorem dX0_putInOrder_65 : decode cX0_putInOrder 65 = .ok (.iadd, 1) := by decide +kernel
theorem dX0_putInOrder_66 : decode cX0_putInOrder 66 = .ok (.putfield 25, 3) := by decide +kernel
theorem dX0_putInOrder_69 : decode cX0_putInOrder 69 = .ok (.return_, 1) := by decide +kernel
theorem dX0_dropFromOrder_0 : decode cX0_dropFromOrder 0 = .ok (.aload_n 0, 1) := by decide +kernel
theorem dX0_dropFromOrder_1 : decode cX0_dropFromOrder 1 = .ok (.iload_n 1, 1) := by decide +kernel
theorem dX0_dropFromOrder_2 : decode cX0_dropFromOrder 2 = .ok (.invokevirtual 62, 3) := by decide +kernel
theorem dX0_dropFromOrder_5 : decode cX0_dropFromOrder 5 = .ok (.istore_n 2, 1) := by decide +kernel
theorem dX0_dropFromOrder_6 : decode cX0_dropFromOrder 6 = .ok (.iload_n 2, 1) := by decide +kernel
theorem dX0_dropFromOrder_7 : decode cX0_dropFromOrder 7 = .ok (.iconst (-1), 1) := by decide +kernel
theorem dX0_dropFromOrder_8 : decode cX0_dropFromOrder 8 = .ok (.if_icmp .ne 4, 3) := by decide +kernel
theorem dX0_dropFromOrder_11 : decode cX0_dropFromOrder 11 = .ok (.return_, 1) := by decide +kernel
theorem dX0_dropFromOrder_12 : decode cX0_dropFromOrder 12 = .ok (.aload_n 0, 1) := by decide +kernel
theorem dX0_dropFromOrder_13 : decode cX0_dropFromOrder 13 = .ok (.dup, 1) := by decide +kernel
theorem dX0_dropFromOrder_14 : decode cX0_dropFromOrder 14 = .ok (.getfield 25, 3) := by decide +kernel
theorem dX0_dropFromOrder_17 : decode cX0_dropFromOrder 17 = .ok (.iconst 1, 1) := by decide +kernel
theorem dX0_dropFromOrder_18 : decode cX0_dropFromOrder 18 = .ok (.isub, 1) := by decide +kernel
theorem dX0_dropFromOrder_19 : decode cX0_dropFromOrder 19 = .ok (.putfield 25, 3) := by decide +kernel
theorem dX0_dropFromOrder_22 : decode cX0_dropFromOrder 22 = .ok (.iload_n 2, 1) := by decide +kernel
theorem dX0_dropFromOrder_23 : decode cX0_dropFromOrder 23 = .ok (.istore_n 3, 1) := by decide +kernel
theorem dX0_dropFromOrder_24 : decode cX0_dropFromOrder 24 = .ok (.iload_n 3, 1) := by decide +kernel
theorem dX0_dropFromOrder_25 : decode cX0_dropFromOrder 25 = .ok (.aload_n 0, 1) := by decide +kernel
theorem dX0_dropFromOrder_26 : decode cX0_dropFromOrder 26 = .ok (.getfield 25, 3) := by decide +kernel
theorem dX0_dropFromOrder_29 : decode cX0_dropFromOrder 29 = .ok (.if_icmp .ge 23, 3) := by decide +kernel
theorem dX0_dropFromOrder_32 : decode cX0_dropFromOrder 32 = .ok (.aload_n 0, 1) := by decide +kernel
theorem dX0_dropFromOrder_33 : decode cX0_dropFromOrder 33 = .ok (.getfield 9, 3) := by decide +kernel
theorem dX0_dropFromOrder_36 : decode cX0_dropFromOrder 36 = .ok (.iload_n 3, 1) := by decide +kernel
theorem dX0_dropFromOrder_37 : decode cX0_dropFromOrder 37 = .ok (.aload_n 0, 1) := by decide +kernel
theorem dX0_dropFromOrder_38 : decode cX0_dropFromOrder 38 = .ok (.getfield 9, 3) := by decide +kernel
theorem dX0_dropFromOrder_41 : decode cX0_dropFromOrder 41 = .ok (.iload_n 3, 1) := by decide +kernel
theorem dX0_dropFromOrder_42 : decode cX0_dropFromOrder 42 = .ok (.iconst 1, 1) := by decide +kernel
theorem dX0_dropFromOrder_43 : decode cX0_dropFromOrder 43 = .ok (.iadd, 1) := by decide +kernel
theorem dX0_dropFromOrder_44 : decode cX0_dropFromOrder 44 = .ok (.iaload, 1) := by decide +kernel
theorem dX0_dropFromOrder_45 : decode cX0_dropFromOrder 45 = .ok (.iastore, 1) := by decide +kernel
theorem dX0_dropFromOrder_46 : decode cX0_dropFromOrder 46 = .ok (.iinc 3 1, 3) := by decide +kernel
theorem dX0_dropFromOrder_49 : decode cX0_dropFromOrder 49 = .ok (.goto (-25), 3) := by decide +kernel
theorem dX0_dropFromOrder_52 : decode cX0_dropFromOrder 52 = .ok (.return_, 1) := by decide +kernel
theorem dX0_placeOf_0 : decode cX0_placeOf 0 = .ok (.iconst 0, 1) := by decide +kernel
theorem dX0_placeOf_1 : decode cX0_placeOf 1 = .ok (.istore_n 2, 1) := by decide +kernel
theorem dX0_placeOf_2 : decode cX0_placeOf 2 = .ok (.iload_n 2, 1) := by decide +kernel
theorem dX0_placeOf_3 : decode cX0_placeOf 3 = .ok (.aload_n 0, 1) := by decide +kernel
theorem dX0_placeOf_4 : decode cX0_placeOf 4 = .ok (.getfield 25, 3) := by decide +kernel
theorem dX0_placeOf_7 : decode cX0_placeOf 7 = .ok (.if_icmp .ge 21, 3) := by decide +kernel
theorem dX0_placeOf_10 : decode cX0_placeOf 10 = .ok (.aload_n 0, 1) := by decide +kernel
theorem dX0_placeOf_11 : decode cX0_placeOf 11 = .ok (.getfield 9, 3) := by decide +kernel
theorem dX0_placeOf_14 : decode cX0_placeOf 14 = .ok (.iload_n 2, 1) := by decide +kernel
theorem dX0_placeOf_15 : decode cX0_placeOf 15 = .ok (.iaload, 1) := by decide +kernel
theorem dX0_placeOf_16 : decode cX0_placeOf 16 = .ok (.iload_n 1, 1) := by decide +kernel
theorem dX0_placeOf_17 : decode cX0_placeOf 17 = .ok (.if_icmp .ne 5, 3) := by decide +kernel
theorem dX0_placeOf_20 : decode cX0_placeOf 20 = .ok (.iload_n 2, 1) := by decide +kernel
theorem dX0_placeOf_21 : decode cX0_placeOf 21 = .ok (.ireturn, 1) := by decide +kernel
theorem dX0_placeOf_22 : decode cX0_placeOf 22 = .ok (.iinc 2 1, 3) := by decide +kernel
theorem dX0_placeOf_25 : decode cX0_placeOf 25 = .ok (.goto (-23), 3) := by decide +kernel
theorem dX0_placeOf_28 : decode cX0_placeOf 28 = .ok (.iconst (-1), 1) := by decide +kernel
theorem dX0_placeOf_29 : decode cX0_placeOf 29 = .ok (.ireturn, 1) := by decide +kernel
theorem dX0_numberAt_0 : decode cX0_numberAt 0 = .ok (.iload_n 1, 1) := by decide +kernel
theorem dX0_numberAt_1 : decode cX0_numberAt 1 = .ok (.ifCond .lt 20, 3) := by decide +kernel
theorem dX0_numberAt_4 : decode cX0_numberAt 4 = .ok (.iload_n 1, 1) := by decide +kernel
theorem dX0_numberAt_5 : decode cX0_numberAt 5 = .ok (.aload_n 0, 1) := by decide +kernel
theorem dX0_numberAt_6 : decode cX0_numberAt 6 = .ok (.getfield 25, 3) := by decide +kernel
theorem dX0_numberAt_9 : decode cX0_numberAt 9 = .ok (.if_icmp .ge 12, 3) := by decide +kernel
theorem dX0_numberAt_12 : decode cX0_numberAt 12 = .ok (.aload_n 0, 1) := by decide +kernel
theorem dX0_numberAt_13 : decode cX0_numberAt 13 = .ok (.getfield 9, 3) := by decide +kernel
theorem dX0_numberAt_16 : decode cX0_numberAt 16 = .ok (.iload_n 1, 1) := by decide +kernel
theorem dX0_numberAt_17 : decode cX0_numberAt 17 = .ok (.iaload, 1) := by decide +kernel
theorem dX0_numberAt_18 : decode cX0_numberAt 18 = .ok (.goto 4, 3) := by decide +kernel
theorem dX0_numberAt_21 : decode cX0_numberAt 21 = .ok (.iconst (-1), 1) := by decide +kernel
theorem dX0_numberAt_22 : decode cX0_numberAt 22 = .ok (.ireturn, 1) := by decide +kernel
theorem dX0_nextShown_0 : decode cX0_nextShown 0 = .ok (.iload_n 1, 1) := by decide +kernel
theorem dX0_nextShown_1 : decode cX0_nextShown 1 = .ok (.iconst 1, 1) := by decide +kernel
theorem dX0_nextShown_2 : decode cX0_nextShown 2 = .ok (.iadd, 1) := by decide +kernel
theorem dX0_nextShown_3 : decode cX0_nextShown 3 = .ok (.istore_n 2, 1) := by decide +kernel
theorem dX0_nextShown_4 : decode cX0_nextShown 4 = .ok (.iload_n 2, 1) := by decide +kernel
theorem dX0_nextShown_5 : decode cX0_nextShown 5 = .ok (.aload_n 0, 1) := by decide +kernel
theorem dX0_nextShown_6 : decode cX0_nextShown 6 = .ok (.getfield 25, 3) := by decide +kernel
theorem dX0_nextShown_9 : decode cX0_nextShown 9 = .ok (.if_icmp .ge 37, 3) := by decide +kernel
theorem dX0_nextShown_12 : decode cX0_nextShown 12 = .ok (.aload_n 0, 1) := by decide +kernel
theorem dX0_nextShown_13 : decode cX0_nextShown 13 = .ok (.iload_n 2, 1) := by decide +kernel
theorem dX0_nextShown_14 : decode cX0_nextShown 14 = .ok (.invokevirtual 66, 3) := by decide +kernel
theorem dX0_nextShown_17 : decode cX0_nextShown 17 = .ok (.istore_n 3, 1) := by decide +kernel
theorem dX0_nextShown_18 : decode cX0_nextShown 18 = .ok (.aload_n 0, 1) := by decide +kernel
theorem dX0_nextShown_19 : decode cX0_nextShown 19 = .ok (.iload_n 3, 1) := by decide +kernel
theorem dX0_nextShown_20 : decode cX0_nextShown 20 = .ok (.invokevirtual 51, 3) := by decide +kernel
theorem dX0_nextShown_23 : decode cX0_nextShown 23 = .ok (.astore 4, 2) := by decide +kernel
theorem dX0_nextShown_25 : decode cX0_nextShown 25 = .ok (.aload 4, 2) := by decide +kernel
theorem dX0_nextShown_27 : decode cX0_nextShown 27 = .ok (.ifnull 13, 3) := by decide +kernel
theorem dX0_nextShown_30 : decode cX0_nextShown 30 = .ok (.aload 4, 2) := by decide +kernel
theorem dX0_nextShown_32 : decode cX0_nextShown 32 = .ok (.getfield 69, 3) := by decide +kernel
theorem dX0_nextShown_35 : decode cX0_nextShown 35 = .ok (.ifCond .ne 5, 3) := by decide +kernel
theorem dX0_nextShown_38 : decode cX0_nextShown 38 = .ok (.iload_n 3, 1) := by decide +kernel
theorem dX0_nextShown_39 : decode cX0_nextShown 39 = .ok (.ireturn, 1) := by decide +kernel
theorem dX0_nextShown_40 : decode cX0_nextShown 40 = .ok (.iinc 2 1, 3) := by decide +kernel
theorem dX0_nextShown_43 : decode cX0_nextShown 43 = .ok (.goto (-39), 3) := by decide +kernel
theorem dX0_nextShown_46 : decode cX0_nextShown 46 = .ok (.iconst (-1), 1) := by decide +kernel
theorem dX0_nextShown_47 : decode cX0_nextShown 47 = .ok (.ireturn, 1) := by decide +kernel
theorem dX0_countHidden_0 : decode cX0_countHidden 0 = .ok (.iconst 0, 1) := by decide +kernel
theorem dX0_countHidden_1 : decode cX0_countHidden 1 = .ok (.istore_n 1, 1) := by decide +kernel
theorem dX0_countHidden_2 : decode cX0_countHidden 2 = .ok (.aload_n 0, 1) := by decide +kernel
theorem dX0_countHidden_3 : decode cX0_countHidden 3 = .ok (.getfield 17, 3) := by decide +kernel
theorem dX0_countHidden_6 : decode cX0_countHidden 6 = .ok (.astore_n 2, 1) := by decide +kernel
theorem dX0_countHidden_7 : decode cX0_countHidden 7 = .ok (.aload_n 2, 1) := by decide +kernel
theorem dX0_countHidden_8 : decode cX0_countHidden 8 = .ok (.arraylength, 1) := by decide +kernel
theorem dX0_countHidden_9 : decode cX0_countHidden 9 = .ok (.istore_n 3, 1) := by decide +kernel
theorem dX0_countHidden_10 : decode cX0_countHidden 10 = .ok (.iconst 0, 1) := by decide +kernel
theorem dX0_countHidden_11 : decode cX0_countHidden 11 = .ok (.istore 4, 2) := by decide +kernel
theorem dX0_countHidden_13 : decode cX0_countHidden 13 = .ok (.iload 4, 2) := by decide +kernel
theorem dX0_countHidden_15 : decode cX0_countHidden 15 = .ok (.iload_n 3, 1) := by decide +kernel
theorem dX0_countHidden_16 : decode cX0_countHidden 16 = .ok (.if_icmp .ge 26, 3) := by decide +kernel
theorem dX0_countHidden_19 : decode cX0_countHidden 19 = .ok (.aload_n 2, 1) := by decide +kernel
theorem dX0_countHidden_20 : decode cX0_countHidden 20 = .ok (.iload 4, 2) := by decide +kernel
theorem dX0_countHidden_22 : decode cX0_countHidden 22 = .ok (.aaload, 1) := by decide +kernel
theorem dX0_countHidden_23 : decode cX0_countHidden 23 = .ok (.astore 5, 2) := by decide +kernel
theorem dX0_countHidden_25 : decode cX0_countHidden 25 = .ok (.aload 5, 2) := by decide +kernel
theorem dX0_countHidden_27 : decode cX0_countHidden 27 = .ok (.getfield 69, 3) := by decide +kernel
theorem dX0_countHidden_30 : decode cX0_countHidden 30 = .ok (.ifCond .eq 6, 3) := by decide +kernel
theorem dX0_countHidden_33 : decode cX0_countHidden 33 = .ok (.iinc 1 1, 3) := by decide +kernel
theorem dX0_countHidden_36 : decode cX0_countHidden 36 = .ok (.iinc 4 1, 3) := by decide +kernel
theorem dX0_countHidden_39 : decode cX0_countHidden 39 = .ok (.goto (-26), 3) := by decide +kernel
theorem dX0_countHidden_42 : decode cX0_countHidden 42 = .ok (.iload_n 1, 1) := by decide +kernel
theorem dX0_countHidden_43 : decode cX0_countHidden 43 = .ok (.ireturn, 1) := by decide +kernel
theorem dX0_sumSteps_0 : decode cX0_sumSteps 0 = .ok (.iconst 0, 1) := by decide +kernel
theorem dX0_sumSteps_1 : decode cX0_sumSteps 1 = .ok (.istore_n 1, 1) := by decide +kernel
theorem dX0_sumSteps_2 : decode cX0_sumSteps 2 = .ok (.aload_n 0, 1) := by decide +kernel
theorem dX0_sumSteps_3 : decode cX0_sumSteps 3 = .ok (.getfield 17, 3) := by decide +kernel
theorem dX0_sumSteps_6 : decode cX0_sumSteps 6 = .ok (.astore_n 2, 1) := by decide +kernel
theorem dX0_sumSteps_7 : decode cX0_sumSteps 7 = .ok (.aload_n 2, 1) := by decide +kernel
theorem dX0_sumSteps_8 : decode cX0_sumSteps 8 = .ok (.arraylength, 1) := by decide +kernel
theorem dX0_sumSteps_9 : decode cX0_sumSteps 9 = .ok (.istore_n 3, 1) := by decide +kernel
theorem dX0_sumSteps_10 : decode cX0_sumSteps 10 = .ok (.iconst 0, 1) := by decide +kernel
theorem dX0_sumSteps_11 : decode cX0_sumSteps 11 = .ok (.istore 4, 2) := by decide +kernel
theorem dX0_sumSteps_13 : decode cX0_sumSteps 13 = .ok (.iload 4, 2) := by decide +kernel
theorem dX0_sumSteps_15 : decode cX0_sumSteps 15 = .ok (.iload_n 3, 1) := by decide +kernel
theorem dX0_sumSteps_16 : decode cX0_sumSteps 16 = .ok (.if_icmp .ge 33, 3) := by decide +kernel
theorem dX0_sumSteps_19 : decode cX0_sumSteps 19 = .ok (.aload_n 2, 1) := by decide +kernel
theorem dX0_sumSteps_20 : decode cX0_sumSteps 20 = .ok (.iload 4, 2) := by decide +kernel
theorem dX0_sumSteps_22 : decode cX0_sumSteps 22 = .ok (.aaload, 1) := by decide +kernel
theorem dX0_sumSteps_23 : decode cX0_sumSteps 23 = .ok (.astore 5, 2) := by decide +kernel
theorem dX0_sumSteps_25 : decode cX0_sumSteps 25 = .ok (.aload 5, 2) := by decide +kernel
theorem dX0_sumSteps_27 : decode cX0_sumSteps 27 = .ok (.getfield 39, 3) := by decide +kernel
theorem dX0_sumSteps_30 : decode cX0_sumSteps 30 = .ok (.ifCond .eq 13, 3) := by decide +kernel
theorem dX0_sumSteps_33 : decode cX0_sumSteps 33 = .ok (.iload_n 1, 1) := by decide +kernel
theorem dX0_sumSteps_34 : decode cX0_sumSteps 34 = .ok (.aload 5, 2) := by decide +kernel
theorem dX0_sumSteps_36 : decode cX0_sumSteps 36 = .ok (.invokevirtual 72, 3) := by decide +kernel
theorem dX0_sumSteps_39 : decode cX0_sumSteps 39 = .ok (.iconst 1, 1) := by decide +kernel
theorem dX0_sumSteps_40 : decode cX0_sumSteps 40 = .ok (.iadd, 1) := by decide +kernel
theorem dX0_sumSteps_41 : decode cX0_sumSteps 41 = .ok (.iadd, 1) := by decide +kernel
theorem dX0_sumSteps_42 : decode cX0_sumSteps 42 = .ok (.istore_n 1, 1) := by decide +kernel
theorem dX0_sumSteps_43 : decode cX0_sumSteps 43 = .ok (.iinc 4 1, 3) := by decide +kernel
theorem dX0_sumSteps_46 : decode cX0_sumSteps 46 = .ok (.goto (-33), 3) := by decide +kernel
theorem dX0_sumSteps_49 : decode cX0_sumSteps 49 = .ok (.iload_n 1, 1) := by decide +kernel
theorem dX0_sumSteps_50 : decode cX0_sumSteps 50 = .ok (.ireturn, 1) := by decide +kernel
theorem dX1_init_0 : decode cX1_init 0 = .ok (.aload_n 0, 1) := by decide +kernel
theorem dX1_init_1 : decode cX1_init 1 = .ok (.invokespecial 3, 3) := by decide +kernel
theorem dX1_init_4 : decode cX1_init 4 = .ok (.aload_n 0, 1) := by decide +kernel
theorem dX1_init_5 : decode cX1_init 5 = .ok (.bipush 10, 2) := by decide +kernel
theorem dX1_init_7 : decode cX1_init 7 = .ok (.newarray .int, 2) := by decide +kernel
theorem dX1_init_9 : decode cX1_init 9 = .ok (.putfield 9, 3) := by decide +kernel
theorem dX1_init_12 : decode cX1_init 12 = .ok (.return_, 1) := by decide +kernel
theorem dX1_countMoves_0 : decode cX1_countMoves 0 = .ok (.aload_n 1, 1) := by decide +kernel
theorem dX1_countMoves_1 : decode cX1_countMoves 1 = .ok (.invokevirtual 15, 3) := by decide +kernel
theorem dX1_countMoves_4 : decode cX1_countMoves 4 = .ok (.ifnonnull 6, 3) := by decide +kernel
theorem dX1_countMoves_7 : decode cX1_countMoves 7 = .ok (.bipush (-6), 2) := by decide +kernel
theorem dX1_countMoves_9 : decode cX1_countMoves 9 = .ok (.ireturn, 1) := by decide +kernel
theorem dX1_countMoves_10 : decode cX1_countMoves 10 = .ok (.iconst 0, 1) := by decide +kernel
theorem dX1_countMoves_11 : decode cX1_countMoves 11 = .ok (.istore_n 2, 1) := by decide +kernel
theorem dX1_countMoves_12 : decode cX1_countMoves 12 = .ok (.aload_n 1, 1) := by decide +kernel
theorem dX1_countMoves_13 : decode cX1_countMoves 13 = .ok (.getfield 21, 3) := by decide +kernel
theorem dX1_countMoves_16 : decode cX1_countMoves 16 = .ok (.aload_n 1, 1) := by decide +kernel
theorem dX1_countMoves_17 : decode cX1_countMoves 17 = .ok (.getfield 25, 3) := by decide +kernel
theorem dX1_countMoves_20 : decode cX1_countMoves 20 = .ok (.getfield 29, 3) := by decide +kernel
theorem dX1_countMoves_23 : decode cX1_countMoves 23 = .ok (.invokevirtual 35, 3) := by decide +kernel
theorem dX1_countMoves_26 : decode cX1_countMoves 26 = .ok (.istore_n 3, 1) := by decide +kernel
theorem dX1_countMoves_27 : decode cX1_countMoves 27 = .ok (.iload_n 3, 1) := by decide +kernel
theorem dX1_countMoves_28 : decode cX1_countMoves 28 = .ok (.aload_n 1, 1) := by decide +kernel
theorem dX1_countMoves_29 : decode cX1_countMoves 29 = .ok (.getfield 21, 3) := by decide +kernel
theorem dX1_countMoves_32 : decode cX1_countMoves 32 = .ok (.getfield 41, 3) := by decide +kernel
theorem dX1_countMoves_35 : decode cX1_countMoves 35 = .ok (.if_icmp .ge 17, 3) := by decide +kernel
theorem dX1_countMoves_38 : decode cX1_countMoves 38 = .ok (.iload_n 2, 1) := by decide +kernel
theorem dX1_countMoves_39 : decode cX1_countMoves 39 = .ok (.aload_n 1, 1) := by decide +kernel
theorem dX1_countMoves_40 : decode cX1_countMoves 40 = .ok (.iload_n 3, 1) := by decide +kernel
theorem dX1_countMoves_41 : decode cX1_countMoves 41 = .ok (.invokestatic 44, 3) := by decide +kernel
theorem dX1_countMoves_44 : decode cX1_countMoves 44 = .ok (.iadd, 1) := by decide +kernel
theorem dX1_countMoves_45 : decode cX1_countMoves 45 = .ok (.istore_n 2, 1) := by decide +kernel
theorem dX1_countMoves_46 : decode cX1_countMoves 46 = .ok (.iinc 3 1, 3) := by decide +kernel
theorem dX1_countMoves_49 : decode cX1_countMoves 49 = .ok (.goto (-22), 3) := by decide +kernel
theorem dX1_countMoves_52 : decode cX1_countMoves 52 = .ok (.iload_n 2, 1) := by decide +kernel
theorem dX1_countMoves_53 : decode cX1_countMoves 53 = .ok (.ireturn, 1) := by decide +kernel
theorem dX1_countSeconds_0 : decode cX1_countSeconds 0 = .ok (.aload_n 1, 1) := by decide +kernel
theorem dX1_countSeconds_1 : decode cX1_countSeconds 1 = .ok (.invokevirtual 15, 3) := by decide +kernel
theorem dX1_countSeconds_4 : decode cX1_countSeconds 4 = .ok (.ifnonnull 6, 3) := by decide +kernel
theorem dX1_countSeconds_7 : decode cX1_countSeconds 7 = .ok (.bipush (-6), 2) := by decide +kernel
theorem dX1_countSeconds_9 : decode cX1_countSeconds 9 = .ok (.ireturn, 1) := by decide +kernel
theorem dX1_countSeconds_10 : decode cX1_countSeconds 10 = .ok (.aload_n 1, 1) := by decide +kernel
theorem dX1_countSeconds_11 : decode cX1_countSeconds 11 = .ok (.getfield 21, 3) := by decide +kernel
theorem dX1_countSeconds_14 : decode cX1_countSeconds 14 = .ok (.aload_n 1, 1) := by decide +kernel
theorem dX1_countSeconds_15 : decode cX1_countSeconds 15 = .ok (.getfield 25, 3) := by decide +kernel
theorem dX1_countSeconds_18 : decode cX1_countSeconds 18 = .ok (.getfield 29, 3) := by decide +kernel
theorem dX1_countSeconds_21 : decode cX1_countSeconds 21 = .ok (.invokevirtual 35, 3) := by decide +kernel
theorem dX1_countSeconds_24 : decode cX1_countSeconds 24 = .ok (.istore_n 2, 1) := by decide +kernel
theorem dX1_countSeconds_25 : decode cX1_countSeconds 25 = .ok (.iconst 0, 1) := by decide +kernel
theorem dX1_countSeconds_26 : decode cX1_countSeconds 26 = .ok (.istore_n 3, 1) := by decide +kernel
theorem dX1_countSeconds_27 : decode cX1_countSeconds 27 = .ok (.iload_n 2, 1) := by decide +kernel
theorem dX1_countSeconds_28 : decode cX1_countSeconds 28 = .ok (.istore 4, 2) := by decide +kernel
theorem dX1_countSeconds_30 : decode cX1_countSeconds 30 = .ok (.iload 4, 2) := by decide +kernel
theorem dX1_countSeconds_32 : decode cX1_countSeconds 32 = .ok (.aload_n 1, 1) := by decide +kernel
theorem dX1_countSeconds_33 : decode cX1_countSeconds 33 = .ok (.getfield 21, 3) := by decide +kernel
theorem dX1_countSeconds_36 : decode cX1_countSeconds 36 = .ok (.getfield 41, 3) := by decide +kernel
theorem dX1_countSeconds_39 : decode cX1_countSeconds 39 = .ok (.if_icmp .ge 102, 3) := by decide +kernel
theorem dX1_countSeconds_42 : decode cX1_countSeconds 42 = .ok (.aload_n 1, 1) := by decide +kernel
theorem dX1_countSeconds_43 : decode cX1_countSeconds 43 = .ok (.getfield 21, 3) := by decide +kernel
theorem dX1_countSeconds_46 : decode cX1_countSeconds 46 = .ok (.aload_n 1, 1) := by decide +kernel
theorem dX1_countSeconds_47 : decode cX1_countSeconds 47 = .ok (.getfield 21, 3) := by decide +kernel
theorem dX1_countSeconds_50 : decode cX1_countSeconds 50 = .ok (.iload 4, 2) := by decide +kernel
theorem dX1_countSeconds_52 : decode cX1_countSeconds 52 = .ok (.invokevirtual 48, 3) := by decide +kernel
theorem dX1_countSeconds_55 : decode cX1_countSeconds 55 = .ok (.invokevirtual 51, 3) := by decide +kernel
theorem dX1_countSeconds_58 : decode cX1_countSeconds 58 = .ok (.astore 5, 2) := by decide +kernel
theorem dX1_countSeconds_60 : decode cX1_countSeconds 60 = .ok (.aload_n 1, 1) := by decide +kernel
theorem dX1_countSeconds_61 : decode cX1_countSeconds 61 = .ok (.iload 4, 2) := by decide +kernel
theorem dX1_countSeconds_63 : decode cX1_countSeconds 63 = .ok (.invokestatic 44, 3) := by decide +kernel
theorem dX1_countSeconds_66 : decode cX1_countSeconds 66 = .ok (.istore 6, 2) := by decide +kernel
theorem dX1_countSeconds_68 : decode cX1_countSeconds 68 = .ok (.aload 5, 2) := by decide +kernel
theorem dX1_countSeconds_70 : decode cX1_countSeconds 70 = .ok (.ifnull 65, 3) := by decide +kernel
theorem dX1_countSeconds_73 : decode cX1_countSeconds 73 = .ok (.iload 6, 2) := by decide +kernel
theorem dX1_countSeconds_75 : decode cX1_countSeconds 75 = .ok (.ifCond .ne 6, 3) := by decide +kernel
theorem dX1_countSeconds_78 : decode cX1_countSeconds 78 = .ok (.goto 57, 3) := by decide +kernel
theorem dX1_countSeconds_81 : decode cX1_countSeconds 81 = .ok (.aload 5, 2) := by decide +kernel
theorem dX1_countSeconds_83 : decode cX1_countSeconds 83 = .ok (.getfield 55, 3) := by decide +kernel
theorem dX1_countSeconds_86 : decode cX1_countSeconds 86 = .ok (.ifCond .ne 6, 3) := by decide +kernel
theorem dX1_countSeconds_89 : decode cX1_countSeconds 89 = .ok (.bipush (-6), 2) := by decide +kernel
theorem dX1_countSeconds_91 : decode cX1_countSeconds 91 = .ok (.ireturn, 1) := by decide +kernel
theorem dX1_countSeconds_92 : decode cX1_countSeconds 92 = .ok (.iload_n 3, 1) := by decide +kernel
theorem dX1_countSeconds_93 : decode cX1_countSeconds 93 = .ok (.iload 6, 2) := by decide +kernel
theorem dX1_countSeconds_95 : decode cX1_countSeconds 95 = .ok (.aload 5, 2) := by decide +kernel
theorem dX1_countSeconds_97 : decode cX1_countSeconds 97 = .ok (.getfield 55, 3) := by decide +kernel
theorem dX1_countSeconds_100 : decode cX1_countSeconds 100 = .ok (.imul, 1) := by decide +kernel
theorem dX1_countSeconds_101 : decode cX1_countSeconds 101 = .ok (.iadd, 1) := by decide +kernel
theorem dX1_countSeconds_102 : decode cX1_countSeconds 102 = .ok (.istore_n 3, 1) := by decide +kernel
theorem dX1_countSeconds_103 : decode cX1_countSeconds 103 = .ok (.iload 4, 2) := by decide +kernel
theorem dX1_countSeconds_105 : decode cX1_countSeconds 105 = .ok (.iload_n 2, 1) := by decide +kernel
theorem dX1_countSeconds_106 : decode cX1_countSeconds 106 = .ok (.if_icmp .ne 29, 3) := by decide +kernel
theorem dX1_countSeconds_109 : decode cX1_countSeconds 109 = .ok (.iload_n 3, 1) := by decide +kernel
theorem dX1_countSeconds_110 : decode cX1_countSeconds 110 = .ok (.iconst 1, 1) := by decide +kernel
theorem dX1_countSeconds_111 : decode cX1_countSeconds 111 = .ok (.aload 5, 2) := by decide +kernel
theorem dX1_countSeconds_113 : decode cX1_countSeconds 113 = .ok (.getfield 55, 3) := by decide +kernel
theorem dX1_countSeconds_116 : decode cX1_countSeconds 116 = .ok (.aload_n 1, 1) := by decide +kernel
theorem dX1_countSeconds_117 : decode cX1_countSeconds 117 = .ok (.getfield 25, 3) := by decide +kernel
theorem dX1_countSeconds_120 : decode cX1_countSeconds 120 = .ok (.getfield 60, 3) := by decide +kernel
theorem dX1_countSeconds_123 : decode cX1_countSeconds 123 = .ok (.isub, 1) := by decide +kernel
theorem dX1_countSeconds_124 : decode cX1_countSeconds 124 = .ok (.invokestatic 63, 3) := by decide +kernel
theorem dX1_countSeconds_127 : decode cX1_countSeconds 127 = .ok (.aload 5, 2) := by decide +kernel
theorem dX1_countSeconds_129 : decode cX1_countSeconds 129 = .ok (.getfield 55, 3) := by decide +kernel
theorem dX1_countSeconds_132 : decode cX1_countSeconds 132 = .ok (.isub, 1) := by decide +kernel
theorem dX1_countSeconds_133 : decode cX1_countSeconds 133 = .ok (.iadd, 1) := by decide +kernel
theorem dX1_countSeconds_134 : decode cX1_countSeconds 134 = .ok (.istore_n 3, 1) := by decide +kernel
theorem dX1_countSeconds_135 : decode cX1_countSeconds 135 = .ok (.iinc 4 1, 3) := by decide +kernel
theorem dX1_countSeconds_138 : decode cX1_countSeconds 138 = .ok (.goto (-108), 3) := by decide +kernel
theorem dX1_countSeconds_141 : decode cX1_countSeconds 141 = .ok (.iload_n 3, 1) := by decide +kernel
theorem dX1_countSeconds_142 : decode cX1_countSeconds 142 = .ok (.ireturn, 1) := by decide +kernel
theorem dX1_movesOn_0 : decode cX1_movesOn 0 = .ok (.aload_n 0, 1) := by decide +kernel
theorem dX1_movesOn_1 : decode cX1_movesOn 1 = .ok (.getfield 21, 3) := by decide +kernel
theorem dX1_movesOn_4 : decode cX1_movesOn 4 = .ok (.iload_n 1, 1) := by decide +kernel
theorem dX1_movesOn_5 : decode cX1_movesOn 5 = .ok (.invokevirtual 48, 3) := by decide +kernel
theorem dX1_movesOn_8 : decode cX1_movesOn 8 = .ok (.istore_n 2, 1) := by decide +kernel
theorem dX1_movesOn_9 : decode cX1_movesOn 9 = .ok (.aload_n 0, 1) := by decide +kernel
theorem dX1_movesOn_10 : decode cX1_movesOn 10 = .ok (.getfield 21, 3) := by decide +kernel
theorem dX1_movesOn_13 : decode cX1_movesOn 13 = .ok (.iload_n 2, 1) := by decide +kernel
theorem dX1_movesOn_14 : decode cX1_movesOn 14 = .ok (.invokevirtual 51, 3) := by decide +kernel
theorem dX1_movesOn_17 : decode cX1_movesOn 17 = .ok (.astore_n 3, 1) := by decide +kernel
theorem dX1_movesOn_18 : decode cX1_movesOn 18 = .ok (.iload_n 2, 1) := by decide +kernel
theorem dX1_movesOn_19 : decode cX1_movesOn 19 = .ok (.aload_n 0, 1) := by decide +kernel
theorem dX1_movesOn_20 : decode cX1_movesOn 20 = .ok (.getfield 25, 3) := by decide +kernel
theorem dX1_movesOn_23 : decode cX1_movesOn 23 = .ok (.getfield 29, 3) := by decide +kernel
theorem dX1_movesOn_26 : decode cX1_movesOn 26 = .ok (.if_icmp .ne 7, 3) := by decide +kernel
theorem dX1_movesOn_29 : decode cX1_movesOn 29 = .ok (.iconst 1, 1) := by decide +kernel
theorem dX1_movesOn_30 : decode cX1_movesOn 30 = .ok (.goto 4, 3) := by decide +kernel
theorem dX1_movesOn_33 : decode cX1_movesOn 33 = .ok (.iconst 0, 1) := by decide +kernel
theorem dX1_movesOn_34 : decode cX1_movesOn 34 = .ok (.istore 4, 2) := by decide +kernel
theorem dX1_movesOn_36 : decode cX1_movesOn 36 = .ok (.aload_n 3, 1) := by decide +kernel
theorem dX1_movesOn_37 : decode cX1_movesOn 37 = .ok (.ifnull 15, 3) := by decide +kernel
theorem dX1_movesOn_40 : decode cX1_movesOn 40 = .ok (.aload_n 3, 1) := by decide +kernel
theorem dX1_movesOn_41 : decode cX1_movesOn 41 = .ok (.getfield 69, 3) := by decide +kernel
theorem dX1_movesOn_44 : decode cX1_movesOn 44 = .ok (.ifCond .eq 10, 3) := by decide +kernel
theorem dX1_movesOn_47 : decode cX1_movesOn 47 = .ok (.iload 4, 2) := by decide +kernel
theorem dX1_movesOn_49 : decode cX1_movesOn 49 = .ok (.ifCond .ne 5, 3) := by decide +kernel
theorem dX1_movesOn_52 : decode cX1_movesOn 52 = .ok (.iconst 0, 1) := by decide +kernel
theorem dX1_movesOn_53 : decode cX1_movesOn 53 = .ok (.ireturn, 1) := by decide +kernel
theorem dX1_movesOn_54 : decode cX1_movesOn 54 = .ok (.aload_n 3, 1) := by decide +kernel
theorem dX1_movesOn_55 : decode cX1_movesOn 55 = .ok (.invokevirtual 73, 3) := by decide +kernel
theorem dX1_movesOn_58 : decode cX1_movesOn 58 = .ok (.iload 4, 2) := by decide +kernel
theorem dX1_movesOn_60 : decode cX1_movesOn 60 = .ok (.ifCond .eq 13, 3) := by decide +kernel
theorem dX1_movesOn_63 : decode cX1_movesOn 63 = .ok (.aload_n 0, 1) := by decide +kernel
theorem dX1_movesOn_64 : decode cX1_movesOn 64 = .ok (.getfield 25, 3) := by decide +kernel
theorem dX1_movesOn_67 : decode cX1_movesOn 67 = .ok (.getfield 77, 3) := by decide +kernel
theorem dX1_movesOn_70 : decode cX1_movesOn 70 = .ok (.goto 4, 3) := by decide +kernel
theorem dX1_movesOn_73 : decode cX1_movesOn 73 = .ok (.iconst 0, 1) := by decide +kernel
theorem dX1_movesOn_74 : decode cX1_movesOn 74 = .ok (.isub, 1) := by decide +kernel
theorem dX1_movesOn_75 : decode cX1_movesOn 75 = .ok (.istore 5, 2) := by decide +kernel
theorem dX1_movesOn_77 : decode cX1_movesOn 77 = .ok (.aload_n 0, 1) := by decide +kernel
theorem dX1_movesOn_78 : decode cX1_movesOn 78 = .ok (.getfield 21, 3) := by decide +kernel
theorem dX1_movesOn_81 : decode cX1_movesOn 81 = .ok (.iload_n 1, 1) := by decide +kernel
theorem dX1_movesOn_82 : decode cX1_movesOn 82 = .ok (.invokevirtual 80, 3) := by decide +kernel
theorem dX1_movesOn_85 : decode cX1_movesOn 85 = .ok (.iconst (-1), 1) := by decide +kernel
theorem dX1_movesOn_86 : decode cX1_movesOn 86 = .ok (.if_icmp .ne 8, 3) := by decide +kernel
theorem dX1_movesOn_89 : decode cX1_movesOn 89 = .ok (.iload 5, 2) := by decide +kernel
theorem dX1_movesOn_91 : decode cX1_movesOn 91 = .ok (.goto 7, 3) := by decide +kernel
theorem dX1_movesOn_94 : decode cX1_movesOn 94 = .ok (.iload 5, 2) := by decide +kernel
theorem dX1_movesOn_96 : decode cX1_movesOn 96 = .ok (.iconst 1, 1) := by decide +kernel
theorem dX1_movesOn_97 : decode cX1_movesOn 97 = .ok (.iadd, 1) := by decide +kernel
theorem dX1_movesOn_98 : decode cX1_movesOn 98 = .ok (.ireturn, 1) := by decide +kernel
theorem dX1_leastMoves_0 : decode cX1_leastMoves 0 = .ok (.aload_n 1, 1) := by decide +kernel
theorem dX1_leastMoves_1 : decode cX1_leastMoves 1 = .ok (.invokevirtual 15, 3) := by decide +kernel
theorem dX1_leastMoves_4 : decode cX1_leastMoves 4 = .ok (.ifnull 13, 3) := by decide +kernel
theorem dX1_leastMoves_7 : decode cX1_leastMoves 7 = .ok (.iload_n 2, 1) := by decide +kernel
theorem dX1_leastMoves_8 : decode cX1_leastMoves 8 = .ok (.iconst 0, 1) := by decide +kernel
theorem dX1_leastMoves_9 : decode cX1_leastMoves 9 = .ok (.bipush 9, 2) := by decide +kernel
theorem dX1_leastMoves_11 : decode cX1_leastMoves 11 = .ok (.invokestatic 83, 3) := by decide +kernel
theorem dX1_leastMoves_14 : decode cX1_leastMoves 14 = .ok (.ifCond .ne 6, 3) := by decide +kernel
theorem dX1_leastMoves_17 : decode cX1_leastMoves 17 = .ok (.bipush (-6), 2) := by decide +kernel
theorem dX1_leastMoves_19 : decode cX1_leastMoves 19 = .ok (.ireturn, 1) := by decide +kernel
theorem dX1_leastMoves_20 : decode cX1_leastMoves 20 = .ok (.iconst 0, 1) := by decide +kernel
theorem dX1_leastMoves_21 : decode cX1_leastMoves 21 = .ok (.istore_n 3, 1) := by decide +kernel
theorem dX1_leastMoves_22 : decode cX1_leastMoves 22 = .ok (.iload_n 3, 1) := by decide +kernel
theorem dX1_leastMoves_23 : decode cX1_leastMoves 23 = .ok (.aload_n 0, 1) := by decide +kernel
theorem dX1_leastMoves_24 : decode cX1_leastMoves 24 = .ok (.getfield 9, 3) := by decide +kernel
theorem dX1_leastMoves_27 : decode cX1_leastMoves 27 = .ok (.arraylength, 1) := by decide +kernel
theorem dX1_leastMoves_28 : decode cX1_leastMoves 28 = .ok (.if_icmp .ge 17, 3) := by decide +kernel
theorem dX1_leastMoves_31 : decode cX1_leastMoves 31 = .ok (.aload_n 0, 1) := by decide +kernel
theorem dX1_leastMoves_32 : decode cX1_leastMoves 32 = .ok (.getfield 9, 3) := by decide +kernel
theorem dX1_leastMoves_35 : decode cX1_leastMoves 35 = .ok (.iload_n 3, 1) := by decide +kernel
theorem dX1_leastMoves_36 : decode cX1_leastMoves 36 = .ok (.ldc 87, 2) := by decide +kernel
theorem dX1_leastMoves_38 : decode cX1_leastMoves 38 = .ok (.iastore, 1) := by decide +kernel
theorem dX1_leastMoves_39 : decode cX1_leastMoves 39 = .ok (.iinc 3 1, 3) := by decide +kernel
theorem dX1_leastMoves_42 : decode cX1_leastMoves 42 = .ok (.goto (-20), 3) := by decide +kernel
theorem dX1_leastMoves_45 : decode cX1_leastMoves 45 = .ok (.aload_n 0, 1) := by decide +kernel
theorem dX1_leastMoves_46 : decode cX1_leastMoves 46 = .ok (.aload_n 1, 1) := by decide +kernel
theorem dX1_leastMoves_47 : decode cX1_leastMoves 47 = .ok (.getfield 25, 3) := by decide +kernel
theorem dX1_leastMoves_50 : decode cX1_leastMoves 50 = .ok (.getfield 29, 3) := by decide +kernel
theorem dX1_leastMoves_53 : decode cX1_leastMoves 53 = .ok (.iconst 0, 1) := by decide +kernel
theorem dX1_leastMoves_54 : decode cX1_leastMoves 54 = .ok (.invokevirtual 88, 3) := by decide +kernel
theorem dX1_leastMoves_57 : decode cX1_leastMoves 57 = .ok (.iconst 0, 1) := by decide +kernel
theorem dX1_leastMoves_58 : decode cX1_leastMoves 58 = .ok (.istore_n 3, 1) := by decide +kernel
theorem dX1_leastMoves_59 : decode cX1_leastMoves 59 = .ok (.iload_n 3, 1) := by decide +kernel
theorem dX1_leastMoves_60 : decode cX1_leastMoves 60 = .ok (.bipush 10, 2) := by decide +kernel
theorem dX1_leastMoves_62 : decode cX1_leastMoves 62 = .ok (.if_icmp .ge 37, 3) := by decide +kernel
theorem dX1_leastMoves_65 : decode cX1_leastMoves 65 = .ok (.iconst 0, 1) := by decide +kernel
theorem dX1_leastMoves_66 : decode cX1_leastMoves 66 = .ok (.istore 4, 2) := by decide +kernel
theorem dX1_leastMoves_68 : decode cX1_leastMoves 68 = .ok (.iload 4, 2) := by decide +kernel
theorem dX1_leastMoves_70 : decode cX1_leastMoves 70 = .ok (.aload_n 1, 1) := by decide +kernel
theorem dX1_leastMoves_71 : decode cX1_leastMoves 71 = .ok (.getfield 21, 3) := by decide +kernel
theorem dX1_leastMoves_74 : decode cX1_leastMoves 74 = .ok (.getfield 41, 3) := by decide +kernel
theorem dX1_leastMoves_77 : decode cX1_leastMoves 77 = .ok (.if_icmp .ge 16, 3) := by decide +kernel
theorem dX1_leastMoves_80 : decode cX1_leastMoves 80 = .ok (.aload_n 0, 1) := by decide +kernel
theorem dX1_leastMoves_81 : decode cX1_leastMoves 81 = .ok (.aload_n 1, 1) := by decide +kernel
theorem dX1_leastMoves_82 : decode cX1_leastMoves 82 = .ok (.iload 4, 2) := by decide +kernel
theorem dX1_leastMoves_84 : decode cX1_leastMoves 84 = .ok (.invokevirtual 92, 3) := by decide +kernel
theorem dX1_leastMoves_87 : decode cX1_leastMoves 87 = .ok (.iinc 4 1, 3) := by decide +kernel
theorem dX1_leastMoves_90 : decode cX1_leastMoves 90 = .ok (.goto (-22), 3) := by decide +kernel
theorem dX1_leastMoves_93 : decode cX1_leastMoves 93 = .ok (.iinc 3 1, 3) := by decide +kernel
theorem dX1_leastMoves_96 : decode cX1_leastMoves 96 = .ok (.goto (-37), 3) := by decide +kernel
theorem dX1_leastMoves_99 : decode cX1_leastMoves 99 = .ok (.aload_n 0, 1) := by decide +kernel
theorem dX1_leastMoves_100 : decode cX1_leastMoves 100 = .ok (.getfield 9, 3) := by decide +kernel
theorem dX1_leastMoves_103 : decode cX1_leastMoves 103 = .ok (.iload_n 2, 1) := by decide +kernel
theorem dX1_leastMoves_104 : decode cX1_leastMoves 104 = .ok (.iaload, 1) := by decide +kernel
theorem dX1_leastMoves_105 : decode cX1_leastMoves 105 = .ok (.ldc 87, 2) := by decide +kernel
theorem dX1_leastMoves_107 : decode cX1_leastMoves 107 = .ok (.if_icmp .ge 12, 3) := by decide +kernel
theorem dX1_leastMoves_110 : decode cX1_leastMoves 110 = .ok (.aload_n 0, 1) := by decide +kernel
theorem dX1_leastMoves_111 : decode cX1_leastMoves 111 = .ok (.getfield 9, 3) := by decide +kernel
theorem dX1_leastMoves_114 : decode cX1_leastMoves 114 = .ok (.iload_n 2, 1) := by decide +kernel
theorem dX1_leastMoves_115 : decode cX1_leastMoves 115 = .ok (.iaload, 1) := by decide +kernel
theorem dX1_leastMoves_116 : decode cX1_leastMoves 116 = .ok (.goto 5, 3) := by decide +kernel
theorem dX1_leastMoves_119 : decode cX1_leastMoves 119 = .ok (.bipush (-6), 2) := by decide +kernel
theorem dX1_leastMoves_121 : decode cX1_leastMoves 121 = .ok (.ireturn, 1) := by decide +kernel
theorem dX1_spreadFrom_0 : decode cX1_spreadFrom 0 = .ok (.aload_n 1, 1) := by decide +kernel
theorem dX1_spreadFrom_1 : decode cX1_spreadFrom 1 = .ok (.getfield 21, 3) := by decide +kernel
theorem dX1_spreadFrom_4 : decode cX1_spreadFrom 4 = .ok (.iload_n 2, 1) := by decide +kernel
theorem dX1_spreadFrom_5 : decode cX1_spreadFrom 5 = .ok (.invokevirtual 48, 3) := by decide +kernel
theorem dX1_spreadFrom_8 : decode cX1_spreadFrom 8 = .ok (.istore_n 3, 1) := by decide +kernel
theorem dX1_spreadFrom_9 : decode cX1_spreadFrom 9 = .ok (.aload_n 1, 1) := by decide +kernel
theorem dX1_spreadFrom_10 : decode cX1_spreadFrom 10 = .ok (.getfield 21, 3) := by decide +kernel
theorem dX1_spreadFrom_13 : decode cX1_spreadFrom 13 = .ok (.iload_n 3, 1) := by decide +kernel
theorem dX1_spreadFrom_14 : decode cX1_spreadFrom 14 = .ok (.invokevirtual 51, 3) := by decide +kernel
theorem dX1_spreadFrom_17 : decode cX1_spreadFrom 17 = .ok (.astore 4, 2) := by decide +kernel
theorem dX1_spreadFrom_19 : decode cX1_spreadFrom 19 = .ok (.aload 4, 2) := by decide +kernel
theorem dX1_spreadFrom_21 : decode cX1_spreadFrom 21 = .ok (.ifnull 14, 3) := by decide +kernel
theorem dX1_spreadFrom_24 : decode cX1_spreadFrom 24 = .ok (.aload_n 0, 1) := by decide +kernel
theorem dX1_spreadFrom_25 : decode cX1_spreadFrom 25 = .ok (.getfield 9, 3) := by decide +kernel
theorem dX1_spreadFrom_28 : decode cX1_spreadFrom 28 = .ok (.iload_n 3, 1) := by decide +kernel
theorem dX1_spreadFrom_29 : decode cX1_spreadFrom 29 = .ok (.iaload, 1) := by decide +kernel
theorem dX1_spreadFrom_30 : decode cX1_spreadFrom 30 = .ok (.ldc 87, 2) := by decide +kernel
theorem dX1_spreadFrom_32 : decode cX1_spreadFrom 32 = .ok (.if_icmp .lt 4, 3) := by decide +kernel
theorem dX1_spreadFrom_35 : decode cX1_spreadFrom 35 = .ok (.return_, 1) := by decide +kernel
theorem dX1_spreadFrom_36 : decode cX1_spreadFrom 36 = .ok (.aload 4, 2) := by decide +kernel
theorem dX1_spreadFrom_38 : decode cX1_spreadFrom 38 = .ok (.getfield 96, 3) := by decide +kernel
theorem dX1_spreadFrom_41 : decode cX1_spreadFrom 41 = .ok (.astore 5, 2) := by decide +kernel
theorem dX1_spreadFrom_43 : decode cX1_spreadFrom 43 = .ok (.aload 5, 2) := by decide +kernel
theorem dX1_spreadFrom_45 : decode cX1_spreadFrom 45 = .ok (.arraylength, 1) := by decide +kernel
theorem dX1_spreadFrom_46 : decode cX1_spreadFrom 46 = .ok (.istore 6, 2) := by decide +kernel
theorem dX1_spreadFrom_48 : decode cX1_spreadFrom 48 = .ok (.iconst 0, 1) := by decide +kernel
theorem dX1_spreadFrom_49 : decode cX1_spreadFrom 49 = .ok (.istore 7, 2) := by decide +kernel
theorem dX1_spreadFrom_51 : decode cX1_spreadFrom 51 = .ok (.iload 7, 2) := by decide +kernel
theorem dX1_spreadFrom_53 : decode cX1_spreadFrom 53 = .ok (.iload 6, 2) := by decide +kernel
theorem dX1_spreadFrom_55 : decode cX1_spreadFrom 55 = .ok (.if_icmp .ge 30, 3) := by decide +kernel
theorem dX1_spreadFrom_58 : decode cX1_spreadFrom 58 = .ok (.aload 5, 2) := by decide +kernel
theorem dX1_spreadFrom_60 : decode cX1_spreadFrom 60 = .ok (.iload 7, 2) := by decide +kernel
theorem dX1_spreadFrom_62 : decode cX1_spreadFrom 62 = .ok (.iaload, 1) := by decide +kernel
theorem dX1_spreadFrom_63 : decode cX1_spreadFrom 63 = .ok (.istore 8, 2) := by decide +kernel
theorem dX1_spreadFrom_65 : decode cX1_spreadFrom 65 = .ok (.aload_n 0, 1) := by decide +kernel
theorem dX1_spreadFrom_66 : decode cX1_spreadFrom 66 = .ok (.iload 8, 2) := by decide +kernel
theorem dX1_spreadFrom_68 : decode cX1_spreadFrom 68 = .ok (.aload_n 0, 1) := by decide +kernel
theorem dX1_spreadFrom_69 : decode cX1_spreadFrom 69 = .ok (.getfield 9, 3) := by decide +kernel
theorem dX1_spreadFrom_72 : decode cX1_spreadFrom 72 = .ok (.iload_n 3, 1) := by decide +kernel
theorem dX1_spreadFrom_73 : decode cX1_spreadFrom 73 = .ok (.iaload, 1) := by decide +kernel
theorem dX1_spreadFrom_74 : decode cX1_spreadFrom 74 = .ok (.iconst 1, 1) := by decide +kernel
theorem dX1_spreadFrom_75 : decode cX1_spreadFrom 75 = .ok (.iadd, 1) := by decide +kernel
theorem dX1_spreadFrom_76 : decode cX1_spreadFrom 76 = .ok (.invokevirtual 88, 3) := by decide +kernel
theorem dX1_spreadFrom_79 : decode cX1_spreadFrom 79 = .ok (.iinc 7 1, 3) := by decide +kernel
theorem dX1_spreadFrom_82 : decode cX1_spreadFrom 82 = .ok (.goto (-31), 3) := by decide +kernel
theorem dX1_spreadFrom_85 : decode cX1_spreadFrom 85 = .ok (.iload_n 3, 1) := by decide +kernel
theorem dX1_spreadFrom_86 : decode cX1_spreadFrom 86 = .ok (.aload_n 1, 1) := by decide +kernel
theorem dX1_spreadFrom_87 : decode cX1_spreadFrom 87 = .ok (.getfield 25, 3) := by decide +kernel
theorem dX1_spreadFrom_90 : decode cX1_spreadFrom 90 = .ok (.getfield 29, 3) := by decide +kernel
theorem dX1_spreadFrom_93 : decode cX1_spreadFrom 93 = .ok (.if_icmp .ne 13, 3) := by decide +kernel
theorem dX1_spreadFrom_96 : decode cX1_spreadFrom 96 = .ok (.aload_n 1, 1) := by decide +kernel
theorem dX1_spreadFrom_97 : decode cX1_spreadFrom 97 = .ok (.getfield 25, 3) := by decide +kernel
theorem dX1_spreadFrom_100 : decode cX1_spreadFrom 100 = .ok (.getfield 77, 3) := by decide +kernel
theorem dX1_spreadFrom_103 : decode cX1_spreadFrom 103 = .ok (.goto 4, 3) := by decide +kernel
theorem dX1_spreadFrom_106 : decode cX1_spreadFrom 106 = .ok (.iconst 0, 1) := by decide +kernel
theorem dX1_spreadFrom_107 : decode cX1_spreadFrom 107 = .ok (.istore 5, 2) := by decide +kernel
theorem dX1_spreadFrom_109 : decode cX1_spreadFrom 109 = .ok (.aload_n 0, 1) := by decide +kernel
theorem dX1_spreadFrom_110 : decode cX1_spreadFrom 110 = .ok (.aload_n 1, 1) := by decide +kernel
theorem dX1_spreadFrom_111 : decode cX1_spreadFrom 111 = .ok (.getfield 21, 3) := by decide +kernel
theorem dX1_spreadFrom_114 : decode cX1_spreadFrom 114 = .ok (.iload_n 2, 1) := by decide +kernel
theorem dX1_spreadFrom_115 : decode cX1_spreadFrom 115 = .ok (.invokevirtual 80, 3) := by decide +kernel
theorem dX1_spreadFrom_118 : decode cX1_spreadFrom 118 = .ok (.aload_n 0, 1) := by decide +kernel
theorem dX1_spreadFrom_119 : decode cX1_spreadFrom 119 = .ok (.getfield 9, 3) := by decide +kernel
theorem dX1_spreadFrom_122 : decode cX1_spreadFrom 122 = .ok (.iload_n 3, 1) := by decide +kernel
theorem dX1_spreadFrom_123 : decode cX1_spreadFrom 123 = .ok (.iaload, 1) := by decide +kernel
theorem dX1_spreadFrom_124 : decode cX1_spreadFrom 124 = .ok (.aload 4, 2) := by decide +kernel
theorem dX1_spreadFrom_126 : decode cX1_spreadFrom 126 = .ok (.invokevirtual 73, 3) := by decide +kernel
theorem dX1_spreadFrom_129 : decode cX1_spreadFrom 129 = .ok (.iadd, 1) := by decide +kernel
theorem dX1_spreadFrom_130 : decode cX1_spreadFrom 130 = .ok (.iload 5, 2) := by decide +kernel
theorem dX1_spreadFrom_132 : decode cX1_spreadFrom 132 = .ok (.isub, 1) := by decide +kernel
theorem dX1_spreadFrom_133 : decode cX1_spreadFrom 133 = .ok (.iconst 1, 1) := by decide +kernel
theorem dX1_spreadFrom_134 : decode cX1_spreadFrom 134 = .ok (.iadd, 1) := by decide +kernel
theorem dX1_spreadFrom_135 : decode cX1_spreadFrom 135 = .ok (.invokevirtual 88, 3) := by decide +kernel
theorem dX1_spreadFrom_138 : decode cX1_spreadFrom 138 = .ok (.return_, 1) := by decide +kernel
theorem dX1_lower_0 : decode cX1_lower 0 = .ok (.iload_n 1, 1) := by decide +kernel
theorem dX1_lower_1 : decode cX1_lower 1 = .ok (.iconst 0, 1) := by decide +kernel
theorem dX1_lower_2 : decode cX1_lower 2 = .ok (.bipush 9, 2) := by decide +kernel
theorem dX1_lower_4 : decode cX1_lower 4 = .ok (.invokestatic 83, 3) := by decide +kernel
theorem dX1_lower_7 : decode cX1_lower 7 = .ok (.ifCond .eq 20, 3) := by decide +kernel
theorem dX1_lower_10 : decode cX1_lower 10 = .ok (.iload_n 2, 1) := by decide +kernel
theorem dX1_lower_11 : decode cX1_lower 11 = .ok (.aload_n 0, 1) := by decide +kernel
theorem dX1_lower_12 : decode cX1_lower 12 = .ok (.getfield 9, 3) := by decide +kernel
theorem dX1_lower_15 : decode cX1_lower 15 = .ok (.iload_n 1, 1) := by decide +kernel
theorem dX1_lower_16 : decode cX1_lower 16 = .ok (.iaload, 1) := by decide +kernel
theorem dX1_lower_17 : decode cX1_lower 17 = .ok (.if_icmp .ge 10, 3) := by decide +kernel
theorem dX1_lower_20 : decode cX1_lower 20 = .ok (.aload_n 0, 1) := by decide +kernel
theorem dX1_lower_21 : decode cX1_lower 21 = .ok (.getfield 9, 3) := by decide +kernel
theorem dX1_lower_24 : decode cX1_lower 24 = .ok (.iload_n 1, 1) := by decide +kernel
theorem dX1_lower_25 : decode cX1_lower 25 = .ok (.iload_n 2, 1) := by decide +kernel
theorem dX1_lower_26 : decode cX1_lower 26 = .ok (.iastore, 1) := by decide +kernel
theorem dX1_lower_27 : decode cX1_lower 27 = .ok (.return_, 1) := by decide +kernel
theorem dX2_init_0 : decode cX2_init 0 = .ok (.aload_n 0, 1) := by decide +kernel
theorem dX2_init_1 : decode cX2_init 1 = .ok (.invokespecial 3, 3) := by decide +kernel
theorem dX2_init_4 : decode cX2_init 4 = .ok (.aload_n 0, 1) := by decide +kernel
theorem dX2_init_5 : decode cX2_init 5 = .ok (.iconst 4, 1) := by decide +kernel
theorem dX2_init_6 : decode cX2_init 6 = .ok (.anewarray 9, 3) := by decide +kernel
theorem dX2_init_9 : decode cX2_init 9 = .ok (.putfield 11, 3) := by decide +kernel
theorem dX2_init_12 : decode cX2_init 12 = .ok (.iconst 0, 1) := by decide +kernel
theorem dX2_init_13 : decode cX2_init 13 = .ok (.istore_n 1, 1) := by decide +kernel
theorem dX2_init_14 : decode cX2_init 14 = .ok (.iload_n 1, 1) := by decide +kernel
theorem dX2_init_15 : decode cX2_init 15 = .ok (.aload_n 0, 1) := by decide +kernel
theorem dX2_init_16 : decode cX2_init 16 = .ok (.getfield 11, 3) := by decide +kernel
theorem dX2_init_19 : decode cX2_init 19 = .ok (.arraylength, 1) := by decide +kernel
theorem dX2_init_20 : decode cX2_init 20 = .ok (.if_icmp .ge 22, 3) := by decide +kernel
theorem dX2_init_23 : decode cX2_init 23 = .ok (.aload_n 0, 1) := by decide +kernel
theorem dX2_init_24 : decode cX2_init 24 = .ok (.getfield 11, 3) := by decide +kernel
theorem dX2_init_27 : decode cX2_init 27 = .ok (.iload_n 1, 1) := by decide +kernel
theorem dX2_init_28 : decode cX2_init 28 = .ok (.new 9, 3) := by decide +kernel
theorem dX2_init_31 : decode cX2_init 31 = .ok (.dup, 1) := by decide +kernel
theorem dX2_init_32 : decode cX2_init 32 = .ok (.invokespecial 17, 3) := by decide +kernel
theorem dX2_init_35 : decode cX2_init 35 = .ok (.aastore, 1) := by decide +kernel
theorem dX2_init_36 : decode cX2_init 36 = .ok (.iinc 1 1, 3) := by decide +kernel
theorem dX2_init_39 : decode cX2_init 39 = .ok (.goto (-25), 3) := by decide +kernel
theorem dX2_init_42 : decode cX2_init 42 = .ok (.return_, 1) := by decide +kernel
theorem dX2_keep_0 : decode cX2_keep 0 = .ok (.aload_n 0, 1) := by decide +kernel
theorem dX2_keep_1 : decode cX2_keep 1 = .ok (.getfield 18, 3) := by decide +kernel
theorem dX2_keep_4 : decode cX2_keep 4 = .ok (.iconst 4, 1) := by decide +kernel
theorem dX2_keep_5 : decode cX2_keep 5 = .ok (.if_icmp .lt 7, 3) := by decide +kernel
theorem dX2_keep_8 : decode cX2_keep 8 = .ok (.aload_n 0, 1) := by decide +kernel
theorem dX2_keep_9 : decode cX2_keep 9 = .ok (.invokevirtual 22, 3) := by decide +kernel
theorem dX2_keep_12 : decode cX2_keep 12 = .ok (.aload_n 0, 1) := by decide +kernel
theorem dX2_keep_13 : decode cX2_keep 13 = .ok (.getfield 11, 3) := by decide +kernel
theorem dX2_keep_16 : decode cX2_keep 16 = .ok (.aload_n 0, 1) := by decide +kernel
theorem dX2_keep_17 : decode cX2_keep 17 = .ok (.getfield 18, 3) := by decide +kernel
theorem dX2_keep_20 : decode cX2_keep 20 = .ok (.aaload, 1) := by decide +kernel
theorem dX2_keep_21 : decode cX2_keep 21 = .ok (.aload_n 1, 1) := by decide +kernel
theorem dX2_keep_22 : decode cX2_keep 22 = .ok (.invokevirtual 25, 3) := by decide +kernel
theorem dX2_keep_25 : decode cX2_keep 25 = .ok (.aload_n 0, 1) := by decide +kernel
theorem dX2_keep_26 : decode cX2_keep 26 = .ok (.dup, 1) := by decide +kernel
theorem dX2_keep_27 : decode cX2_keep 27 = .ok (.getfield 18, 3) := by decide +kernel
theorem dX2_keep_30 : decode cX2_keep 30 = .ok (.iconst 1, 1) := by decide +kernel
theorem dX2_keep_31 : decode cX2_keep 31 = .ok (.iadd, 1) := by decide +kernel
theorem dX2_keep_32 : decode cX2_keep 32 = .ok (.putfield 18, 3) := by decide +kernel
theorem dX2_keep_35 : decode cX2_keep 35 = .ok (.return_, 1) := by decide +kernel
theorem dX2_dropOldest_0 : decode cX2_dropOldest 0 = .ok (.aload_n 0, 1) := by decide +kernel
theorem dX2_dropOldest_1 : decode cX2_dropOldest 1 = .ok (.getfield 11, 3) := by decide +kernel
theorem dX2_dropOldest_4 : decode cX2_dropOldest 4 = .ok (.iconst 0, 1) := by decide +kernel
theorem dX2_dropOldest_5 : decode cX2_dropOldest 5 = .ok (.aaload, 1) := by decide +kernel
theorem dX2_dropOldest_6 : decode cX2_dropOldest 6 = .ok (.astore_n 1, 1) := by decide +kernel
theorem dX2_dropOldest_7 : decode cX2_dropOldest 7 = .ok (.aload_n 0, 1) := by decide +kernel
theorem dX2_dropOldest_8 : decode cX2_dropOldest 8 = .ok (.iconst 3, 1) := by decide +kernel
theorem dX2_dropOldest_9 : decode cX2_dropOldest 9 = .ok (.putfield 18, 3) := by decide +kernel
theorem dX2_dropOldest_12 : decode cX2_dropOldest 12 = .ok (.iconst 0, 1) := by decide +kernel
theorem dX2_dropOldest_13 : decode cX2_dropOldest 13 = .ok (.istore_n 2, 1) := by decide +kernel
theorem dX2_dropOldest_14 : decode cX2_dropOldest 14 = .ok (.iload_n 2, 1) := by decide +kernel
theorem dX2_dropOldest_15 : decode cX2_dropOldest 15 = .ok (.aload_n 0, 1) := by decide +kernel
theorem dX2_dropOldest_16 : decode cX2_dropOldest 16 = .ok (.getfield 18, 3) := by decide +kernel
theorem dX2_dropOldest_19 : decode cX2_dropOldest 19 = .ok (.if_icmp .ge 23, 3) := by decide +kernel
theorem dX2_dropOldest_22 : decode cX2_dropOldest 22 = .ok (.aload_n 0, 1) := by decide +kernel
theorem dX2_dropOldest_23 : decode cX2_dropOldest 23 = .ok (.getfield 11, 3) := by decide +kernel
theorem dX2_dropOldest_26 : decode cX2_dropOldest 26 = .ok (.iload_n 2, 1) := by decide +kernel
theorem dX2_dropOldest_27 : decode cX2_dropOldest 27 = .ok (.aload_n 0, 1) := by decide +kernel
theorem dX2_dropOldest_28 : decode cX2_dropOldest 28 = .ok (.getfield 11, 3) := by decide +kernel
theorem dX2_dropOldest_31 : decode cX2_dropOldest 31 = .ok (.iload_n 2, 1) := by decide +kernel
theorem dX2_dropOldest_32 : decode cX2_dropOldest 32 = .ok (.iconst 1, 1) := by decide +kernel
theorem dX2_dropOldest_33 : decode cX2_dropOldest 33 = .ok (.iadd, 1) := by decide +kernel
theorem dX2_dropOldest_34 : decode cX2_dropOldest 34 = .ok (.aaload, 1) := by decide +kernel
theorem dX2_dropOldest_35 : decode cX2_dropOldest 35 = .ok (.aastore, 1) := by decide +kernel
theorem dX2_dropOldest_36 : decode cX2_dropOldest 36 = .ok (.iinc 2 1, 3) := by decide +kernel
theorem dX2_dropOldest_39 : decode cX2_dropOldest 39 = .ok (.goto (-25), 3) := by decide +kernel
theorem dX2_dropOldest_42 : decode cX2_dropOldest 42 = .ok (.aload_n 0, 1) := by decide +kernel
theorem dX2_dropOldest_43 : decode cX2_dropOldest 43 = .ok (.getfield 11, 3) := by decide +kernel
theorem dX2_dropOldest_46 : decode cX2_dropOldest 46 = .ok (.aload_n 0, 1) := by decide +kernel
theorem dX2_dropOldest_47 : decode cX2_dropOldest 47 = .ok (.getfield 18, 3) := by decide +kernel
theorem dX2_dropOldest_50 : decode cX2_dropOldest 50 = .ok (.aload_n 1, 1) := by decide +kernel
theorem dX2_dropOldest_51 : decode cX2_dropOldest 51 = .ok (.aastore, 1) := by decide +kernel
theorem dX2_dropOldest_52 : decode cX2_dropOldest 52 = .ok (.return_, 1) := by decide +kernel
theorem dX2_restore_0 : decode cX2_restore 0 = .ok (.aload_n 0, 1) := by decide +kernel
theorem dX2_restore_1 : decode cX2_restore 1 = .ok (.getfield 18, 3) := by decide +kernel
theorem dX2_restore_4 : decode cX2_restore 4 = .ok (.ifCond .le 26, 3) := by decide +kernel
theorem dX2_restore_7 : decode cX2_restore 7 = .ok (.aload_n 0, 1) := by decide +kernel
theorem dX2_restore_8 : decode cX2_restore 8 = .ok (.dup, 1) := by decide +kernel
theorem dX2_restore_9 : decode cX2_restore 9 = .ok (.getfield 18, 3) := by decide +kernel
theorem dX2_restore_12 : decode cX2_restore 12 = .ok (.iconst 1, 1) := by decide +kernel
theorem dX2_restore_13 : decode cX2_restore 13 = .ok (.isub, 1) := by decide +kernel
theorem dX2_restore_14 : decode cX2_restore 14 = .ok (.putfield 18, 3) := by decide +kernel
theorem dX2_restore_17 : decode cX2_restore 17 = .ok (.aload_n 1, 1) := by decide +kernel
theorem dX2_restore_18 : decode cX2_restore 18 = .ok (.aload_n 0, 1) := by decide +kernel
theorem dX2_restore_19 : decode cX2_restore 19 = .ok (.getfield 11, 3) := by decide +kernel
theorem dX2_restore_22 : decode cX2_restore 22 = .ok (.aload_n 0, 1) := by decide +kernel
theorem dX2_restore_23 : decode cX2_restore 23 = .ok (.getfield 18, 3) := by decide +kernel
theorem dX2_restore_26 : decode cX2_restore 26 = .ok (.aaload, 1) := by decide +kernel
theorem dX2_restore_27 : decode cX2_restore 27 = .ok (.invokevirtual 25, 3) := by decide +kernel
theorem dX2_restore_30 : decode cX2_restore 30 = .ok (.return_, 1) := by decide +kernel
theorem dX3_init_0 : decode cX3_init 0 = .ok (.aload_n 0, 1) := by decide +kernel
theorem dX3_init_1 : decode cX3_init 1 = .ok (.invokespecial 3, 3) := by decide +kernel
theorem dX3_init_4 : decode cX3_init 4 = .ok (.aload_n 0, 1) := by decide +kernel
theorem dX3_init_5 : decode cX3_init 5 = .ok (.bipush 8, 2) := by decide +kernel
theorem dX3_init_7 : decode cX3_init 7 = .ok (.newarray .int, 2) := by decide +kernel
theorem dX3_init_9 : decode cX3_init 9 = .ok (.putfield 9, 3) := by decide +kernel
theorem dX3_init_12 : decode cX3_init 12 = .ok (.aload_n 0, 1) := by decide +kernel
theorem dX3_init_13 : decode cX3_init 13 = .ok (.bipush 8, 2) := by decide +kernel
theorem dX3_init_15 : decode cX3_init 15 = .ok (.newarray .int, 2) := by decide +kernel
theorem dX3_init_17 : decode cX3_init 17 = .ok (.putfield 15, 3) := by decide +kernel
theorem dX3_init_20 : decode cX3_init 20 = .ok (.return_, 1) := by decide +kernel
theorem dX3_copyFrom_0 : decode cX3_copyFrom 0 = .ok (.aload_n 0, 1) := by decide +kernel
theorem dX3_copyFrom_1 : decode cX3_copyFrom 1 = .ok (.aload_n 1, 1) := by decide +kernel
theorem dX3_copyFrom_2 : decode cX3_copyFrom 2 = .ok (.getfield 18, 3) := by decide +kernel
theorem dX3_copyFrom_5 : decode cX3_copyFrom 5 = .ok (.putfield 18, 3) := by decide +kernel
theorem dX3_copyFrom_8 : decode cX3_copyFrom 8 = .ok (.aload_n 1, 1) := by decide +kernel
theorem dX3_copyFrom_9 : decode cX3_copyFrom 9 = .ok (.getfield 9, 3) := by decide +kernel
theorem dX3_copyFrom_12 : decode cX3_copyFrom 12 = .ok (.iconst 0, 1) := by decide +kernel
theorem dX3_copyFrom_13 : decode cX3_copyFrom 13 = .ok (.aload_n 0, 1) := by decide +kernel
theorem dX3_copyFrom_14 : decode cX3_copyFrom 14 = .ok (.getfield 9, 3) := by decide +kernel
theorem dX3_copyFrom_17 : decode cX3_copyFrom 17 = .ok (.iconst 0, 1) := by decide +kernel
theorem dX3_copyFrom_18 : decode cX3_copyFrom 18 = .ok (.bipush 8, 2) := by decide +kernel
theorem dX3_copyFrom_20 : decode cX3_copyFrom 20 = .ok (.invokestatic 22, 3) := by decide +kernel
theorem dX3_copyFrom_23 : decode cX3_copyFrom 23 = .ok (.aload_n 1, 1) := by decide +kernel
theorem dX3_copyFrom_24 : decode cX3_copyFrom 24 = .ok (.getfield 15, 3) := by decide +kernel
theorem dX3_copyFrom_27 : decode cX3_copyFrom 27 = .ok (.iconst 0, 1) := by decide +kernel
theorem dX3_copyFrom_28 : decode cX3_copyFrom 28 = .ok (.aload_n 0, 1) := by decide +kernel
theorem dX3_copyFrom_29 : decode cX3_copyFrom 29 = .ok (.getfield 15, 3) := by decide +kernel
theorem dX3_copyFrom_32 : decode cX3_copyFrom 32 = .ok (.iconst 0, 1) := by decide +kernel
theorem dX3_copyFrom_33 : decode cX3_copyFrom 33 = .ok (.bipush 8, 2) := by decide +kernel
theorem dX3_copyFrom_35 : decode cX3_copyFrom 35 = .ok (.invokestatic 22, 3) := by decide +kernel
theorem dX3_copyFrom_38 : decode cX3_copyFrom 38 = .ok (.return_, 1) := by decide +kernel
theorem dX3_placeOf_0 : decode cX3_placeOf 0 = .ok (.iconst 0, 1) := by decide +kernel
theorem dX3_placeOf_1 : decode cX3_placeOf 1 = .ok (.istore_n 2, 1) := by decide +kernel
theorem dX3_placeOf_2 : decode cX3_placeOf 2 = .ok (.iload_n 2, 1) := by decide +kernel
theorem dX3_placeOf_3 : decode cX3_placeOf 3 = .ok (.aload_n 0, 1) := by decide +kernel
theorem dX3_placeOf_4 : decode cX3_placeOf 4 = .ok (.getfield 18, 3) := by decide +kernel
theorem dX3_placeOf_7 : decode cX3_placeOf 7 = .ok (.if_icmp .ge 21, 3) := by decide +kernel
theorem dX3_placeOf_10 : decode cX3_placeOf 10 = .ok (.aload_n 0, 1) := by decide +kernel
theorem dX3_placeOf_11 : decode cX3_placeOf 11 = .ok (.getfield 9, 3) := by decide +kernel
theorem dX3_placeOf_14 : decode cX3_placeOf 14 = .ok (.iload_n 2, 1) := by decide +kernel
theorem dX3_placeOf_15 : decode cX3_placeOf 15 = .ok (.iaload, 1) := by decide +kernel
theorem dX3_placeOf_16 : decode cX3_placeOf 16 = .ok (.iload_n 1, 1) := by decide +kernel
theorem dX3_placeOf_17 : decode cX3_placeOf 17 = .ok (.if_icmp .ne 5, 3) := by decide +kernel
theorem dX3_placeOf_20 : decode cX3_placeOf 20 = .ok (.iload_n 2, 1) := by decide +kernel
theorem dX3_placeOf_21 : decode cX3_placeOf 21 = .ok (.ireturn, 1) := by decide +kernel
theorem dX3_placeOf_22 : decode cX3_placeOf 22 = .ok (.iinc 2 1, 3) := by decide +kernel
theorem dX3_placeOf_25 : decode cX3_placeOf 25 = .ok (.goto (-23), 3) := by decide +kernel
theorem dX3_placeOf_28 : decode cX3_placeOf 28 = .ok (.iconst (-1), 1) := by decide +kernel
theorem dX3_placeOf_29 : decode cX3_placeOf 29 = .ok (.ireturn, 1) := by decide +kernel
theorem dX3_putAt_0 : decode cX3_putAt 0 = .ok (.iload_n 1, 1) := by decide +kernel
theorem dX3_putAt_1 : decode cX3_putAt 1 = .ok (.iconst (-1), 1) := by decide +kernel
theorem dX3_putAt_2 : decode cX3_putAt 2 = .ok (.if_icmp .ne 10, 3) := by decide +kernel
theorem dX3_putAt_5 : decode cX3_putAt 5 = .ok (.aload_n 0, 1) := by decide +kernel
theorem dX3_putAt_6 : decode cX3_putAt 6 = .ok (.getfield 18, 3) := by decide +kernel
theorem dX3_putAt_9 : decode cX3_putAt 9 = .ok (.goto 4, 3) := by decide +kernel
theorem dX3_putAt_12 : decode cX3_putAt 12 = .ok (.iload_n 1, 1) := by decide +kernel
theorem dX3_putAt_13 : decode cX3_putAt 13 = .ok (.istore 4, 2) := by decide +kernel
theorem dX3_putAt_15 : decode cX3_putAt 15 = .ok (.iload 4, 2) := by decide +kernel
theorem dX3_putAt_17 : decode cX3_putAt 17 = .ok (.iconst 0, 1) := by decide +kernel
theorem dX3_putAt_18 : decode cX3_putAt 18 = .ok (.bipush 7, 2) := by decide +kernel
theorem dX3_putAt_20 : decode cX3_putAt 20 = .ok (.invokestatic 28, 3) := by decide +kernel
theorem dX3_putAt_23 : decode cX3_putAt 23 = .ok (.ifCond .ne 4, 3) := by decide +kernel
theorem dX3_putAt_26 : decode cX3_putAt 26 = .ok (.return_, 1) := by decide +kernel
theorem dX3_putAt_27 : decode cX3_putAt 27 = .ok (.aload_n 0, 1) := by decide +kernel
theorem dX3_putAt_28 : decode cX3_putAt 28 = .ok (.getfield 9, 3) := by decide +kernel
theorem dX3_putAt_31 : decode cX3_putAt 31 = .ok (.iload 4, 2) := by decide +kernel
theorem dX3_putAt_33 : decode cX3_putAt 33 = .ok (.iload_n 2, 1) := by decide +kernel
theorem dX3_putAt_34 : decode cX3_putAt 34 = .ok (.iastore, 1) := by decide +kernel
theorem dX3_putAt_35 : decode cX3_putAt 35 = .ok (.aload_n 0, 1) := by decide +kernel
theorem dX3_putAt_36 : decode cX3_putAt 36 = .ok (.getfield 15, 3) := by decide +kernel
theorem dX3_putAt_39 : decode cX3_putAt 39 = .ok (.iload 4, 2) := by decide +kernel
theorem dX3_putAt_41 : decode cX3_putAt 41 = .ok (.iload_n 3, 1) := by decide +kernel
theorem dX3_putAt_42 : decode cX3_putAt 42 = .ok (.iastore, 1) := by decide +kernel
theorem dX3_putAt_43 : decode cX3_putAt 43 = .ok (.iload 4, 2) := by decide +kernel
theorem dX3_putAt_45 : decode cX3_putAt 45 = .ok (.aload_n 0, 1) := by decide +kernel
theorem dX3_putAt_46 : decode cX3_putAt 46 = .ok (.getfield 18, 3) := by decide +kernel
theorem dX3_putAt_49 : decode cX3_putAt 49 = .ok (.if_icmp .ne 13, 3) := by decide +kernel
theorem dX3_putAt_52 : decode cX3_putAt 52 = .ok (.aload_n 0, 1) := by decide +kernel
theorem dX3_putAt_53 : decode cX3_putAt 53 = .ok (.dup, 1) := by decide +kernel
theorem dX3_putAt_54 : decode cX3_putAt 54 = .ok (.getfield 18, 3) := by decide +kernel
theorem dX3_putAt_57 : decode cX3_putAt 57 = .ok (.iconst 1, 1) := by decide +kernel
theorem dX3_putAt_58 : decode cX3_putAt 58 = .ok (.iadd, 1) := by decide +kernel
theorem dX3_putAt_59 : decode cX3_putAt 59 = .ok (.putfield 18, 3) := by decide +kernel
theorem dX3_putAt_62 : decode cX3_putAt 62 = .ok (.return_, 1) := by decide +kernel
theorem dX3_dropAt_0 : decode cX3_dropAt 0 = .ok (.iload_n 1, 1) := by decide +kernel
theorem dX3_dropAt_1 : decode cX3_dropAt 1 = .ok (.iconst 0, 1) := by decide +kernel
theorem dX3_dropAt_2 : decode cX3_dropAt 2 = .ok (.aload_n 0, 1) := by decide +kernel
theorem dX3_dropAt_3 : decode cX3_dropAt 3 = .ok (.getfield 18, 3) := by decide +kernel
theorem dX3_dropAt_6 : decode cX3_dropAt 6 = .ok (.iconst 1, 1) := by decide +kernel
theorem dX3_dropAt_7 : decode cX3_dropAt 7 = .ok (.isub, 1) := by decide +kernel
theorem dX3_dropAt_8 : decode cX3_dropAt 8 = .ok (.invokestatic 28, 3) := by decide +kernel
theorem dX3_dropAt_11 : decode cX3_dropAt 11 = .ok (.ifCond .ne 4, 3) := by decide +kernel
theorem dX3_dropAt_14 : decode cX3_dropAt 14 = .ok (.return_, 1) := by decide +kernel
theorem dX3_dropAt_15 : decode cX3_dropAt 15 = .ok (.aload_n 0, 1) := by decide +kernel
theorem dX3_dropAt_16 : decode cX3_dropAt 16 = .ok (.dup, 1) := by decide +kernel
theorem dX3_dropAt_17 : decode cX3_dropAt 17 = .ok (.getfield 18, 3) := by decide +kernel
theorem dX3_dropAt_20 : decode cX3_dropAt 20 = .ok (.iconst 1, 1) := by decide +kernel
theorem dX3_dropAt_21 : decode cX3_dropAt 21 = .ok (.isub, 1) := by decide +kernel
theorem dX3_dropAt_22 : decode cX3_dropAt 22 = .ok (.putfield 18, 3) := by decide +kernel
theorem dX3_dropAt_25 : decode cX3_dropAt 25 = .ok (.aload_n 0, 1) := by decide +kernel
theorem dX3_dropAt_26 : decode cX3_dropAt 26 = .ok (.getfield 9, 3) := by decide +kernel
theorem dX3_dropAt_29 : decode cX3_dropAt 29 = .ok (.iload_n 1, 1) := by decide +kernel
theorem dX3_dropAt_30 : decode cX3_dropAt 30 = .ok (.aload_n 0, 1) := by decide +kernel
theorem dX3_dropAt_31 : decode cX3_dropAt 31 = .ok (.getfield 9, 3) := by decide +kernel
theorem dX3_dropAt_34 : decode cX3_dropAt 34 = .ok (.aload_n 0, 1) := by decide +kernel
theorem dX3_dropAt_35 : decode cX3_dropAt 35 = .ok (.getfield 18, 3) := by decide +kernel
theorem dX3_dropAt_38 : decode cX3_dropAt 38 = .ok (.iaload, 1) := by decide +kernel
theorem dX3_dropAt_39 : decode cX3_dropAt 39 = .ok (.iastore, 1) := by decide +kernel
theorem dX3_dropAt_40 : decode cX3_dropAt 40 = .ok (.aload_n 0, 1) := by decide +kernel
theorem dX3_dropAt_41 : decode cX3_dropAt 41 = .ok (.getfield 15, 3) := by decide +kernel
theorem dX3_dropAt_44 : decode cX3_dropAt 44 = .ok (.iload_n 1, 1) := by decide +kernel
theorem dX3_dropAt_45 : decode cX3_dropAt 45 = .ok (.aload_n 0, 1) := by decide +kernel
theorem dX3_dropAt_46 : decode cX3_dropAt 46 = .ok (.getfield 15, 3) := by decide +kernel
theorem dX3_dropAt_49 : decode cX3_dropAt 49 = .ok (.aload_n 0, 1) := by decide +kernel
theorem dX3_dropAt_50 : decode cX3_dropAt 50 = .ok (.getfield 18, 3) := by decide +kernel
theorem dX3_dropAt_53 : decode cX3_dropAt 53 = .ok (.iaload, 1) := by decide +kernel
theorem dX3_dropAt_54 : decode cX3_dropAt 54 = .ok (.iastore, 1) := by decide +kernel
theorem dX3_dropAt_55 : decode cX3_dropAt 55 = .ok (.return_, 1) := by decide +kernel
theorem dX3_latestAt_0 : decode cX3_latestAt 0 = .ok (.iconst (-1), 1) := by decide +kernel
theorem dX3_latestAt_1 : decode cX3_latestAt 1 = .ok (.istore_n 2, 1) := by decide +kernel
theorem dX3_latestAt_2 : decode cX3_latestAt 2 = .ok (.bipush (-6), 2) := by decide +kernel
theorem dX3_latestAt_4 : decode cX3_latestAt 4 = .ok (.istore_n 3, 1) := by decide +kernel
theorem dX3_latestAt_5 : decode cX3_latestAt 5 = .ok (.iconst 0, 1) := by decide +kernel
theorem dX3_latestAt_6 : decode cX3_latestAt 6 = .ok (.istore 4, 2) := by decide +kernel
theorem dX3_latestAt_8 : decode cX3_latestAt 8 = .ok (.iload 4, 2) := by decide +kernel
theorem dX3_latestAt_10 : decode cX3_latestAt 10 = .ok (.aload_n 0, 1) := by decide +kernel
theorem dX3_latestAt_11 : decode cX3_latestAt 11 = .ok (.getfield 18, 3) := by decide +kernel
theorem dX3_latestAt_14 : decode cX3_latestAt 14 = .ok (.if_icmp .ge 47, 3) := by decide +kernel
theorem dX3_latestAt_17 : decode cX3_latestAt 17 = .ok (.aload_n 0, 1) := by decide +kernel
theorem dX3_latestAt_18 : decode cX3_latestAt 18 = .ok (.getfield 9, 3) := by decide +kernel
theorem dX3_latestAt_21 : decode cX3_latestAt 21 = .ok (.iload 4, 2) := by decide +kernel
theorem dX3_latestAt_23 : decode cX3_latestAt 23 = .ok (.iaload, 1) := by decide +kernel
theorem dX3_latestAt_24 : decode cX3_latestAt 24 = .ok (.iload_n 1, 1) := by decide +kernel
theorem dX3_latestAt_25 : decode cX3_latestAt 25 = .ok (.if_icmp .gt 30, 3) := by decide +kernel
theorem dX3_latestAt_28 : decode cX3_latestAt 28 = .ok (.aload_n 0, 1) := by decide +kernel
theorem dX3_latestAt_29 : decode cX3_latestAt 29 = .ok (.getfield 9, 3) := by decide +kernel
theorem dX3_latestAt_32 : decode cX3_latestAt 32 = .ok (.iload 4, 2) := by decide +kernel
theorem dX3_latestAt_34 : decode cX3_latestAt 34 = .ok (.iaload, 1) := by decide +kernel
theorem dX3_latestAt_35 : decode cX3_latestAt 35 = .ok (.iload_n 2, 1) := by decide +kernel
theorem dX3_latestAt_36 : decode cX3_latestAt 36 = .ok (.if_icmp .le 19, 3) := by decide +kernel
theorem dX3_latestAt_39 : decode cX3_latestAt 39 = .ok (.aload_n 0, 1) := by decide +kernel
theorem dX3_latestAt_40 : decode cX3_latestAt 40 = .ok (.getfield 9, 3) := by decide +kernel
theorem dX3_latestAt_43 : decode cX3_latestAt 43 = .ok (.iload 4, 2) := by decide +kernel
theorem dX3_latestAt_45 : decode cX3_latestAt 45 = .ok (.iaload, 1) := by decide +kernel
theorem dX3_latestAt_46 : decode cX3_latestAt 46 = .ok (.istore_n 2, 1) := by decide +kernel
theorem dX3_latestAt_47 : decode cX3_latestAt 47 = .ok (.aload_n 0, 1) := by decide +kernel
theorem dX3_latestAt_48 : decode cX3_latestAt 48 = .ok (.getfield 15, 3) := by decide +kernel
theorem dX3_latestAt_51 : decode cX3_latestAt 51 = .ok (.iload 4, 2) := by decide +kernel
theorem dX3_latestAt_53 : decode cX3_latestAt 53 = .ok (.iaload, 1) := by decide +kernel
theorem dX3_latestAt_54 : decode cX3_latestAt 54 = .ok (.istore_n 3, 1) := by decide +kernel
theorem dX3_latestAt_55 : decode cX3_latestAt 55 = .ok (.iinc 4 1, 3) := by decide +kernel
theorem dX3_latestAt_58 : decode cX3_latestAt 58 = .ok (.goto (-50), 3) := by decide +kernel
theorem dX3_latestAt_61 : decode cX3_latestAt 61 = .ok (.iload_n 3, 1) := by decide +kernel
theorem dX3_latestAt_62 : decode cX3_latestAt 62 = .ok (.ireturn, 1) := by decide +kernel
theorem dX4_init_0 : decode cX4_init 0 = .ok (.aload_n 0, 1) := by decide +kernel
theorem dX4_init_1 : decode cX4_init 1 = .ok (.invokespecial 3, 3) := by decide +kernel
theorem dX4_init_4 : decode cX4_init 4 = .ok (.aload_n 0, 1) := by decide +kernel
theorem dX4_init_5 : decode cX4_init 5 = .ok (.bipush (-6), 2) := by decide +kernel
theorem dX4_init_7 : decode cX4_init 7 = .ok (.putfield 9, 3) := by decide +kernel
theorem dX4_init_10 : decode cX4_init 10 = .ok (.aload_n 0, 1) := by decide +kernel
theorem dX4_init_11 : decode cX4_init 11 = .ok (.bipush (-6), 2) := by decide +kernel
theorem dX4_init_13 : decode cX4_init 13 = .ok (.putfield 15, 3) := by decide +kernel
theorem dX4_init_16 : decode cX4_init 16 = .ok (.aload_n 0, 1) := by decide +kernel
theorem dX4_init_17 : decode cX4_init 17 = .ok (.bipush (-6), 2) := by decide +kernel
theorem dX4_init_19 : decode cX4_init 19 = .ok (.putfield 18, 3) := by decide +kernel
theorem dX4_init_22 : decode cX4_init 22 = .ok (.aload_n 0, 1) := by decide +kernel
theorem dX4_init_23 : decode cX4_init 23 = .ok (.bipush (-6), 2) := by decide +kernel
theorem dX4_init_25 : decode cX4_init 25 = .ok (.putfield 21, 3) := by decide +kernel
theorem dX4_init_28 : decode cX4_init 28 = .ok (.return_, 1) := by decide +kernel
theorem dX4_clear_0 : decode cX4_clear 0 = .ok (.aload_n 0, 1) := by decide +kernel
theorem dX4_clear_1 : decode cX4_clear 1 = .ok (.bipush (-6), 2) := by decide +kernel
theorem dX4_clear_3 : decode cX4_clear 3 = .ok (.putfield 9, 3) := by decide +kernel
theorem dX4_clear_6 : decode cX4_clear 6 = .ok (.aload_n 0, 1) := by decide +kernel
theorem dX4_clear_7 : decode cX4_clear 7 = .ok (.bipush (-6), 2) := by decide +kernel
theorem dX4_clear_9 : decode cX4_clear 9 = .ok (.putfield 15, 3) := by decide +kernel
theorem dX4_clear_12 : decode cX4_clear 12 = .ok (.aload_n 0, 1) := by decide +kernel
theorem dX4_clear_13 : decode cX4_clear 13 = .ok (.bipush (-6), 2) := by decide +kernel
theorem dX4_clear_15 : decode cX4_clear 15 = .ok (.putfield 18, 3) := by decide +kernel
theorem dX4_clear_18 : decode cX4_clear 18 = .ok (.aload_n 0, 1) := by decide +kernel
theorem dX4_clear_19 : decode cX4_clear 19 = .ok (.bipush (-6), 2) := by decide +kernel
theorem dX4_clear_21 : decode cX4_clear 21 = .ok (.putfield 21, 3) := by decide +kernel
theorem dX4_clear_24 : decode cX4_clear 24 = .ok (.return_, 1) := by decide +kernel
theorem dX4_tell_0 : decode cX4_tell 0 = .ok (.aload_n 3, 1) := by decide +kernel
theorem dX4_tell_1 : decode cX4_tell 1 = .ok (.getfield 24, 3) := by decide +kernel
theorem dX4_tell_4 : decode cX4_tell 4 = .ok (.iconst (-1), 1) := by decide +kernel
theorem dX4_tell_5 : decode cX4_tell 5 = .ok (.if_icmp .eq 7, 3) := by decide +kernel
theorem dX4_tell_8 : decode cX4_tell 8 = .ok (.iconst 1, 1) := by decide +kernel
theorem dX4_tell_9 : decode cX4_tell 9 = .ok (.goto 4, 3) := by decide +kernel
theorem dX4_tell_12 : decode cX4_tell 12 = .ok (.iconst 0, 1) := by decide +kernel
theorem dX4_tell_13 : decode cX4_tell 13 = .ok (.istore 4, 2) := by decide +kernel
theorem dX4_tell_15 : decode cX4_tell 15 = .ok (.aload_n 0, 1) := by decide +kernel
theorem dX4_tell_16 : decode cX4_tell 16 = .ok (.iload_n 1, 1) := by decide +kernel
theorem dX4_tell_17 : decode cX4_tell 17 = .ok (.putfield 9, 3) := by decide +kernel
theorem dX4_tell_20 : decode cX4_tell 20 = .ok (.aload_n 0, 1) := by decide +kernel
theorem dX4_tell_21 : decode cX4_tell 21 = .ok (.iload_n 2, 1) := by decide +kernel
theorem dX4_tell_22 : decode cX4_tell 22 = .ok (.putfield 15, 3) := by decide +kernel
theorem dX4_tell_25 : decode cX4_tell 25 = .ok (.aload_n 0, 1) := by decide +kernel
theorem dX4_tell_26 : decode cX4_tell 26 = .ok (.iload 4, 2) := by decide +kernel
theorem dX4_tell_28 : decode cX4_tell 28 = .ok (.ifCond .eq 10, 3) := by decide +kernel
theorem dX4_tell_31 : decode cX4_tell 31 = .ok (.aload_n 3, 1) := by decide +kernel
theorem dX4_tell_32 : decode cX4_tell 32 = .ok (.getfield 24, 3) := by decide +kernel
theorem dX4_tell_35 : decode cX4_tell 35 = .ok (.goto 5, 3) := by decide +kernel
theorem dX4_tell_38 : decode cX4_tell 38 = .ok (.bipush (-6), 2) := by decide +kernel
theorem dX4_tell_40 : decode cX4_tell 40 = .ok (.putfield 18, 3) := by decide +kernel
theorem dX4_tell_43 : decode cX4_tell 43 = .ok (.aload_n 0, 1) := by decide +kernel
theorem dX4_tell_44 : decode cX4_tell 44 = .ok (.iload 4, 2) := by decide +kernel
theorem dX4_tell_46 : decode cX4_tell 46 = .ok (.ifCond .eq 10, 3) := by decide +kernel
theorem dX4_tell_49 : decode cX4_tell 49 = .ok (.aload_n 3, 1) := by decide +kernel
theorem dX4_tell_50 : decode cX4_tell 50 = .ok (.getfield 27, 3) := by decide +kernel
theorem dX4_tell_53 : decode cX4_tell 53 = .ok (.goto 5, 3) := by decide +kernel
theorem dX4_tell_56 : decode cX4_tell 56 = .ok (.bipush (-6), 2) := by decide +kernel
theorem dX4_tell_58 : decode cX4_tell 58 = .ok (.putfield 21, 3) := by decide +kernel
theorem dX4_tell_61 : decode cX4_tell 61 = .ok (.return_, 1) := by decide +kernel
theorem dX5_init_0 : decode cX5_init 0 = .ok (.aload_n 0, 1) := by decide +kernel
theorem dX5_init_1 : decode cX5_init 1 = .ok (.invokespecial 3, 3) := by decide +kernel
theorem dX5_init_4 : decode cX5_init 4 = .ok (.aload_n 0, 1) := by decide +kernel
theorem dX5_init_5 : decode cX5_init 5 = .ok (.bipush 60, 2) := by decide +kernel
theorem dX5_init_7 : decode cX5_init 7 = .ok (.newarray .char, 2) := by decide +kernel
theorem dX5_init_9 : decode cX5_init 9 = .ok (.putfield 9, 3) := by decide +kernel
theorem dX5_init_12 : decode cX5_init 12 = .ok (.return_, 1) := by decide +kernel
theorem dX5_addSign_0 : decode cX5_addSign 0 = .ok (.aload_n 0, 1) := by decide +kernel
theorem dX5_addSign_1 : decode cX5_addSign 1 = .ok (.getfield 15, 3) := by decide +kernel
theorem dX5_addSign_4 : decode cX5_addSign 4 = .ok (.bipush 60, 2) := by decide +kernel
theorem dX5_addSign_6 : decode cX5_addSign 6 = .ok (.if_icmp .ge 23, 3) := by decide +kernel
theorem dX5_addSign_9 : decode cX5_addSign 9 = .ok (.aload_n 0, 1) := by decide +kernel
theorem dX5_addSign_10 : decode cX5_addSign 10 = .ok (.getfield 9, 3) := by decide +kernel
theorem dX5_addSign_13 : decode cX5_addSign 13 = .ok (.aload_n 0, 1) := by decide +kernel
theorem dX5_addSign_14 : decode cX5_addSign 14 = .ok (.getfield 15, 3) := by decide +kernel
theorem dX5_addSign_17 : decode cX5_addSign 17 = .ok (.iload_n 1, 1) := by decide +kernel
theorem dX5_addSign_18 : decode cX5_addSign 18 = .ok (.castore, 1) := by decide +kernel
theorem dX5_addSign_19 : decode cX5_addSign 19 = .ok (.aload_n 0, 1) := by decide +kernel
theorem dX5_addSign_20 : decode cX5_addSign 20 = .ok (.dup, 1) := by decide +kernel
theorem dX5_addSign_21 : decode cX5_addSign 21 = .ok (.getfield 15, 3) := by decide +kernel
theorem dX5_addSign_24 : decode cX5_addSign 24 = .ok (.iconst 1, 1) := by decide +kernel
theorem dX5_addSign_25 : decode cX5_addSign 25 = .ok (.iadd, 1) := by decide +kernel
theorem dX5_addSign_26 : decode cX5_addSign 26 = .ok (.putfield 15, 3) := by decide +kernel
theorem dX5_addSign_29 : decode cX5_addSign 29 = .ok (.return_, 1) := by decide +kernel
theorem dX5_signAt_0 : decode cX5_signAt 0 = .ok (.iload_n 1, 1) := by decide +kernel
theorem dX5_signAt_1 : decode cX5_signAt 1 = .ok (.iconst 0, 1) := by decide +kernel
theorem dX5_signAt_2 : decode cX5_signAt 2 = .ok (.aload_n 0, 1) := by decide +kernel
theorem dX5_signAt_3 : decode cX5_signAt 3 = .ok (.getfield 15, 3) := by decide +kernel
theorem dX5_signAt_6 : decode cX5_signAt 6 = .ok (.iconst 1, 1) := by decide +kernel
theorem dX5_signAt_7 : decode cX5_signAt 7 = .ok (.isub, 1) := by decide +kernel
theorem dX5_signAt_8 : decode cX5_signAt 8 = .ok (.invokestatic 19, 3) := by decide +kernel
theorem dX5_signAt_11 : decode cX5_signAt 11 = .ok (.ifCond .eq 12, 3) := by decide +kernel
theorem dX5_signAt_14 : decode cX5_signAt 14 = .ok (.aload_n 0, 1) := by decide +kernel
theorem dX5_signAt_15 : decode cX5_signAt 15 = .ok (.getfield 9, 3) := by decide +kernel
theorem dX5_signAt_18 : decode cX5_signAt 18 = .ok (.iload_n 1, 1) := by decide +kernel
theorem dX5_signAt_19 : decode cX5_signAt 19 = .ok (.caload, 1) := by decide +kernel
theorem dX5_signAt_20 : decode cX5_signAt 20 = .ok (.goto 5, 3) := by decide +kernel
theorem dX5_signAt_23 : decode cX5_signAt 23 = .ok (.bipush 32, 2) := by decide +kernel
theorem dX5_signAt_25 : decode cX5_signAt 25 = .ok (.ireturn, 1) := by decide +kernel
theorem dX5_findFault_0 : decode cX5_findFault 0 = .ok (.iconst 0, 1) := by decide +kernel
theorem dX5_findFault_1 : decode cX5_findFault 1 = .ok (.istore_n 1, 1) := by decide +kernel
theorem dX5_findFault_2 : decode cX5_findFault 2 = .ok (.iconst 0, 1) := by decide +kernel
theorem dX5_findFault_3 : decode cX5_findFault 3 = .ok (.istore_n 2, 1) := by decide +kernel
theorem dX5_findFault_4 : decode cX5_findFault 4 = .ok (.iload_n 2, 1) := by decide +kernel
theorem dX5_findFault_5 : decode cX5_findFault 5 = .ok (.aload_n 0, 1) := by decide +kernel
theorem dX5_findFault_6 : decode cX5_findFault 6 = .ok (.getfield 15, 3) := by decide +kernel
theorem dX5_findFault_9 : decode cX5_findFault 9 = .ok (.if_icmp .ge 26, 3) := by decide +kernel
theorem dX5_findFault_12 : decode cX5_findFault 12 = .ok (.aload_n 0, 1) := by decide +kernel
theorem dX5_findFault_13 : decode cX5_findFault 13 = .ok (.iload_n 2, 1) := by decide +kernel
theorem dX5_findFault_14 : decode cX5_findFault 14 = .ok (.invokevirtual 23, 3) := by decide +kernel
theorem dX5_findFault_17 : decode cX5_findFault 17 = .ok (.iload_n 1, 1) := by decide +kernel
theorem dX5_findFault_18 : decode cX5_findFault 18 = .ok (.invokestatic 27, 3) := by decide +kernel
theorem dX5_findFault_21 : decode cX5_findFault 21 = .ok (.istore_n 1, 1) := by decide +kernel
theorem dX5_findFault_22 : decode cX5_findFault 22 = .ok (.iload_n 1, 1) := by decide +kernel
theorem dX5_findFault_23 : decode cX5_findFault 23 = .ok (.iconst 5, 1) := by decide +kernel
theorem dX5_findFault_24 : decode cX5_findFault 24 = .ok (.if_icmp .ne 5, 3) := by decide +kernel
theorem dX5_findFault_27 : decode cX5_findFault 27 = .ok (.iload_n 2, 1) := by decide +kernel
theorem dX5_findFault_28 : decode cX5_findFault 28 = .ok (.ireturn, 1) := by decide +kernel
theorem dX5_findFault_29 : decode cX5_findFault 29 = .ok (.iinc 2 1, 3) := by decide +kernel
theorem dX5_findFault_32 : decode cX5_findFault 32 = .ok (.goto (-28), 3) := by decide +kernel
theorem dX5_findFault_35 : decode cX5_findFault 35 = .ok (.iload_n 1, 1) := by decide +kernel
theorem dX5_findFault_36 : decode cX5_findFault 36 = .ok (.iconst 3, 1) := by decide +kernel
theorem dX5_findFault_37 : decode cX5_findFault 37 = .ok (.if_icmp .eq 8, 3) := by decide +kernel
theorem dX5_findFault_40 : decode cX5_findFault 40 = .ok (.iload_n 1, 1) := by decide +kernel
theorem dX5_findFault_41 : decode cX5_findFault 41 = .ok (.iconst 4, 1) := by decide +kernel
theorem dX5_findFault_42 : decode cX5_findFault 42 = .ok (.if_icmp .ne 8, 3) := by decide +kernel
theorem dX5_findFault_45 : decode cX5_findFault 45 = .ok (.bipush (-6), 2) := by decide +kernel
theorem dX5_findFault_47 : decode cX5_findFault 47 = .ok (.goto 7, 3) := by decide +kernel
theorem dX5_findFault_50 : decode cX5_findFault 50 = .ok (.aload_n 0, 1) := by decide +kernel
theorem dX5_findFault_51 : decode cX5_findFault 51 = .ok (.getfield 15, 3) := by decide +kernel
theorem dX5_findFault_54 : decode cX5_findFault 54 = .ok (.ireturn, 1) := by decide +kernel
theorem dX5_expectedBehind_0 : decode cX5_expectedBehind 0 = .ok (.iload_n 1, 1) := by decide +kernel
theorem dX5_expectedBehind_1 : decode cX5_expectedBehind 1 = .ok (.tableswitch 84 0 3 #[31, 36, 49, 68], 31) := by decide +kernel
theorem dX5_expectedBehind_32 : decode cX5_expectedBehind 32 = .ok (.iload_n 0, 1) := by decide +kernel
theorem dX5_expectedBehind_33 : decode cX5_expectedBehind 33 = .ok (.invokestatic 31, 3) := by decide +kernel
theorem dX5_expectedBehind_36 : decode cX5_expectedBehind 36 = .ok (.ireturn, 1) := by decide +kernel
theorem dX5_expectedBehind_37 : decode cX5_expectedBehind 37 = .ok (.iload_n 0, 1) := by decide +kernel
theorem dX5_expectedBehind_38 : decode cX5_expectedBehind 38 = .ok (.invokestatic 35, 3) := by decide +kernel
theorem dX5_expectedBehind_41 : decode cX5_expectedBehind 41 = .ok (.ifCond .eq 7, 3) := by decide +kernel
theorem dX5_expectedBehind_44 : decode cX5_expectedBehind 44 = .ok (.iconst 4, 1) := by decide +kernel
theorem dX5_expectedBehind_45 : decode cX5_expectedBehind 45 = .ok (.goto 4, 3) := by decide +kernel
theorem dX5_expectedBehind_48 : decode cX5_expectedBehind 48 = .ok (.iconst 5, 1) := by decide +kernel
theorem dX5_expectedBehind_49 : decode cX5_expectedBehind 49 = .ok (.ireturn, 1) := by decide +kernel
theorem dX5_expectedBehind_50 : decode cX5_expectedBehind 50 = .ok (.iload_n 0, 1) := by decide +kernel
theorem dX5_expectedBehind_51 : decode cX5_expectedBehind 51 = .ok (.invokestatic 35, 3) := by decide +kernel
theorem dX5_expectedBehind_54 : decode cX5_expectedBehind 54 = .ok (.ifCond .eq 13, 3) := by decide +kernel
theorem dX5_expectedBehind_57 : decode cX5_expectedBehind 57 = .ok (.iload_n 0, 1) := by decide +kernel
theorem dX5_expectedBehind_58 : decode cX5_expectedBehind 58 = .ok (.bipush 48, 2) := by decide +kernel
theorem dX5_expectedBehind_60 : decode cX5_expectedBehind 60 = .ok (.if_icmp .eq 7, 3) := by decide +kernel
theorem dX5_expectedBehind_63 : decode cX5_expectedBehind 63 = .ok (.iconst 3, 1) := by decide +kernel
theorem dX5_expectedBehind_64 : decode cX5_expectedBehind 64 = .ok (.goto 4, 3) := by decide +kernel
theorem dX5_expectedBehind_67 : decode cX5_expectedBehind 67 = .ok (.iconst 5, 1) := by decide +kernel
theorem dX5_expectedBehind_68 : decode cX5_expectedBehind 68 = .ok (.ireturn, 1) := by decide +kernel
theorem dX5_expectedBehind_69 : decode cX5_expectedBehind 69 = .ok (.iload_n 0, 1) := by decide +kernel
theorem dX5_expectedBehind_70 : decode cX5_expectedBehind 70 = .ok (.invokestatic 35, 3) := by decide +kernel
theorem dX5_expectedBehind_73 : decode cX5_expectedBehind 73 = .ok (.ifCond .eq 7, 3) := by decide +kernel
theorem dX5_expectedBehind_76 : decode cX5_expectedBehind 76 = .ok (.iconst 4, 1) := by decide +kernel
theorem dX5_expectedBehind_77 : decode cX5_expectedBehind 77 = .ok (.goto 7, 3) := by decide +kernel
theorem dX5_expectedBehind_80 : decode cX5_expectedBehind 80 = .ok (.iload_n 0, 1) := by decide +kernel
theorem dX5_expectedBehind_81 : decode cX5_expectedBehind 81 = .ok (.invokestatic 39, 3) := by decide +kernel
theorem dX5_expectedBehind_84 : decode cX5_expectedBehind 84 = .ok (.ireturn, 1) := by decide +kernel
theorem dX5_expectedBehind_85 : decode cX5_expectedBehind 85 = .ok (.iload_n 0, 1) := by decide +kernel
theorem dX5_expectedBehind_86 : decode cX5_expectedBehind 86 = .ok (.invokestatic 39, 3) := by decide +kernel
theorem dX5_expectedBehind_89 : decode cX5_expectedBehind 89 = .ok (.ireturn, 1) := by decide +kernel
theorem dX5_expectedBehindLetter_0 : decode cX5_expectedBehindLetter 0 = .ok (.iload_n 0, 1) := by decide +kernel
theorem dX5_expectedBehindLetter_1 : decode cX5_expectedBehindLetter 1 = .ok (.lookupswitch 49 #[(98, 43), (102, 43), (107, 45), (116, 47)], 43) := by decide +kernel
theorem dX5_expectedBehindLetter_44 : decode cX5_expectedBehindLetter 44 = .ok (.iconst 4, 1) := by decide +kernel
theorem dX5_expectedBehindLetter_45 : decode cX5_expectedBehindLetter 45 = .ok (.ireturn, 1) := by decide +kernel
theorem dX5_expectedBehindLetter_46 : decode cX5_expectedBehindLetter 46 = .ok (.iconst 1, 1) := by decide +kernel
theorem dX5_expectedBehindLetter_47 : decode cX5_expectedBehindLetter 47 = .ok (.ireturn, 1) := by decide +kernel
theorem dX5_expectedBehindLetter_48 : decode cX5_expectedBehindLetter 48 = .ok (.iconst 2, 1) := by decide +kernel
theorem dX5_expectedBehindLetter_49 : decode cX5_expectedBehindLetter 49 = .ok (.ireturn, 1) := by decide +kernel
theorem dX5_expectedBehindLetter_50 : decode cX5_expectedBehindLetter 50 = .ok (.iconst 5, 1) := by decide +kernel
theorem dX5_expectedBehindLetter_51 : decode cX5_expectedBehindLetter 51 = .ok (.ireturn, 1) := by decide +kernel
theorem dX5_expectedBehindMove_0 : decode cX5_expectedBehindMove 0 = .ok (.iload_n 0, 1) := by decide +kernel
theorem dX5_expectedBehindMove_1 : decode cX5_expectedBehindMove 1 = .ok (.bipush 59, 2) := by decide +kernel
theorem dX5_expectedBehindMove_3 : decode cX5_expectedBehindMove 3 = .ok (.if_icmp .ne 7, 3) := by decide +kernel
theorem dX5_expectedBehindMove_6 : decode cX5_expectedBehindMove 6 = .ok (.iconst 0, 1) := by decide +kernel
theorem dX5_expectedBehindMove_7 : decode cX5_expectedBehindMove 7 = .ok (.goto 4, 3) := by decide +kernel
theorem dX5_expectedBehindMove_10 : decode cX5_expectedBehindMove 10 = .ok (.iconst 5, 1) := by decide +kernel
theorem dX5_expectedBehindMove_11 : decode cX5_expectedBehindMove 11 = .ok (.ireturn, 1) := by decide +kernel
theorem dX5_isDigit_0 : decode cX5_isDigit 0 = .ok (.iload_n 0, 1) := by decide +kernel
theorem dX5_isDigit_1 : decode cX5_isDigit 1 = .ok (.bipush 48, 2) := by decide +kernel
theorem dX5_isDigit_3 : decode cX5_isDigit 3 = .ok (.if_icmp .lt 13, 3) := by decide +kernel
theorem dX5_isDigit_6 : decode cX5_isDigit 6 = .ok (.iload_n 0, 1) := by decide +kernel
theorem dX5_isDigit_7 : decode cX5_isDigit 7 = .ok (.bipush 57, 2) := by decide +kernel
theorem dX5_isDigit_9 : decode cX5_isDigit 9 = .ok (.if_icmp .gt 7, 3) := by decide +kernel
theorem dX5_isDigit_12 : decode cX5_isDigit 12 = .ok (.iconst 1, 1) := by decide +kernel
theorem dX5_isDigit_13 : decode cX5_isDigit 13 = .ok (.goto 4, 3) := by decide +kernel
theorem dX5_isDigit_16 : decode cX5_isDigit 16 = .ok (.iconst 0, 1) := by decide +kernel
theorem dX5_isDigit_17 : decode cX5_isDigit 17 = .ok (.ireturn, 1) := by decide +kernel
theorem dX5_isMove_0 : decode cX5_isMove 0 = .ok (.iload_n 0, 1) := by decide +kernel
theorem dX5_isMove_1 : decode cX5_isMove 1 = .ok (.invokestatic 31, 3) := by decide +kernel
theorem dX5_isMove_4 : decode cX5_isMove 4 = .ok (.iconst 5, 1) := by decide +kernel
theorem dX5_isMove_5 : decode cX5_isMove 5 = .ok (.if_icmp .eq 7, 3) := by decide +kernel
theorem dX5_isMove_8 : decode cX5_isMove 8 = .ok (.iconst 1, 1) := by decide +kernel
theorem dX5_isMove_9 : decode cX5_isMove 9 = .ok (.goto 4, 3) := by decide +kernel
theorem dX5_isMove_12 : decode cX5_isMove 12 = .ok (.iconst 0, 1) := by decide +kernel
theorem dX5_isMove_13 : decode cX5_isMove 13 = .ok (.ireturn, 1) := by decide +kernel
theorem dX5_numberBehind_0 : decode cX5_numberBehind 0 = .ok (.iconst 0, 1) := by decide +kernel
theorem dX5_numberBehind_1 : decode cX5_numberBehind 1 = .ok (.istore_n 2, 1) := by decide +kernel
theorem dX5_numberBehind_2 : decode cX5_numberBehind 2 = .ok (.iload_n 1, 1) := by decide +kernel
theorem dX5_numberBehind_3 : decode cX5_numberBehind 3 = .ok (.iconst 1, 1) := by decide +kernel
theorem dX5_numberBehind_4 : decode cX5_numberBehind 4 = .ok (.iadd, 1) := by decide +kernel
theorem dX5_numberBehind_5 : decode cX5_numberBehind 5 = .ok (.istore_n 3, 1) := by decide +kernel
theorem dX5_numberBehind_6 : decode cX5_numberBehind 6 = .ok (.iload_n 3, 1) := by decide +kernel
theorem dX5_numberBehind_7 : decode cX5_numberBehind 7 = .ok (.aload_n 0, 1) := by decide +kernel
theorem dX5_numberBehind_8 : decode cX5_numberBehind 8 = .ok (.getfield 15, 3) := by decide +kernel
theorem dX5_numberBehind_11 : decode cX5_numberBehind 11 = .ok (.if_icmp .ge 34, 3) := by decide +kernel
theorem dX5_numberBehind_14 : decode cX5_numberBehind 14 = .ok (.aload_n 0, 1) := by decide +kernel
theorem dX5_numberBehind_15 : decode cX5_numberBehind 15 = .ok (.iload_n 3, 1) := by decide +kernel
theorem dX5_numberBehind_16 : decode cX5_numberBehind 16 = .ok (.invokevirtual 23, 3) := by decide +kernel
theorem dX5_numberBehind_19 : decode cX5_numberBehind 19 = .ok (.invokestatic 35, 3) := by decide +kernel
theorem dX5_numberBehind_22 : decode cX5_numberBehind 22 = .ok (.ifCond .eq 23, 3) := by decide +kernel
theorem dX5_numberBehind_25 : decode cX5_numberBehind 25 = .ok (.iload_n 2, 1) := by decide +kernel
theorem dX5_numberBehind_26 : decode cX5_numberBehind 26 = .ok (.bipush 10, 2) := by decide +kernel
theorem dX5_numberBehind_28 : decode cX5_numberBehind 28 = .ok (.imul, 1) := by decide +kernel
theorem dX5_numberBehind_29 : decode cX5_numberBehind 29 = .ok (.aload_n 0, 1) := by decide +kernel
theorem dX5_numberBehind_30 : decode cX5_numberBehind 30 = .ok (.iload_n 3, 1) := by decide +kernel
theorem dX5_numberBehind_31 : decode cX5_numberBehind 31 = .ok (.invokevirtual 23, 3) := by decide +kernel
theorem dX5_numberBehind_34 : decode cX5_numberBehind 34 = .ok (.bipush 48, 2) := by decide +kernel
theorem dX5_numberBehind_36 : decode cX5_numberBehind 36 = .ok (.isub, 1) := by decide +kernel
theorem dX5_numberBehind_37 : decode cX5_numberBehind 37 = .ok (.iadd, 1) := by decide +kernel
theorem dX5_numberBehind_38 : decode cX5_numberBehind 38 = .ok (.istore_n 2, 1) := by decide +kernel
theorem dX5_numberBehind_39 : decode cX5_numberBehind 39 = .ok (.iinc 3 1, 3) := by decide +kernel
theorem dX5_numberBehind_42 : decode cX5_numberBehind 42 = .ok (.goto (-36), 3) := by decide +kernel
theorem dX5_numberBehind_45 : decode cX5_numberBehind 45 = .ok (.iload_n 2, 1) := by decide +kernel
theorem dX5_numberBehind_46 : decode cX5_numberBehind 46 = .ok (.ireturn, 1) := by decide +kernel
theorem dX6_init_0 : decode cX6_init 0 = .ok (.aload_n 0, 1) := by decide +kernel
theorem dX6_init_1 : decode cX6_init 1 = .ok (.invokespecial 3, 3) := by decide +kernel
theorem dX6_init_4 : decode cX6_init 4 = .ok (.aload_n 0, 1) := by decide +kernel
theorem dX6_init_5 : decode cX6_init 5 = .ok (.iconst (-1), 1) := by decide +kernel
theorem dX6_init_6 : decode cX6_init 6 = .ok (.putfield 9, 3) := by decide +kernel
theorem dX6_init_9 : decode cX6_init 9 = .ok (.aload_n 0, 1) := by decide +kernel
theorem dX6_init_10 : decode cX6_init 10 = .ok (.bipush 40, 2) := by decide +kernel
theorem dX6_init_12 : decode cX6_init 12 = .ok (.newarray .int, 2) := by decide +kernel
theorem dX6_init_14 : decode cX6_init 14 = .ok (.putfield 15, 3) := by decide +kernel
theorem dX6_init_17 : decode cX6_init 17 = .ok (.aload_n 0, 1) := by decide +kernel
theorem dX6_init_18 : decode cX6_init 18 = .ok (.bipush 40, 2) := by decide +kernel
theorem dX6_init_20 : decode cX6_init 20 = .ok (.newarray .int, 2) := by decide +kernel
theorem dX6_init_22 : decode cX6_init 22 = .ok (.putfield 19, 3) := by decide +kernel
theorem dX6_init_25 : decode cX6_init 25 = .ok (.aload_n 0, 1) := by decide +kernel
theorem dX6_init_26 : decode cX6_init 26 = .ok (.bipush 40, 2) := by decide +kernel
theorem dX6_init_28 : decode cX6_init 28 = .ok (.newarray .int, 2) := by decide +kernel
theorem dX6_init_30 : decode cX6_init 30 = .ok (.putfield 22, 3) := by decide +kernel
theorem dX6_init_33 : decode cX6_init 33 = .ok (.return_, 1) := by decide +kernel
theorem dX6_copyFrom_0 : decode cX6_copyFrom 0 = .ok (.aload_n 0, 1) := by decide +kernel
theorem dX6_copyFrom_1 : decode cX6_copyFrom 1 = .ok (.aload_n 1, 1) := by decide +kernel
theorem dX6_copyFrom_2 : decode cX6_copyFrom 2 = .ok (.getfield 9, 3) := by decide +kernel
theorem dX6_copyFrom_5 : decode cX6_copyFrom 5 = .ok (.putfield 9, 3) := by decide +kernel
theorem dX6_copyFrom_8 : decode cX6_copyFrom 8 = .ok (.aload_n 0, 1) := by decide +kernel
theorem dX6_copyFrom_9 : decode cX6_copyFrom 9 = .ok (.aload_n 1, 1) := by decide +kernel
theorem dX6_copyFrom_10 : decode cX6_copyFrom 10 = .ok (.getfield 25, 3) := by decide +kernel
theorem dX6_copyFrom_13 : decode cX6_copyFrom 13 = .ok (.putfield 25, 3) := by decide +kernel
theorem dX6_copyFrom_16 : decode cX6_copyFrom 16 = .ok (.aload_n 0, 1) := by decide +kernel
theorem dX6_copyFrom_17 : decode cX6_copyFrom 17 = .ok (.aload_n 1, 1) := by decide +kernel
theorem dX6_copyFrom_18 : decode cX6_copyFrom 18 = .ok (.getfield 28, 3) := by decide +kernel
theorem dX6_copyFrom_21 : decode cX6_copyFrom 21 = .ok (.putfield 28, 3) := by decide +kernel
theorem dX6_copyFrom_24 : decode cX6_copyFrom 24 = .ok (.aload_n 0, 1) := by decide +kernel
theorem dX6_copyFrom_25 : decode cX6_copyFrom 25 = .ok (.aload_n 1, 1) := by decide +kernel
theorem dX6_copyFrom_26 : decode cX6_copyFrom 26 = .ok (.getfield 31, 3) := by decide +kernel
theorem dX6_copyFrom_29 : decode cX6_copyFrom 29 = .ok (.putfield 31, 3) := by decide +kernel
theorem dX6_copyFrom_32 : decode cX6_copyFrom 32 = .ok (.aload_n 0, 1) := by decide +kernel
theorem dX6_copyFrom_33 : decode cX6_copyFrom 33 = .ok (.aload_n 1, 1) := by decide +kernel
theorem dX6_copyFrom_34 : decode cX6_copyFrom 34 = .ok (.getfield 34, 3) := by decide +kernel
theorem dX6_copyFrom_37 : decode cX6_copyFrom 37 = .ok (.putfield 34, 3) := by decide +kernel
theorem dX6_copyFrom_40 : decode cX6_copyFrom 40 = .ok (.aload_n 0, 1) := by decide +kernel
theorem dX6_copyFrom_41 : decode cX6_copyFrom 41 = .ok (.aload_n 1, 1) := by decide +kernel
theorem dX6_copyFrom_42 : decode cX6_copyFrom 42 = .ok (.getfield 37, 3) := by decide +kernel
theorem dX6_copyFrom_45 : decode cX6_copyFrom 45 = .ok (.putfield 37, 3) := by decide +kernel
theorem dX6_copyFrom_48 : decode cX6_copyFrom 48 = .ok (.aload_n 1, 1) := by decide +kernel
theorem dX6_copyFrom_49 : decode cX6_copyFrom 49 = .ok (.getfield 15, 3) := by decide +kernel
theorem dX6_copyFrom_52 : decode cX6_copyFrom 52 = .ok (.iconst 0, 1) := by decide +kernel
theorem dX6_copyFrom_53 : decode cX6_copyFrom 53 = .ok (.aload_n 0, 1) := by decide +kernel
theorem dX6_copyFrom_54 : decode cX6_copyFrom 54 = .ok (.getfield 15, 3) := by decide +kernel
theorem dX6_copyFrom_57 : decode cX6_copyFrom 57 = .ok (.iconst 0, 1) := by decide +kernel
theorem dX6_copyFrom_58 : decode cX6_copyFrom 58 = .ok (.bipush 40, 2) := by decide +kernel
theorem dX6_copyFrom_60 : decode cX6_copyFrom 60 = .ok (.invokestatic 40, 3) := by decide +kernel
theorem dX6_copyFrom_63 : decode cX6_copyFrom 63 = .ok (.aload_n 1, 1) := by decide +kernel
theorem dX6_copyFrom_64 : decode cX6_copyFrom 64 = .ok (.getfield 19, 3) := by decide +kernel
theorem dX6_copyFrom_67 : decode cX6_copyFrom 67 = .ok (.iconst 0, 1) := by decide +kernel
theorem dX6_copyFrom_68 : decode cX6_copyFrom 68 = .ok (.aload_n 0, 1) := by decide +kernel
theorem dX6_copyFrom_69 : decode cX6_copyFrom 69 = .ok (.getfield 19, 3) := by decide +kernel
theorem dX6_copyFrom_72 : decode cX6_copyFrom 72 = .ok (.iconst 0, 1) := by decide +kernel
theorem dX6_copyFrom_73 : decode cX6_copyFrom 73 = .ok (.bipush 40, 2) := by decide +kernel
theorem dX6_copyFrom_75 : decode cX6_copyFrom 75 = .ok (.invokestatic 40, 3) := by decide +kernel
theorem dX6_copyFrom_78 : decode cX6_copyFrom 78 = .ok (.aload_n 1, 1) := by decide +kernel
theorem dX6_copyFrom_79 : decode cX6_copyFrom 79 = .ok (.getfield 22, 3) := by decide +kernel
theorem dX6_copyFrom_82 : decode cX6_copyFrom 82 = .ok (.iconst 0, 1) := by decide +kernel
theorem dX6_copyFrom_83 : decode cX6_copyFrom 83 = .ok (.aload_n 0, 1) := by decide +kernel
theorem dX6_copyFrom_84 : decode cX6_copyFrom 84 = .ok (.getfield 22, 3) := by decide +kernel
theorem dX6_copyFrom_87 : decode cX6_copyFrom 87 = .ok (.iconst 0, 1) := by decide +kernel
theorem dX6_copyFrom_88 : decode cX6_copyFrom 88 = .ok (.bipush 40, 2) := by decide +kernel
theorem dX6_copyFrom_90 : decode cX6_copyFrom 90 = .ok (.invokestatic 40, 3) := by decide +kernel
theorem dX6_copyFrom_93 : decode cX6_copyFrom 93 = .ok (.return_, 1) := by decide +kernel
theorem dX6_begin_0 : decode cX6_begin 0 = .ok (.aload_n 0, 1) := by decide +kernel
theorem dX6_begin_1 : decode cX6_begin 1 = .ok (.invokevirtual 46, 3) := by decide +kernel
theorem dX6_begin_4 : decode cX6_begin 4 = .ok (.aload_n 0, 1) := by decide +kernel
theorem dX6_begin_5 : decode cX6_begin 5 = .ok (.iload_n 1, 1) := by decide +kernel
theorem dX6_begin_6 : decode cX6_begin 6 = .ok (.putfield 9, 3) := by decide +kernel
theorem dX6_begin_9 : decode cX6_begin 9 = .ok (.return_, 1) := by decide +kernel
theorem dX6_clear_0 : decode cX6_clear 0 = .ok (.aload_n 0, 1) := by decide +kernel
theorem dX6_clear_1 : decode cX6_clear 1 = .ok (.iconst (-1), 1) := by decide +kernel
theorem dX6_clear_2 : decode cX6_clear 2 = .ok (.putfield 9, 3) := by decide +kernel
theorem dX6_clear_5 : decode cX6_clear 5 = .ok (.aload_n 0, 1) := by decide +kernel
theorem dX6_clear_6 : decode cX6_clear 6 = .ok (.iconst 0, 1) := by decide +kernel
theorem dX6_clear_7 : decode cX6_clear 7 = .ok (.putfield 25, 3) := by decide +kernel
theorem dX6_clear_10 : decode cX6_clear 10 = .ok (.aload_n 0, 1) := by decide +kernel
theorem dX6_clear_11 : decode cX6_clear 11 = .ok (.iconst 0, 1) := by decide +kernel
theorem dX6_clear_12 : decode cX6_clear 12 = .ok (.putfield 28, 3) := by decide +kernel
theorem dX6_clear_15 : decode cX6_clear 15 = .ok (.aload_n 0, 1) := by decide +kernel
theorem dX6_clear_16 : decode cX6_clear 16 = .ok (.iconst 0, 1) := by decide +kernel
theorem dX6_clear_17 : decode cX6_clear 17 = .ok (.putfield 31, 3) := by decide +kernel
theorem dX6_clear_20 : decode cX6_clear 20 = .ok (.aload_n 0, 1) := by decide +kernel
theorem dX6_clear_21 : decode cX6_clear 21 = .ok (.iconst 0, 1) := by decide +kernel
theorem dX6_clear_22 : decode cX6_clear 22 = .ok (.putfield 34, 3) := by decide +kernel
theorem dX6_clear_25 : decode cX6_clear 25 = .ok (.aload_n 0, 1) := by decide +kernel
theorem dX6_clear_26 : decode cX6_clear 26 = .ok (.iconst 0, 1) := by decide +kernel
theorem dX6_clear_27 : decode cX6_clear 27 = .ok (.putfield 37, 3) := by decide +kernel
theorem dX6_clear_30 : decode cX6_clear 30 = .ok (.return_, 1) := by decide +kernel
theorem dX6_moveTo_0 : decode cX6_moveTo 0 = .ok (.aload_n 0, 1) := by decide +kernel
theorem dX6_moveTo_1 : decode cX6_moveTo 1 = .ok (.getfield 37, 3) := by decide +kernel
theorem dX6_moveTo_4 : decode cX6_moveTo 4 = .ok (.bipush 40, 2) := by decide +kernel
theorem dX6_moveTo_6 : decode cX6_moveTo 6 = .ok (.if_icmp .lt 7, 3) := by decide +kernel
theorem dX6_moveTo_9 : decode cX6_moveTo 9 = .ok (.aload_n 0, 1) := by decide +kernel
theorem dX6_moveTo_10 : decode cX6_moveTo 10 = .ok (.invokevirtual 49, 3) := by decide +kernel
theorem dX6_moveTo_13 : decode cX6_moveTo 13 = .ok (.aload_n 0, 1) := by decide +kernel
theorem dX6_moveTo_14 : decode cX6_moveTo 14 = .ok (.getfield 15, 3) := by decide +kernel
theorem dX6_moveTo_17 : decode cX6_moveTo 17 = .ok (.aload_n 0, 1) := by decide +kernel
theorem dX6_moveTo_18 : decode cX6_moveTo 18 = .ok (.getfield 37, 3) := by decide +kernel
theorem dX6_moveTo_21 : decode cX6_moveTo 21 = .ok (.aload_n 0, 1) := by decide +kernel
theorem dX6_moveTo_22 : decode cX6_moveTo 22 = .ok (.getfield 9, 3) := by decide +kernel
theorem dX6_moveTo_25 : decode cX6_moveTo 25 = .ok (.iastore, 1) := by decide +kernel
theorem dX6_moveTo_26 : decode cX6_moveTo 26 = .ok (.aload_n 0, 1) := by decide +kernel
theorem dX6_moveTo_27 : decode cX6_moveTo 27 = .ok (.getfield 19, 3) := by decide +kernel
theorem dX6_moveTo_30 : decode cX6_moveTo 30 = .ok (.aload_n 0, 1) := by decide +kernel
theorem dX6_moveTo_31 : decode cX6_moveTo 31 = .ok (.getfield 37, 3) := by decide +kernel
theorem dX6_moveTo_34 : decode cX6_moveTo 34 = .ok (.aload_n 0, 1) := by decide +kernel
theorem dX6_moveTo_35 : decode cX6_moveTo 35 = .ok (.getfield 25, 3) := by decide +kernel
theorem dX6_moveTo_38 : decode cX6_moveTo 38 = .ok (.iastore, 1) := by decide +kernel
theorem dX6_moveTo_39 : decode cX6_moveTo 39 = .ok (.aload_n 0, 1) := by decide +kernel
theorem dX6_moveTo_40 : decode cX6_moveTo 40 = .ok (.getfield 22, 3) := by decide +kernel
theorem dX6_moveTo_43 : decode cX6_moveTo 43 = .ok (.aload_n 0, 1) := by decide +kernel
theorem dX6_moveTo_44 : decode cX6_moveTo 44 = .ok (.getfield 37, 3) := by decide +kernel
theorem dX6_moveTo_47 : decode cX6_moveTo 47 = .ok (.aload_n 0, 1) := by decide +kernel
theorem dX6_moveTo_48 : decode cX6_moveTo 48 = .ok (.getfield 28, 3) := by decide +kernel
theorem dX6_moveTo_51 : decode cX6_moveTo 51 = .ok (.iastore, 1) := by decide +kernel
theorem dX6_moveTo_52 : decode cX6_moveTo 52 = .ok (.aload_n 0, 1) := by decide +kernel
theorem dX6_moveTo_53 : decode cX6_moveTo 53 = .ok (.dup, 1) := by decide +kernel
theorem dX6_moveTo_54 : decode cX6_moveTo 54 = .ok (.getfield 37, 3) := by decide +kernel
theorem dX6_moveTo_57 : decode cX6_moveTo 57 = .ok (.iconst 1, 1) := by decide +kernel
theorem dX6_moveTo_58 : decode cX6_moveTo 58 = .ok (.iadd, 1) := by decide +kernel
theorem dX6_moveTo_59 : decode cX6_moveTo 59 = .ok (.putfield 37, 3) := by decide +kernel
theorem dX6_moveTo_62 : decode cX6_moveTo 62 = .ok (.aload_n 0, 1) := by decide +kernel
theorem dX6_moveTo_63 : decode cX6_moveTo 63 = .ok (.iload_n 1, 1) := by decide +kernel
theorem dX6_moveTo_64 : decode cX6_moveTo 64 = .ok (.putfield 9, 3) := by decide +kernel
theorem dX6_moveTo_67 : decode cX6_moveTo 67 = .ok (.aload_n 0, 1) := by decide +kernel
theorem dX6_moveTo_68 : decode cX6_moveTo 68 = .ok (.iload_n 2, 1) := by decide +kernel
theorem dX6_moveTo_69 : decode cX6_moveTo 69 = .ok (.putfield 25, 3) := by decide +kernel
theorem dX6_moveTo_72 : decode cX6_moveTo 72 = .ok (.aload_n 0, 1) := by decide +kernel
theorem dX6_moveTo_73 : decode cX6_moveTo 73 = .ok (.iload_n 3, 1) := by decide +kernel
theorem dX6_moveTo_74 : decode cX6_moveTo 74 = .ok (.putfield 28, 3) := by decide +kernel
theorem dX6_moveTo_77 : decode cX6_moveTo 77 = .ok (.aload_n 0, 1) := by decide +kernel
theorem dX6_moveTo_78 : decode cX6_moveTo 78 = .ok (.iconst 0, 1) := by decide +kernel
theorem dX6_moveTo_79 : decode cX6_moveTo 79 = .ok (.putfield 34, 3) := by decide +kernel
theorem dX6_moveTo_82 : decode cX6_moveTo 82 = .ok (.return_, 1) := by decide +kernel
theorem dX6_dropOldest_0 : decode cX6_dropOldest 0 = .ok (.aload_n 0, 1) := by decide +kernel
theorem dX6_dropOldest_1 : decode cX6_dropOldest 1 = .ok (.bipush 39, 2) := by decide +kernel
theorem dX6_dropOldest_3 : decode cX6_dropOldest 3 = .ok (.putfield 37, 3) := by decide +kernel
theorem dX6_dropOldest_6 : decode cX6_dropOldest 6 = .ok (.iconst 0, 1) := by decide +kernel
theorem dX6_dropOldest_7 : decode cX6_dropOldest 7 = .ok (.istore_n 1, 1) := by decide +kernel
theorem dX6_dropOldest_8 : decode cX6_dropOldest 8 = .ok (.iload_n 1, 1) := by decide +kernel
theorem dX6_dropOldest_9 : decode cX6_dropOldest 9 = .ok (.aload_n 0, 1) := by decide +kernel
theorem dX6_dropOldest_10 : decode cX6_dropOldest 10 = .ok (.getfield 37, 3) := by decide +kernel
theorem dX6_dropOldest_13 : decode cX6_dropOldest 13 = .ok (.if_icmp .ge 51, 3) := by decide +kernel
theorem dX6_dropOldest_16 : decode cX6_dropOldest 16 = .ok (.aload_n 0, 1) := by decide +kernel
theorem dX6_dropOldest_17 : decode cX6_dropOldest 17 = .ok (.getfield 15, 3) := by decide +kernel
theorem dX6_dropOldest_20 : decode cX6_dropOldest 20 = .ok (.iload_n 1, 1) := by decide +kernel
theorem dX6_dropOldest_21 : decode cX6_dropOldest 21 = .ok (.aload_n 0, 1) := by decide +kernel
theorem dX6_dropOldest_22 : decode cX6_dropOldest 22 = .ok (.getfield 15, 3) := by decide +kernel
theorem dX6_dropOldest_25 : decode cX6_dropOldest 25 = .ok (.iload_n 1, 1) := by decide +kernel
theorem dX6_dropOldest_26 : decode cX6_dropOldest 26 = .ok (.iconst 1, 1) := by decide +kernel
theorem dX6_dropOldest_27 : decode cX6_dropOldest 27 = .ok (.iadd, 1) := by decide +kernel
theorem dX6_dropOldest_28 : decode cX6_dropOldest 28 = .ok (.iaload, 1) := by decide +kernel
theorem dX6_dropOldest_29 : decode cX6_dropOldest 29 = .ok (.iastore, 1) := by decide +kernel
theorem dX6_dropOldest_30 : decode cX6_dropOldest 30 = .ok (.aload_n 0, 1) := by decide +kernel
theorem dX6_dropOldest_31 : decode cX6_dropOldest 31 = .ok (.getfield 19, 3) := by decide +kernel
theorem dX6_dropOldest_34 : decode cX6_dropOldest 34 = .ok (.iload_n 1, 1) := by decide +kernel
theorem dX6_dropOldest_35 : decode cX6_dropOldest 35 = .ok (.aload_n 0, 1) := by decide +kernel
theorem dX6_dropOldest_36 : decode cX6_dropOldest 36 = .ok (.getfield 19, 3) := by decide +kernel
theorem dX6_dropOldest_39 : decode cX6_dropOldest 39 = .ok (.iload_n 1, 1) := by decide +kernel
theorem dX6_dropOldest_40 : decode cX6_dropOldest 40 = .ok (.iconst 1, 1) := by decide +kernel
theorem dX6_dropOldest_41 : decode cX6_dropOldest 41 = .ok (.iadd, 1) := by decide +kernel
theorem dX6_dropOldest_42 : decode cX6_dropOldest 42 = .ok (.iaload, 1) := by decide +kernel
theorem dX6_dropOldest_43 : decode cX6_dropOldest 43 = .ok (.iastore, 1) := by decide +kernel
theorem dX6_dropOldest_44 : decode cX6_dropOldest 44 = .ok (.aload_n 0, 1) := by decide +kernel
theorem dX6_dropOldest_45 : decode cX6_dropOldest 45 = .ok (.getfield 22, 3) := by decide +kernel
theorem dX6_dropOldest_48 : decode cX6_dropOldest 48 = .ok (.iload_n 1, 1) := by decide +kernel
theorem dX6_dropOldest_49 : decode cX6_dropOldest 49 = .ok (.aload_n 0, 1) := by decide +kernel
theorem dX6_dropOldest_50 : decode cX6_dropOldest 50 = .ok (.getfield 22, 3) := by decide +kernel
theorem dX6_dropOldest_53 : decode cX6_dropOldest 53 = .ok (.iload_n 1, 1) := by decide +kernel
theorem dX6_dropOldest_54 : decode cX6_dropOldest 54 = .ok (.iconst 1, 1) := by decide +kernel
theorem dX6_dropOldest_55 : decode cX6_dropOldest 55 = .ok (.iadd, 1) := by decide +kernel
theorem dX6_dropOldest_56 : decode cX6_dropOldest 56 = .ok (.iaload, 1) := by decide +kernel
theorem dX6_dropOldest_57 : decode cX6_dropOldest 57 = .ok (.iastore, 1) := by decide +kernel
theorem dX6_dropOldest_58 : decode cX6_dropOldest 58 = .ok (.iinc 1 1, 3) := by decide +kernel
theorem dX6_dropOldest_61 : decode cX6_dropOldest 61 = .ok (.goto (-53), 3) := by decide +kernel
theorem dX6_dropOldest_64 : decode cX6_dropOldest 64 = .ok (.return_, 1) := by decide +kernel
theorem dX6_returnTo_0 : decode cX6_returnTo 0 = .ok (.iload_n 1, 1) := by decide +kernel
theorem dX6_returnTo_1 : decode cX6_returnTo 1 = .ok (.iconst 0, 1) := by decide +kernel
theorem dX6_returnTo_2 : decode cX6_returnTo 2 = .ok (.aload_n 0, 1) := by decide +kernel
theorem dX6_returnTo_3 : decode cX6_returnTo 3 = .ok (.getfield 37, 3) := by decide +kernel
theorem dX6_returnTo_6 : decode cX6_returnTo 6 = .ok (.iconst 1, 1) := by decide +kernel
theorem dX6_returnTo_7 : decode cX6_returnTo 7 = .ok (.isub, 1) := by decide +kernel
theorem dX6_returnTo_8 : decode cX6_returnTo 8 = .ok (.invokestatic 52, 3) := by decide +kernel
theorem dX6_returnTo_11 : decode cX6_returnTo 11 = .ok (.ifCond .ne 4, 3) := by decide +kernel
theorem dX6_returnTo_14 : decode cX6_returnTo 14 = .ok (.return_, 1) := by decide +kernel
theorem dX6_returnTo_15 : decode cX6_returnTo 15 = .ok (.aload_n 0, 1) := by decide +kernel
theorem dX6_returnTo_16 : decode cX6_returnTo 16 = .ok (.aload_n 0, 1) := by decide +kernel
theorem dX6_returnTo_17 : decode cX6_returnTo 17 = .ok (.getfield 15, 3) := by decide +kernel
theorem dX6_returnTo_20 : decode cX6_returnTo 20 = .ok (.iload_n 1, 1) := by decide +kernel
theorem dX6_returnTo_21 : decode cX6_returnTo 21 = .ok (.iaload, 1) := by decide +kernel
theorem dX6_returnTo_22 : decode cX6_returnTo 22 = .ok (.putfield 9, 3) := by decide +kernel
theorem dX6_returnTo_25 : decode cX6_returnTo 25 = .ok (.aload_n 0, 1) := by decide +kernel
theorem dX6_returnTo_26 : decode cX6_returnTo 26 = .ok (.aload_n 0, 1) := by decide +kernel
theorem dX6_returnTo_27 : decode cX6_returnTo 27 = .ok (.getfield 19, 3) := by decide +kernel
theorem dX6_returnTo_30 : decode cX6_returnTo 30 = .ok (.iload_n 1, 1) := by decide +kernel
theorem dX6_returnTo_31 : decode cX6_returnTo 31 = .ok (.iaload, 1) := by decide +kernel
theorem dX6_returnTo_32 : decode cX6_returnTo 32 = .ok (.putfield 25, 3) := by decide +kernel
theorem dX6_returnTo_35 : decode cX6_returnTo 35 = .ok (.aload_n 0, 1) := by decide +kernel
theorem dX6_returnTo_36 : decode cX6_returnTo 36 = .ok (.aload_n 0, 1) := by decide +kernel
theorem dX6_returnTo_37 : decode cX6_returnTo 37 = .ok (.getfield 22, 3) := by decide +kernel
theorem dX6_returnTo_40 : decode cX6_returnTo 40 = .ok (.iload_n 1, 1) := by decide +kernel
theorem dX6_returnTo_41 : decode cX6_returnTo 41 = .ok (.iaload, 1) := by decide +kernel
theorem dX6_returnTo_42 : decode cX6_returnTo 42 = .ok (.putfield 28, 3) := by decide +kernel
theorem dX6_returnTo_45 : decode cX6_returnTo 45 = .ok (.aload_n 0, 1) := by decide +kernel
theorem dX6_returnTo_46 : decode cX6_returnTo 46 = .ok (.iconst 0, 1) := by decide +kernel
theorem dX6_returnTo_47 : decode cX6_returnTo 47 = .ok (.putfield 34, 3) := by decide +kernel
theorem dX6_returnTo_50 : decode cX6_returnTo 50 = .ok (.aload_n 0, 1) := by decide +kernel
theorem dX6_returnTo_51 : decode cX6_returnTo 51 = .ok (.iload_n 1, 1) := by decide +kernel
theorem dX6_returnTo_52 : decode cX6_returnTo 52 = .ok (.putfield 37, 3) := by decide +kernel
theorem dX6_returnTo_55 : decode cX6_returnTo 55 = .ok (.return_, 1) := by decide +kernel
theorem dX6_trailValue_0 : decode cX6_trailValue 0 = .ok (.iload_n 1, 1) := by decide +kernel
theorem dX6_trailValue_1 : decode cX6_trailValue 1 = .ok (.iconst 0, 1) := by decide +kernel
theorem dX6_trailValue_2 : decode cX6_trailValue 2 = .ok (.aload_n 0, 1) := by decide +kernel
theorem dX6_trailValue_3 : decode cX6_trailValue 3 = .ok (.getfield 37, 3) := by decide +kernel
theorem dX6_trailValue_6 : decode cX6_trailValue 6 = .ok (.iconst 1, 1) := by decide +kernel
theorem dX6_trailValue_7 : decode cX6_trailValue 7 = .ok (.isub, 1) := by decide +kernel
theorem dX6_trailValue_8 : decode cX6_trailValue 8 = .ok (.invokestatic 52, 3) := by decide +kernel
theorem dX6_trailValue_11 : decode cX6_trailValue 11 = .ok (.ifCond .ne 6, 3) := by decide +kernel
theorem dX6_trailValue_14 : decode cX6_trailValue 14 = .ok (.bipush (-6), 2) := by decide +kernel
theorem dX6_trailValue_16 : decode cX6_trailValue 16 = .ok (.ireturn, 1) := by decide +kernel
theorem dX6_trailValue_17 : decode cX6_trailValue 17 = .ok (.iload_n 2, 1) := by decide +kernel
theorem dX6_trailValue_18 : decode cX6_trailValue 18 = .ok (.lookupswitch 40 #[(0, 26), (1, 33)], 26) := by decide +kernel
theorem dX6_trailValue_44 : decode cX6_trailValue 44 = .ok (.aload_n 0, 1) := by decide +kernel
theorem dX6_trailValue_45 : decode cX6_trailValue 45 = .ok (.getfield 15, 3) := by decide +kernel
theorem dX6_trailValue_48 : decode cX6_trailValue 48 = .ok (.iload_n 1, 1) := by decide +kernel
theorem dX6_trailValue_49 : decode cX6_trailValue 49 = .ok (.iaload, 1) := by decide +kernel
theorem dX6_trailValue_50 : decode cX6_trailValue 50 = .ok (.ireturn, 1) := by decide +kernel
theorem dX6_trailValue_51 : decode cX6_trailValue 51 = .ok (.aload_n 0, 1) := by decide +kernel
theorem dX6_trailValue_52 : decode cX6_trailValue 52 = .ok (.getfield 19, 3) := by decide +kernel
theorem dX6_trailValue_55 : decode cX6_trailValue 55 = .ok (.iload_n 1, 1) := by decide +kernel
theorem dX6_trailValue_56 : decode cX6_trailValue 56 = .ok (.iaload, 1) := by decide +kernel
theorem dX6_trailValue_57 : decode cX6_trailValue 57 = .ok (.ireturn, 1) := by decide +kernel
theorem dX6_trailValue_58 : decode cX6_trailValue 58 = .ok (.aload_n 0, 1) := by decide +kernel
theorem dX6_trailValue_59 : decode cX6_trailValue 59 = .ok (.getfield 22, 3) := by decide +kernel
theorem dX6_trailValue_62 : decode cX6_trailValue 62 = .ok (.iload_n 1, 1) := by decide +kernel
theorem dX6_trailValue_63 : decode cX6_trailValue 63 = .ok (.iaload, 1) := by decide +kernel
theorem dX6_trailValue_64 : decode cX6_trailValue 64 = .ok (.ireturn, 1) := by decide +kernel
theorem dX7_init_0 : decode cX7_init 0 = .ok (.aload_n 0, 1) := by decide +kernel
theorem dX7_init_1 : decode cX7_init 1 = .ok (.invokespecial 3, 3) := by decide +kernel
theorem dX7_init_4 : decode cX7_init 4 = .ok (.aload_n 0, 1) := by decide +kernel
theorem dX7_init_5 : decode cX7_init 5 = .ok (.bipush 6, 2) := by decide +kernel
theorem dX7_init_7 : decode cX7_init 7 = .ok (.newarray .int, 2) := by decide +kernel
theorem dX7_init_9 : decode cX7_init 9 = .ok (.putfield 9, 3) := by decide +kernel
theorem dX7_init_12 : decode cX7_init 12 = .ok (.aload_n 0, 1) := by decide +kernel
theorem dX7_init_13 : decode cX7_init 13 = .ok (.bipush 6, 2) := by decide +kernel
theorem dX7_init_15 : decode cX7_init 15 = .ok (.newarray .int, 2) := by decide +kernel
theorem dX7_init_17 : decode cX7_init 17 = .ok (.putfield 15, 3) := by decide +kernel
theorem dX7_init_20 : decode cX7_init 20 = .ok (.aload_n 0, 1) := by decide +kernel
theorem dX7_init_21 : decode cX7_init 21 = .ok (.bipush 6, 2) := by decide +kernel
theorem dX7_init_23 : decode cX7_init 23 = .ok (.newarray .int, 2) := by decide +kernel
theorem dX7_init_25 : decode cX7_init 25 = .ok (.putfield 18, 3) := by decide +kernel
theorem dX7_init_28 : decode cX7_init 28 = .ok (.aload_n 0, 1) := by decide +kernel
theorem dX7_init_29 : decode cX7_init 29 = .ok (.bipush 10, 2) := by decide +kernel
theorem dX7_init_31 : decode cX7_init 31 = .ok (.newarray .int, 2) := by decide +kernel
theorem dX7_init_33 : decode cX7_init 33 = .ok (.putfield 21, 3) := by decide +kernel
theorem dX7_init_36 : decode cX7_init 36 = .ok (.return_, 1) := by decide +kernel
theorem dX7_clear_0 : decode cX7_clear 0 = .ok (.aload_n 0, 1) := by decide +kernel
theorem dX7_clear_1 : decode cX7_clear 1 = .ok (.iconst 0, 1) := by decide +kernel
theorem dX7_clear_2 : decode cX7_clear 2 = .ok (.putfield 24, 3) := by decide +kernel
theorem dX7_clear_5 : decode cX7_clear 5 = .ok (.aload_n 0, 1) := by decide +kernel
theorem dX7_clear_6 : decode cX7_clear 6 = .ok (.iconst 0, 1) := by decide +kernel
theorem dX7_clear_7 : decode cX7_clear 7 = .ok (.putfield 28, 3) := by decide +kernel
theorem dX7_clear_10 : decode cX7_clear 10 = .ok (.aload_n 0, 1) := by decide +kernel
theorem dX7_clear_11 : decode cX7_clear 11 = .ok (.iconst 0, 1) := by decide +kernel
theorem dX7_clear_12 : decode cX7_clear 12 = .ok (.putfield 31, 3) := by decide +kernel
theorem dX7_clear_15 : decode cX7_clear 15 = .ok (.aload_n 0, 1) := by decide +kernel
theorem dX7_clear_16 : decode cX7_clear 16 = .ok (.iconst 0, 1) := by decide +kernel
theorem dX7_clear_17 : decode cX7_clear 17 = .ok (.putfield 35, 3) := by decide +kernel
theorem dX7_clear_20 : decode cX7_clear 20 = .ok (.iconst 0, 1) := by decide +kernel
theorem dX7_clear_21 : decode cX7_clear 21 = .ok (.istore_n 1, 1) := by decide +kernel
theorem dX7_clear_22 : decode cX7_clear 22 = .ok (.iload_n 1, 1) := by decide +kernel
theorem dX7_clear_23 : decode cX7_clear 23 = .ok (.aload_n 0, 1) := by decide +kernel
theorem dX7_clear_24 : decode cX7_clear 24 = .ok (.getfield 21, 3) := by decide +kernel
theorem dX7_clear_27 : decode cX7_clear 27 = .ok (.arraylength, 1) := by decide +kernel
theorem dX7_clear_28 : decode cX7_clear 28 = .ok (.if_icmp .ge 16, 3) := by decide +kernel
theorem dX7_clear_31 : decode cX7_clear 31 = .ok (.aload_n 0, 1) := by decide +kernel
theorem dX7_clear_32 : decode cX7_clear 32 = .ok (.getfield 21, 3) := by decide +kernel
theorem dX7_clear_35 : decode cX7_clear 35 = .ok (.iload_n 1, 1) := by decide +kernel
theorem dX7_clear_36 : decode cX7_clear 36 = .ok (.iconst (-1), 1) := by decide +kernel
theorem dX7_clear_37 : decode cX7_clear 37 = .ok (.iastore, 1) := by decide +kernel
theorem dX7_clear_38 : decode cX7_clear 38 = .ok (.iinc 1 1, 3) := by decide +kernel
theorem dX7_clear_41 : decode cX7_clear 41 = .ok (.goto (-19), 3) := by decide +kernel
theorem dX7_clear_44 : decode cX7_clear 44 = .ok (.return_, 1) := by decide +kernel
theorem dX7_copyFrom_0 : decode cX7_copyFrom 0 = .ok (.aload_n 0, 1) := by decide +kernel
theorem dX7_copyFrom_1 : decode cX7_copyFrom 1 = .ok (.aload_n 1, 1) := by decide +kernel
theorem dX7_copyFrom_2 : decode cX7_copyFrom 2 = .ok (.getfield 24, 3) := by decide +kernel
theorem dX7_copyFrom_5 : decode cX7_copyFrom 5 = .ok (.putfield 24, 3) := by decide +kernel
theorem dX7_copyFrom_8 : decode cX7_copyFrom 8 = .ok (.aload_n 0, 1) := by decide +kernel
theorem dX7_copyFrom_9 : decode cX7_copyFrom 9 = .ok (.aload_n 1, 1) := by decide +kernel
theorem dX7_copyFrom_10 : decode cX7_copyFrom 10 = .ok (.getfield 28, 3) := by decide +kernel
theorem dX7_copyFrom_13 : decode cX7_copyFrom 13 = .ok (.putfield 28, 3) := by decide +kernel
theorem dX7_copyFrom_16 : decode cX7_copyFrom 16 = .ok (.aload_n 0, 1) := by decide +kernel
theorem dX7_copyFrom_17 : decode cX7_copyFrom 17 = .ok (.aload_n 1, 1) := by decide +kernel
theorem dX7_copyFrom_18 : decode cX7_copyFrom 18 = .ok (.getfield 31, 3) := by decide +kernel
theorem dX7_copyFrom_21 : decode cX7_copyFrom 21 = .ok (.putfield 31, 3) := by decide +kernel
theorem dX7_copyFrom_24 : decode cX7_copyFrom 24 = .ok (.aload_n 0, 1) := by decide +kernel
theorem dX7_copyFrom_25 : decode cX7_copyFrom 25 = .ok (.aload_n 1, 1) := by decide +kernel
theorem dX7_copyFrom_26 : decode cX7_copyFrom 26 = .ok (.getfield 35, 3) := by decide +kernel
theorem dX7_copyFrom_29 : decode cX7_copyFrom 29 = .ok (.putfield 35, 3) := by decide +kernel
theorem dX7_copyFrom_32 : decode cX7_copyFrom 32 = .ok (.aload_n 1, 1) := by decide +kernel
theorem dX7_copyFrom_33 : decode cX7_copyFrom 33 = .ok (.getfield 9, 3) := by decide +kernel
theorem dX7_copyFrom_36 : decode cX7_copyFrom 36 = .ok (.iconst 0, 1) := by decide +kernel
theorem dX7_copyFrom_37 : decode cX7_copyFrom 37 = .ok (.aload_n 0, 1) := by decide +kernel
theorem dX7_copyFrom_38 : decode cX7_copyFrom 38 = .ok (.getfield 9, 3) := by decide +kernel
theorem dX7_copyFrom_41 : decode cX7_copyFrom 41 = .ok (.iconst 0, 1) := by decide +kernel
theorem dX7_copyFrom_42 : decode cX7_copyFrom 42 = .ok (.bipush 6, 2) := by decide +kernel
theorem dX7_copyFrom_44 : decode cX7_copyFrom 44 = .ok (.invokestatic 38, 3) := by decide +kernel
theorem dX7_copyFrom_47 : decode cX7_copyFrom 47 = .ok (.aload_n 1, 1) := by decide +kernel
theorem dX7_copyFrom_48 : decode cX7_copyFrom 48 = .ok (.getfield 15, 3) := by decide +kernel
theorem dX7_copyFrom_51 : decode cX7_copyFrom 51 = .ok (.iconst 0, 1) := by decide +kernel
theorem dX7_copyFrom_52 : decode cX7_copyFrom 52 = .ok (.aload_n 0, 1) := by decide +kernel
theorem dX7_copyFrom_53 : decode cX7_copyFrom 53 = .ok (.getfield 15, 3) := by decide +kernel
theorem dX7_copyFrom_56 : decode cX7_copyFrom 56 = .ok (.iconst 0, 1) := by decide +kernel
theorem dX7_copyFrom_57 : decode cX7_copyFrom 57 = .ok (.bipush 6, 2) := by decide +kernel
theorem dX7_copyFrom_59 : decode cX7_copyFrom 59 = .ok (.invokestatic 38, 3) := by decide +kernel
theorem dX7_copyFrom_62 : decode cX7_copyFrom 62 = .ok (.aload_n 1, 1) := by decide +kernel
theorem dX7_copyFrom_63 : decode cX7_copyFrom 63 = .ok (.getfield 18, 3) := by decide +kernel
theorem dX7_copyFrom_66 : decode cX7_copyFrom 66 = .ok (.iconst 0, 1) := by decide +kernel
theorem dX7_copyFrom_67 : decode cX7_copyFrom 67 = .ok (.aload_n 0, 1) := by decide +kernel
theorem dX7_copyFrom_68 : decode cX7_copyFrom 68 = .ok (.getfield 18, 3) := by decide +kernel
theorem dX7_copyFrom_71 : decode cX7_copyFrom 71 = .ok (.iconst 0, 1) := by decide +kernel
theorem dX7_copyFrom_72 : decode cX7_copyFrom 72 = .ok (.bipush 6, 2) := by decide +kernel
theorem dX7_copyFrom_74 : decode cX7_copyFrom 74 = .ok (.invokestatic 38, 3) := by decide +kernel
theorem dX7_copyFrom_77 : decode cX7_copyFrom 77 = .ok (.aload_n 1, 1) := by decide +kernel
theorem dX7_copyFrom_78 : decode cX7_copyFrom 78 = .ok (.getfield 21, 3) := by decide +kernel
theorem dX7_copyFrom_81 : decode cX7_copyFrom 81 = .ok (.iconst 0, 1) := by decide +kernel
theorem dX7_copyFrom_82 : decode cX7_copyFrom 82 = .ok (.aload_n 0, 1) := by decide +kernel
theorem dX7_copyFrom_83 : decode cX7_copyFrom 83 = .ok (.getfield 21, 3) := by decide +kernel
theorem dX7_copyFrom_86 : decode cX7_copyFrom 86 = .ok (.iconst 0, 1) := by decide +kernel
theorem dX7_copyFrom_87 : decode cX7_copyFrom 87 = .ok (.bipush 10, 2) := by decide +kernel
theorem dX7_copyFrom_89 : decode cX7_copyFrom 89 = .ok (.invokestatic 38, 3) := by decide +kernel
theorem dX7_copyFrom_92 : decode cX7_copyFrom 92 = .ok (.return_, 1) := by decide +kernel
theorem dX7_putItem_0 : decode cX7_putItem 0 = .ok (.aload_n 0, 1) := by decide +kernel
theorem dX7_putItem_1 : decode cX7_putItem 1 = .ok (.getfield 35, 3) := by decide +kernel
theorem dX7_putItem_4 : decode cX7_putItem 4 = .ok (.bipush 6, 2) := by decide +kernel
theorem dX7_putItem_6 : decode cX7_putItem 6 = .ok (.if_icmp .lt 4, 3) := by decide +kernel
theorem dX7_putItem_9 : decode cX7_putItem 9 = .ok (.return_, 1) := by decide +kernel
theorem dX7_putItem_10 : decode cX7_putItem 10 = .ok (.aload_n 0, 1) := by decide +kernel
theorem dX7_putItem_11 : decode cX7_putItem 11 = .ok (.getfield 9, 3) := by decide +kernel
theorem dX7_putItem_14 : decode cX7_putItem 14 = .ok (.aload_n 0, 1) := by decide +kernel
theorem dX7_putItem_15 : decode cX7_putItem 15 = .ok (.getfield 35, 3) := by decide +kernel
theorem dX7_putItem_18 : decode cX7_putItem 18 = .ok (.iload_n 1, 1) := by decide +kernel
theorem dX7_putItem_19 : decode cX7_putItem 19 = .ok (.iastore, 1) := by decide +kernel
theorem dX7_putItem_20 : decode cX7_putItem 20 = .ok (.aload_n 0, 1) := by decide +kernel
theorem dX7_putItem_21 : decode cX7_putItem 21 = .ok (.getfield 15, 3) := by decide +kernel
theorem dX7_putItem_24 : decode cX7_putItem 24 = .ok (.aload_n 0, 1) := by decide +kernel
theorem dX7_putItem_25 : decode cX7_putItem 25 = .ok (.getfield 35, 3) := by decide +kernel
theorem dX7_putItem_28 : decode cX7_putItem 28 = .ok (.iload_n 2, 1) := by decide +kernel
theorem dX7_putItem_29 : decode cX7_putItem 29 = .ok (.iastore, 1) := by decide +kernel
theorem dX7_putItem_30 : decode cX7_putItem 30 = .ok (.aload_n 0, 1) := by decide +kernel
theorem dX7_putItem_31 : decode cX7_putItem 31 = .ok (.getfield 18, 3) := by decide +kernel
theorem dX7_putItem_34 : decode cX7_putItem 34 = .ok (.aload_n 0, 1) := by decide +kernel
theorem dX7_putItem_35 : decode cX7_putItem 35 = .ok (.getfield 35, 3) := by decide +kernel
theorem dX7_putItem_38 : decode cX7_putItem 38 = .ok (.iload_n 3, 1) := by decide +kernel
theorem dX7_putItem_39 : decode cX7_putItem 39 = .ok (.iastore, 1) := by decide +kernel
theorem dX7_putItem_40 : decode cX7_putItem 40 = .ok (.aload_n 0, 1) := by decide +kernel
theorem dX7_putItem_41 : decode cX7_putItem 41 = .ok (.dup, 1) := by decide +kernel
theorem dX7_putItem_42 : decode cX7_putItem 42 = .ok (.getfield 35, 3) := by decide +kernel
theorem dX7_putItem_45 : decode cX7_putItem 45 = .ok (.iconst 1, 1) := by decide +kernel
theorem dX7_putItem_46 : decode cX7_putItem 46 = .ok (.iadd, 1) := by decide +kernel
theorem dX7_putItem_47 : decode cX7_putItem 47 = .ok (.putfield 35, 3) := by decide +kernel
theorem dX7_putItem_50 : decode cX7_putItem 50 = .ok (.return_, 1) := by decide +kernel
theorem dX7_dropItem_0 : decode cX7_dropItem 0 = .ok (.iload_n 1, 1) := by decide +kernel
theorem dX7_dropItem_1 : decode cX7_dropItem 1 = .ok (.iconst 0, 1) := by decide +kernel
theorem dX7_dropItem_2 : decode cX7_dropItem 2 = .ok (.aload_n 0, 1) := by decide +kernel
theorem dX7_dropItem_3 : decode cX7_dropItem 3 = .ok (.getfield 35, 3) := by decide +kernel
theorem dX7_dropItem_6 : decode cX7_dropItem 6 = .ok (.iconst 1, 1) := by decide +kernel
theorem dX7_dropItem_7 : decode cX7_dropItem 7 = .ok (.isub, 1) := by decide +kernel
theorem dX7_dropItem_8 : decode cX7_dropItem 8 = .ok (.invokestatic 44, 3) := by decide +kernel
theorem dX7_dropItem_11 : decode cX7_dropItem 11 = .ok (.ifCond .ne 4, 3) := by decide +kernel
theorem dX7_dropItem_14 : decode cX7_dropItem 14 = .ok (.return_, 1) := by decide +kernel
theorem dX7_dropItem_15 : decode cX7_dropItem 15 = .ok (.aload_n 0, 1) := by decide +kernel
theorem dX7_dropItem_16 : decode cX7_dropItem 16 = .ok (.dup, 1) := by decide +kernel
theorem dX7_dropItem_17 : decode cX7_dropItem 17 = .ok (.getfield 35, 3) := by decide +kernel
theorem dX7_dropItem_20 : decode cX7_dropItem 20 = .ok (.iconst 1, 1) := by decide +kernel
theorem dX7_dropItem_21 : decode cX7_dropItem 21 = .ok (.isub, 1) := by decide +kernel
theorem dX7_dropItem_22 : decode cX7_dropItem 22 = .ok (.putfield 35, 3) := by decide +kernel
theorem dX7_dropItem_25 : decode cX7_dropItem 25 = .ok (.iload_n 1, 1) := by decide +kernel
theorem dX7_dropItem_26 : decode cX7_dropItem 26 = .ok (.istore_n 2, 1) := by decide +kernel
theorem dX7_dropItem_27 : decode cX7_dropItem 27 = .ok (.iload_n 2, 1) := by decide +kernel
theorem dX7_dropItem_28 : decode cX7_dropItem 28 = .ok (.aload_n 0, 1) := by decide +kernel
theorem dX7_dropItem_29 : decode cX7_dropItem 29 = .ok (.getfield 35, 3) := by decide +kernel
theorem dX7_dropItem_32 : decode cX7_dropItem 32 = .ok (.if_icmp .ge 51, 3) := by decide +kernel
theorem dX7_dropItem_35 : decode cX7_dropItem 35 = .ok (.aload_n 0, 1) := by decide +kernel
theorem dX7_dropItem_36 : decode cX7_dropItem 36 = .ok (.getfield 9, 3) := by decide +kernel
theorem dX7_dropItem_39 : decode cX7_dropItem 39 = .ok (.iload_n 2, 1) := by decide +kernel
theorem dX7_dropItem_40 : decode cX7_dropItem 40 = .ok (.aload_n 0, 1) := by decide +kernel
theorem dX7_dropItem_41 : decode cX7_dropItem 41 = .ok (.getfield 9, 3) := by decide +kernel
theorem dX7_dropItem_44 : decode cX7_dropItem 44 = .ok (.iload_n 2, 1) := by decide +kernel
theorem dX7_dropItem_45 : decode cX7_dropItem 45 = .ok (.iconst 1, 1) := by decide +kernel
theorem dX7_dropItem_46 : decode cX7_dropItem 46 = .ok (.iadd, 1) := by decide +kernel
theorem dX7_dropItem_47 : decode cX7_dropItem 47 = .ok (.iaload, 1) := by decide +kernel
theorem dX7_dropItem_48 : decode cX7_dropItem 48 = .ok (.iastore, 1) := by decide +kernel
theorem dX7_dropItem_49 : decode cX7_dropItem 49 = .ok (.aload_n 0, 1) := by decide +kernel
theorem dX7_dropItem_50 : decode cX7_dropItem 50 = .ok (.getfield 15, 3) := by decide +kernel
theorem dX7_dropItem_53 : decode cX7_dropItem 53 = .ok (.iload_n 2, 1) := by decide +kernel
theorem dX7_dropItem_54 : decode cX7_dropItem 54 = .ok (.aload_n 0, 1) := by decide +kernel
theorem dX7_dropItem_55 : decode cX7_dropItem 55 = .ok (.getfield 15, 3) := by decide +kernel
theorem dX7_dropItem_58 : decode cX7_dropItem 58 = .ok (.iload_n 2, 1) := by decide +kernel
theorem dX7_dropItem_59 : decode cX7_dropItem 59 = .ok (.iconst 1, 1) := by decide +kernel
theorem dX7_dropItem_60 : decode cX7_dropItem 60 = .ok (.iadd, 1) := by decide +kernel
theorem dX7_dropItem_61 : decode cX7_dropItem 61 = .ok (.iaload, 1) := by decide +kernel
theorem dX7_dropItem_62 : decode cX7_dropItem 62 = .ok (.iastore, 1) := by decide +kernel
theorem dX7_dropItem_63 : decode cX7_dropItem 63 = .ok (.aload_n 0, 1) := by decide +kernel
theorem dX7_dropItem_64 : decode cX7_dropItem 64 = .ok (.getfield 18, 3) := by decide +kernel
theorem dX7_dropItem_67 : decode cX7_dropItem 67 = .ok (.iload_n 2, 1) := by decide +kernel
theorem dX7_dropItem_68 : decode cX7_dropItem 68 = .ok (.aload_n 0, 1) := by decide +kernel
theorem dX7_dropItem_69 : decode cX7_dropItem 69 = .ok (.getfield 18, 3) := by decide +kernel
theorem dX7_dropItem_72 : decode cX7_dropItem 72 = .ok (.iload_n 2, 1) := by decide +kernel
theorem dX7_dropItem_73 : decode cX7_dropItem 73 = .ok (.iconst 1, 1) := by decide +kernel
theorem dX7_dropItem_74 : decode cX7_dropItem 74 = .ok (.iadd, 1) := by decide +kernel
theorem dX7_dropItem_75 : decode cX7_dropItem 75 = .ok (.iaload, 1) := by decide +kernel
theorem dX7_dropItem_76 : decode cX7_dropItem 76 = .ok (.iastore, 1) := by decide +kernel
theorem dX7_dropItem_77 : decode cX7_dropItem 77 = .ok (.iinc 2 1, 3) := by decide +kernel
theorem dX7_dropItem_80 : decode cX7_dropItem 80 = .ok (.goto (-53), 3) := by decide +kernel
theorem dX7_dropItem_83 : decode cX7_dropItem 83 = .ok (.return_, 1) := by decide +kernel
theorem dX7_targetOf_0 : decode cX7_targetOf 0 = .ok (.iload_n 1, 1) := by decide +kernel
theorem dX7_targetOf_1 : decode cX7_targetOf 1 = .ok (.iconst 0, 1) := by decide +kernel
theorem dX7_targetOf_2 : decode cX7_targetOf 2 = .ok (.bipush 9, 2) := by decide +kernel
theorem dX7_targetOf_4 : decode cX7_targetOf 4 = .ok (.invokestatic 44, 3) := by decide +kernel
theorem dX7_targetOf_7 : decode cX7_targetOf 7 = .ok (.ifCond .eq 12, 3) := by decide +kernel
theorem dX7_targetOf_10 : decode cX7_targetOf 10 = .ok (.aload_n 0, 1) := by decide +kernel
theorem dX7_targetOf_11 : decode cX7_targetOf 11 = .ok (.getfield 21, 3) := by decide +kernel
theorem dX7_targetOf_14 : decode cX7_targetOf 14 = .ok (.iload_n 1, 1) := by decide +kernel
theorem dX7_targetOf_15 : decode cX7_targetOf 15 = .ok (.iaload, 1) := by decide +kernel
theorem dX7_targetOf_16 : decode cX7_targetOf 16 = .ok (.goto 4, 3) := by decide +kernel
theorem dX7_targetOf_19 : decode cX7_targetOf 19 = .ok (.iconst (-1), 1) := by decide +kernel
theorem dX7_targetOf_20 : decode cX7_targetOf 20 = .ok (.ireturn, 1) := by decide +kernel
theorem dX7_setTarget_0 : decode cX7_setTarget 0 = .ok (.iload_n 1, 1) := by decide +kernel
theorem dX7_setTarget_1 : decode cX7_setTarget 1 = .ok (.iconst 0, 1) := by decide +kernel
theorem dX7_setTarget_2 : decode cX7_setTarget 2 = .ok (.bipush 9, 2) := by decide +kernel
theorem dX7_setTarget_4 : decode cX7_setTarget 4 = .ok (.invokestatic 44, 3) := by decide +kernel
theorem dX7_setTarget_7 : decode cX7_setTarget 7 = .ok (.ifCond .eq 10, 3) := by decide +kernel
theorem dX7_setTarget_10 : decode cX7_setTarget 10 = .ok (.aload_n 0, 1) := by decide +kernel
theorem dX7_setTarget_11 : decode cX7_setTarget 11 = .ok (.getfield 21, 3) := by decide +kernel
theorem dX7_setTarget_14 : decode cX7_setTarget 14 = .ok (.iload_n 1, 1) := by decide +kernel
theorem dX7_setTarget_15 : decode cX7_setTarget 15 = .ok (.iload_n 2, 1) := by decide +kernel
theorem dX7_setTarget_16 : decode cX7_setTarget 16 = .ok (.iastore, 1) := by decide +kernel
theorem dX7_setTarget_17 : decode cX7_setTarget 17 = .ok (.return_, 1) := by decide +kernel
theorem dX7_dropLinksTo_0 : decode cX7_dropLinksTo 0 = .ok (.iconst 0, 1) := by decide +kernel
theorem dX7_dropLinksTo_1 : decode cX7_dropLinksTo 1 = .ok (.istore_n 2, 1) := by decide +kernel
theorem dX7_dropLinksTo_2 : decode cX7_dropLinksTo 2 = .ok (.iload_n 2, 1) := by decide +kernel
theorem dX7_dropLinksTo_3 : decode cX7_dropLinksTo 3 = .ok (.aload_n 0, 1) := by decide +kernel
theorem dX7_dropLinksTo_4 : decode cX7_dropLinksTo 4 = .ok (.getfield 21, 3) := by decide +kernel
theorem dX7_dropLinksTo_7 : decode cX7_dropLinksTo 7 = .ok (.arraylength, 1) := by decide +kernel
theorem dX7_dropLinksTo_8 : decode cX7_dropLinksTo 8 = .ok (.if_icmp .ge 26, 3) := by decide +kernel
theorem dX7_dropLinksTo_11 : decode cX7_dropLinksTo 11 = .ok (.aload_n 0, 1) := by decide +kernel
theorem dX7_dropLinksTo_12 : decode cX7_dropLinksTo 12 = .ok (.getfield 21, 3) := by decide +kernel
theorem dX7_dropLinksTo_15 : decode cX7_dropLinksTo 15 = .ok (.iload_n 2, 1) := by decide +kernel
theorem dX7_dropLinksTo_16 : decode cX7_dropLinksTo 16 = .ok (.iaload, 1) := by decide +kernel
theorem dX7_dropLinksTo_17 : decode cX7_dropLinksTo 17 = .ok (.iload_n 1, 1) := by decide +kernel
theorem dX7_dropLinksTo_18 : decode cX7_dropLinksTo 18 = .ok (.if_icmp .ne 10, 3) := by decide +kernel
theorem dX7_dropLinksTo_21 : decode cX7_dropLinksTo 21 = .ok (.aload_n 0, 1) := by decide +kernel
theorem dX7_dropLinksTo_22 : decode cX7_dropLinksTo 22 = .ok (.getfield 21, 3) := by decide +kernel
theorem dX7_dropLinksTo_25 : decode cX7_dropLinksTo 25 = .ok (.iload_n 2, 1) := by decide +kernel
theorem dX7_dropLinksTo_26 : decode cX7_dropLinksTo 26 = .ok (.iconst (-1), 1) := by decide +kernel
theorem dX7_dropLinksTo_27 : decode cX7_dropLinksTo 27 = .ok (.iastore, 1) := by decide +kernel
theorem dX7_dropLinksTo_28 : decode cX7_dropLinksTo 28 = .ok (.iinc 2 1, 3) := by decide +kernel
theorem dX7_dropLinksTo_31 : decode cX7_dropLinksTo 31 = .ok (.goto (-29), 3) := by decide +kernel
theorem dX7_dropLinksTo_34 : decode cX7_dropLinksTo 34 = .ok (.return_, 1) := by decide +kernel
theorem dX7_countLinks_0 : decode cX7_countLinks 0 = .ok (.iconst 0, 1) := by decide +kernel
theorem dX7_countLinks_1 : decode cX7_countLinks 1 = .ok (.istore_n 1, 1) := by decide +kernel
theorem dX7_countLinks_2 : decode cX7_countLinks 2 = .ok (.aload_n 0, 1) := by decide +kernel
theorem dX7_countLinks_3 : decode cX7_countLinks 3 = .ok (.getfield 21, 3) := by decide +kernel
theorem dX7_countLinks_6 : decode cX7_countLinks 6 = .ok (.astore_n 2, 1) := by decide +kernel
theorem dX7_countLinks_7 : decode cX7_countLinks 7 = .ok (.aload_n 2, 1) := by decide +kernel
theorem dX7_countLinks_8 : decode cX7_countLinks 8 = .ok (.arraylength, 1) := by decide +kernel
theorem dX7_countLinks_9 : decode cX7_countLinks 9 = .ok (.istore_n 3, 1) := by decide +kernel
theorem dX7_countLinks_10 : decode cX7_countLinks 10 = .ok (.iconst 0, 1) := by decide +kernel
theorem dX7_countLinks_11 : decode cX7_countLinks 11 = .ok (.istore 4, 2) := by decide +kernel
theorem dX7_countLinks_13 : decode cX7_countLinks 13 = .ok (.iload 4, 2) := by decide +kernel
theorem dX7_countLinks_15 : decode cX7_countLinks 15 = .ok (.iload_n 3, 1) := by decide +kernel
theorem dX7_countLinks_16 : decode cX7_countLinks 16 = .ok (.if_icmp .ge 24, 3) := by decide +kernel
theorem dX7_countLinks_19 : decode cX7_countLinks 19 = .ok (.aload_n 2, 1) := by decide +kernel
theorem dX7_countLinks_20 : decode cX7_countLinks 20 = .ok (.iload 4, 2) := by decide +kernel
theorem dX7_countLinks_22 : decode cX7_countLinks 22 = .ok (.iaload, 1) := by decide +kernel
theorem dX7_countLinks_23 : decode cX7_countLinks 23 = .ok (.istore 5, 2) := by decide +kernel
theorem dX7_countLinks_25 : decode cX7_countLinks 25 = .ok (.iload 5, 2) := by decide +kernel
theorem dX7_countLinks_27 : decode cX7_countLinks 27 = .ok (.iconst (-1), 1) := by decide +kernel
theorem dX7_countLinks_28 : decode cX7_countLinks 28 = .ok (.if_icmp .eq 6, 3) := by decide +kernel
theorem dX7_countLinks_31 : decode cX7_countLinks 31 = .ok (.iinc 1 1, 3) := by decide +kernel
theorem dX7_countLinks_34 : decode cX7_countLinks 34 = .ok (.iinc 4 1, 3) := by decide +kernel
theorem dX7_countLinks_37 : decode cX7_countLinks 37 = .ok (.goto (-24), 3) := by decide +kernel
theorem dX7_countLinks_40 : decode cX7_countLinks 40 = .ok (.iload_n 1, 1) := by decide +kernel
theorem dX7_countLinks_41 : decode cX7_countLinks 41 = .ok (.ireturn, 1) := by decide +kernel
theorem dX7_finalStep_0 : decode cX7_finalStep 0 = .ok (.iconst 0, 1) := by decide +kernel
theorem dX7_finalStep_1 : decode cX7_finalStep 1 = .ok (.istore_n 1, 1) := by decide +kernel
theorem dX7_finalStep_2 : decode cX7_finalStep 2 = .ok (.iconst 0, 1) := by decide +kernel
theorem dX7_finalStep_3 : decode cX7_finalStep 3 = .ok (.istore_n 2, 1) := by decide +kernel
theorem dX7_finalStep_4 : decode cX7_finalStep 4 = .ok (.iload_n 2, 1) := by decide +kernel
theorem dX7_finalStep_5 : decode cX7_finalStep 5 = .ok (.aload_n 0, 1) := by decide +kernel
theorem dX7_finalStep_6 : decode cX7_finalStep 6 = .ok (.getfield 35, 3) := by decide +kernel
theorem dX7_finalStep_9 : decode cX7_finalStep 9 = .ok (.if_icmp .ge 54, 3) := by decide +kernel
theorem dX7_finalStep_12 : decode cX7_finalStep 12 = .ok (.iload_n 1, 1) := by decide +kernel
theorem dX7_finalStep_13 : decode cX7_finalStep 13 = .ok (.aload_n 0, 1) := by decide +kernel
theorem dX7_finalStep_14 : decode cX7_finalStep 14 = .ok (.getfield 9, 3) := by decide +kernel
theorem dX7_finalStep_17 : decode cX7_finalStep 17 = .ok (.iload_n 2, 1) := by decide +kernel
theorem dX7_finalStep_18 : decode cX7_finalStep 18 = .ok (.iaload, 1) := by decide +kernel
theorem dX7_finalStep_19 : decode cX7_finalStep 19 = .ok (.invokestatic 48, 3) := by decide +kernel
theorem dX7_finalStep_22 : decode cX7_finalStep 22 = .ok (.istore_n 1, 1) := by decide +kernel
theorem dX7_finalStep_23 : decode cX7_finalStep 23 = .ok (.aload_n 0, 1) := by decide +kernel
theorem dX7_finalStep_24 : decode cX7_finalStep 24 = .ok (.getfield 15, 3) := by decide +kernel
theorem dX7_finalStep_27 : decode cX7_finalStep 27 = .ok (.iload_n 2, 1) := by decide +kernel
theorem dX7_finalStep_28 : decode cX7_finalStep 28 = .ok (.iaload, 1) := by decide +kernel
theorem dX7_finalStep_29 : decode cX7_finalStep 29 = .ok (.iconst (-1), 1) := by decide +kernel
theorem dX7_finalStep_30 : decode cX7_finalStep 30 = .ok (.if_icmp .eq 27, 3) := by decide +kernel
theorem dX7_finalStep_33 : decode cX7_finalStep 33 = .ok (.aload_n 0, 1) := by decide +kernel
theorem dX7_finalStep_34 : decode cX7_finalStep 34 = .ok (.getfield 15, 3) := by decide +kernel
theorem dX7_finalStep_37 : decode cX7_finalStep 37 = .ok (.iload_n 2, 1) := by decide +kernel
theorem dX7_finalStep_38 : decode cX7_finalStep 38 = .ok (.iaload, 1) := by decide +kernel
theorem dX7_finalStep_39 : decode cX7_finalStep 39 = .ok (.bipush 9, 2) := by decide +kernel
theorem dX7_finalStep_41 : decode cX7_finalStep 41 = .ok (.if_icmp .ge 16, 3) := by decide +kernel
theorem dX7_finalStep_44 : decode cX7_finalStep 44 = .ok (.iload_n 1, 1) := by decide +kernel
theorem dX7_finalStep_45 : decode cX7_finalStep 45 = .ok (.aload_n 0, 1) := by decide +kernel
theorem dX7_finalStep_46 : decode cX7_finalStep 46 = .ok (.getfield 15, 3) := by decide +kernel
theorem dX7_finalStep_49 : decode cX7_finalStep 49 = .ok (.iload_n 2, 1) := by decide +kernel
theorem dX7_finalStep_50 : decode cX7_finalStep 50 = .ok (.iaload, 1) := by decide +kernel
theorem dX7_finalStep_51 : decode cX7_finalStep 51 = .ok (.iconst 1, 1) := by decide +kernel
theorem dX7_finalStep_52 : decode cX7_finalStep 52 = .ok (.iadd, 1) := by decide +kernel
theorem dX7_finalStep_53 : decode cX7_finalStep 53 = .ok (.invokestatic 48, 3) := by decide +kernel
theorem dX7_finalStep_56 : decode cX7_finalStep 56 = .ok (.istore_n 1, 1) := by decide +kernel
theorem dX7_finalStep_57 : decode cX7_finalStep 57 = .ok (.iinc 2 1, 3) := by decide +kernel
theorem dX7_finalStep_60 : decode cX7_finalStep 60 = .ok (.goto (-56), 3) := by decide +kernel
theorem dX7_finalStep_63 : decode cX7_finalStep 63 = .ok (.iload_n 1, 1) := by decide +kernel
theorem dX7_finalStep_64 : decode cX7_finalStep 64 = .ok (.ireturn, 1) := by decide +kernel
theorem dX7_isSeen_0 : decode cX7_isSeen 0 = .ok (.aload_n 0, 1) := by decide +kernel
theorem dX7_isSeen_1 : decode cX7_isSeen 1 = .ok (.getfield 9, 3) := by decide +kernel
theorem dX7_isSeen_4 : decode cX7_isSeen 4 = .ok (.iload_n 1, 1) := by decide +kernel
theorem dX7_isSeen_5 : decode cX7_isSeen 5 = .ok (.iaload, 1) := by decide +kernel
theorem dX7_isSeen_6 : decode cX7_isSeen 6 = .ok (.iload_n 2, 1) := by decide +kernel
theorem dX7_isSeen_7 : decode cX7_isSeen 7 = .ok (.if_icmp .gt 27, 3) := by decide +kernel
theorem dX7_isSeen_10 : decode cX7_isSeen 10 = .ok (.aload_n 0, 1) := by decide +kernel
theorem dX7_isSeen_11 : decode cX7_isSeen 11 = .ok (.getfield 15, 3) := by decide +kernel
theorem dX7_isSeen_14 : decode cX7_isSeen 14 = .ok (.iload_n 1, 1) := by decide +kernel
theorem dX7_isSeen_15 : decode cX7_isSeen 15 = .ok (.iaload, 1) := by decide +kernel
theorem dX7_isSeen_16 : decode cX7_isSeen 16 = .ok (.iconst (-1), 1) := by decide +kernel
theorem dX7_isSeen_17 : decode cX7_isSeen 17 = .ok (.if_icmp .eq 13, 3) := by decide +kernel
theorem dX7_isSeen_20 : decode cX7_isSeen 20 = .ok (.iload_n 2, 1) := by decide +kernel
theorem dX7_isSeen_21 : decode cX7_isSeen 21 = .ok (.aload_n 0, 1) := by decide +kernel
theorem dX7_isSeen_22 : decode cX7_isSeen 22 = .ok (.getfield 15, 3) := by decide +kernel
theorem dX7_isSeen_25 : decode cX7_isSeen 25 = .ok (.iload_n 1, 1) := by decide +kernel
theorem dX7_isSeen_26 : decode cX7_isSeen 26 = .ok (.iaload, 1) := by decide +kernel
theorem dX7_isSeen_27 : decode cX7_isSeen 27 = .ok (.if_icmp .gt 7, 3) := by decide +kernel
theorem dX7_isSeen_30 : decode cX7_isSeen 30 = .ok (.iconst 1, 1) := by decide +kernel
theorem dX7_isSeen_31 : decode cX7_isSeen 31 = .ok (.goto 4, 3) := by decide +kernel
theorem dX7_isSeen_34 : decode cX7_isSeen 34 = .ok (.iconst 0, 1) := by decide +kernel
theorem dX7_isSeen_35 : decode cX7_isSeen 35 = .ok (.ireturn, 1) := by decide +kernel
theorem dX7_maskAt_0 : decode cX7_maskAt 0 = .ok (.iconst 0, 1) := by decide +kernel
theorem dX7_maskAt_1 : decode cX7_maskAt 1 = .ok (.istore_n 2, 1) := by decide +kernel
theorem dX7_maskAt_2 : decode cX7_maskAt 2 = .ok (.iconst 0, 1) := by decide +kernel
theorem dX7_maskAt_3 : decode cX7_maskAt 3 = .ok (.istore_n 3, 1) := by decide +kernel
theorem dX7_maskAt_4 : decode cX7_maskAt 4 = .ok (.iload_n 3, 1) := by decide +kernel
theorem dX7_maskAt_5 : decode cX7_maskAt 5 = .ok (.aload_n 0, 1) := by decide +kernel
theorem dX7_maskAt_6 : decode cX7_maskAt 6 = .ok (.getfield 35, 3) := by decide +kernel
theorem dX7_maskAt_9 : decode cX7_maskAt 9 = .ok (.if_icmp .ge 24, 3) := by decide +kernel
theorem dX7_maskAt_12 : decode cX7_maskAt 12 = .ok (.aload_n 0, 1) := by decide +kernel
theorem dX7_maskAt_13 : decode cX7_maskAt 13 = .ok (.iload_n 3, 1) := by decide +kernel
theorem dX7_maskAt_14 : decode cX7_maskAt 14 = .ok (.iload_n 1, 1) := by decide +kernel
theorem dX7_maskAt_15 : decode cX7_maskAt 15 = .ok (.invokevirtual 54, 3) := by decide +kernel
theorem dX7_maskAt_18 : decode cX7_maskAt 18 = .ok (.ifCond .eq 9, 3) := by decide +kernel
theorem dX7_maskAt_21 : decode cX7_maskAt 21 = .ok (.iload_n 2, 1) := by decide +kernel
theorem dX7_maskAt_22 : decode cX7_maskAt 22 = .ok (.iconst 1, 1) := by decide +kernel
theorem dX7_maskAt_23 : decode cX7_maskAt 23 = .ok (.iload_n 3, 1) := by decide +kernel
theorem dX7_maskAt_24 : decode cX7_maskAt 24 = .ok (.ishl, 1) := by decide +kernel
theorem dX7_maskAt_25 : decode cX7_maskAt 25 = .ok (.ior, 1) := by decide +kernel
theorem dX7_maskAt_26 : decode cX7_maskAt 26 = .ok (.istore_n 2, 1) := by decide +kernel
theorem dX7_maskAt_27 : decode cX7_maskAt 27 = .ok (.iinc 3 1, 3) := by decide +kernel
theorem dX7_maskAt_30 : decode cX7_maskAt 30 = .ok (.goto (-26), 3) := by decide +kernel
theorem dX7_maskAt_33 : decode cX7_maskAt 33 = .ok (.iload_n 2, 1) := by decide +kernel
theorem dX7_maskAt_34 : decode cX7_maskAt 34 = .ok (.ireturn, 1) := by decide +kernel
theorem dX7_sumTagsAt_0 : decode cX7_sumTagsAt 0 = .ok (.iconst 0, 1) := by decide +kernel
theorem dX7_sumTagsAt_1 : decode cX7_sumTagsAt 1 = .ok (.istore_n 2, 1) := by decide +kernel
theorem dX7_sumTagsAt_2 : decode cX7_sumTagsAt 2 = .ok (.iconst 0, 1) := by decide +kernel
theorem dX7_sumTagsAt_3 : decode cX7_sumTagsAt 3 = .ok (.istore_n 3, 1) := by decide +kernel
theorem dX7_sumTagsAt_4 : decode cX7_sumTagsAt 4 = .ok (.iload_n 3, 1) := by decide +kernel
theorem dX7_sumTagsAt_5 : decode cX7_sumTagsAt 5 = .ok (.aload_n 0, 1) := by decide +kernel
theorem dX7_sumTagsAt_6 : decode cX7_sumTagsAt 6 = .ok (.getfield 35, 3) := by decide +kernel
theorem dX7_sumTagsAt_9 : decode cX7_sumTagsAt 9 = .ok (.if_icmp .ge 27, 3) := by decide +kernel
theorem dX7_sumTagsAt_12 : decode cX7_sumTagsAt 12 = .ok (.aload_n 0, 1) := by decide +kernel
theorem dX7_sumTagsAt_13 : decode cX7_sumTagsAt 13 = .ok (.iload_n 3, 1) := by decide +kernel
theorem dX7_sumTagsAt_14 : decode cX7_sumTagsAt 14 = .ok (.iload_n 1, 1) := by decide +kernel
theorem dX7_sumTagsAt_15 : decode cX7_sumTagsAt 15 = .ok (.invokevirtual 54, 3) := by decide +kernel
theorem dX7_sumTagsAt_18 : decode cX7_sumTagsAt 18 = .ok (.ifCond .eq 12, 3) := by decide +kernel
theorem dX7_sumTagsAt_21 : decode cX7_sumTagsAt 21 = .ok (.iload_n 2, 1) := by decide +kernel
theorem dX7_sumTagsAt_22 : decode cX7_sumTagsAt 22 = .ok (.aload_n 0, 1) := by decide +kernel
theorem dX7_sumTagsAt_23 : decode cX7_sumTagsAt 23 = .ok (.getfield 18, 3) := by decide +kernel
theorem dX7_sumTagsAt_26 : decode cX7_sumTagsAt 26 = .ok (.iload_n 3, 1) := by decide +kernel
theorem dX7_sumTagsAt_27 : decode cX7_sumTagsAt 27 = .ok (.iaload, 1) := by decide +kernel
theorem dX7_sumTagsAt_28 : decode cX7_sumTagsAt 28 = .ok (.iadd, 1) := by decide +kernel
theorem dX7_sumTagsAt_29 : decode cX7_sumTagsAt 29 = .ok (.istore_n 2, 1) := by decide +kernel
theorem dX7_sumTagsAt_30 : decode cX7_sumTagsAt 30 = .ok (.iinc 3 1, 3) := by decide +kernel
theorem dX7_sumTagsAt_33 : decode cX7_sumTagsAt 33 = .ok (.goto (-29), 3) := by decide +kernel
theorem dX7_sumTagsAt_36 : decode cX7_sumTagsAt 36 = .ok (.iload_n 2, 1) := by decide +kernel
theorem dX7_sumTagsAt_37 : decode cX7_sumTagsAt 37 = .ok (.ireturn, 1) := by decide +kernel
theorem dX8_init_0 : decode cX8_init 0 = .ok (.aload_n 0, 1) := by decide +kernel
theorem dX8_init_1 : decode cX8_init 1 = .ok (.invokespecial 3, 3) := by decide +kernel
theorem dX8_init_4 : decode cX8_init 4 = .ok (.aload_n 0, 1) := by decide +kernel
theorem dX8_init_5 : decode cX8_init 5 = .ok (.new 9, 3) := by decide +kernel
theorem dX8_init_8 : decode cX8_init 8 = .ok (.dup, 1) := by decide +kernel
theorem dX8_init_9 : decode cX8_init 9 = .ok (.invokespecial 11, 3) := by decide +kernel
theorem dX8_init_12 : decode cX8_init 12 = .ok (.putfield 12, 3) := by decide +kernel
theorem dX8_init_15 : decode cX8_init 15 = .ok (.aload_n 0, 1) := by decide +kernel
theorem dX8_init_16 : decode cX8_init 16 = .ok (.new 18, 3) := by decide +kernel
theorem dX8_init_19 : decode cX8_init 19 = .ok (.dup, 1) := by decide +kernel
theorem dX8_init_20 : decode cX8_init 20 = .ok (.invokespecial 20, 3) := by decide +kernel
theorem dX8_init_23 : decode cX8_init 23 = .ok (.putfield 21, 3) := by decide +kernel
theorem dX8_init_26 : decode cX8_init 26 = .ok (.aload_n 0, 1) := by decide +kernel
theorem dX8_init_27 : decode cX8_init 27 = .ok (.new 25, 3) := by decide +kernel
theorem dX8_init_30 : decode cX8_init 30 = .ok (.dup, 1) := by decide +kernel
theorem dX8_init_31 : decode cX8_init 31 = .ok (.invokespecial 27, 3) := by decide +kernel
theorem dX8_init_34 : decode cX8_init 34 = .ok (.putfield 28, 3) := by decide +kernel
theorem dX8_init_37 : decode cX8_init 37 = .ok (.return_, 1) := by decide +kernel
theorem dX8_copyFrom_0 : decode cX8_copyFrom 0 = .ok (.aload_n 0, 1) := by decide +kernel
theorem dX8_copyFrom_1 : decode cX8_copyFrom 1 = .ok (.aload_n 1, 1) := by decide +kernel
theorem dX8_copyFrom_2 : decode cX8_copyFrom 2 = .ok (.getfield 32, 3) := by decide +kernel
theorem dX8_copyFrom_5 : decode cX8_copyFrom 5 = .ok (.putfield 32, 3) := by decide +kernel
theorem dX8_copyFrom_8 : decode cX8_copyFrom 8 = .ok (.aload_n 0, 1) := by decide +kernel
theorem dX8_copyFrom_9 : decode cX8_copyFrom 9 = .ok (.getfield 12, 3) := by decide +kernel
theorem dX8_copyFrom_12 : decode cX8_copyFrom 12 = .ok (.aload_n 1, 1) := by decide +kernel
theorem dX8_copyFrom_13 : decode cX8_copyFrom 13 = .ok (.getfield 12, 3) := by decide +kernel
theorem dX8_copyFrom_16 : decode cX8_copyFrom 16 = .ok (.invokevirtual 36, 3) := by decide +kernel
theorem dX8_copyFrom_19 : decode cX8_copyFrom 19 = .ok (.aload_n 0, 1) := by decide +kernel
theorem dX8_copyFrom_20 : decode cX8_copyFrom 20 = .ok (.getfield 21, 3) := by decide +kernel
theorem dX8_copyFrom_23 : decode cX8_copyFrom 23 = .ok (.aload_n 1, 1) := by decide +kernel
theorem dX8_copyFrom_24 : decode cX8_copyFrom 24 = .ok (.getfield 21, 3) := by decide +kernel
theorem dX8_copyFrom_27 : decode cX8_copyFrom 27 = .ok (.invokevirtual 40, 3) := by decide +kernel
theorem dX8_copyFrom_30 : decode cX8_copyFrom 30 = .ok (.aload_n 0, 1) := by decide +kernel
theorem dX8_copyFrom_31 : decode cX8_copyFrom 31 = .ok (.getfield 28, 3) := by decide +kernel
theorem dX8_copyFrom_34 : decode cX8_copyFrom 34 = .ok (.aload_n 1, 1) := by decide +kernel
theorem dX8_copyFrom_35 : decode cX8_copyFrom 35 = .ok (.getfield 28, 3) := by decide +kernel
theorem dX8_copyFrom_38 : decode cX8_copyFrom 38 = .ok (.invokevirtual 43, 3) := by decide +kernel
theorem dX8_copyFrom_41 : decode cX8_copyFrom 41 = .ok (.return_, 1) := by decide +kernel
theorem dX8_here_0 : decode cX8_here 0 = .ok (.aload_n 0, 1) := by decide +kernel
theorem dX8_here_1 : decode cX8_here 1 = .ok (.getfield 12, 3) := by decide +kernel
theorem dX8_here_4 : decode cX8_here 4 = .ok (.aload_n 0, 1) := by decide +kernel
theorem dX8_here_5 : decode cX8_here 5 = .ok (.getfield 28, 3) := by decide +kernel
theorem dX8_here_8 : decode cX8_here 8 = .ok (.getfield 46, 3) := by decide +kernel
theorem dX8_here_11 : decode cX8_here 11 = .ok (.invokevirtual 49, 3) := by decide +kernel
theorem dX8_here_14 : decode cX8_here 14 = .ok (.areturn, 1) := by decide +kernel
theorem dX8_isOver_0 : decode cX8_isOver 0 = .ok (.aload_n 0, 1) := by decide +kernel
theorem dX8_isOver_1 : decode cX8_isOver 1 = .ok (.getfield 32, 3) := by decide +kernel
theorem dX8_isOver_4 : decode cX8_isOver 4 = .ok (.ifCond .le 21, 3) := by decide +kernel
theorem dX8_isOver_7 : decode cX8_isOver 7 = .ok (.aload_n 0, 1) := by decide +kernel
theorem dX8_isOver_8 : decode cX8_isOver 8 = .ok (.getfield 28, 3) := by decide +kernel
theorem dX8_isOver_11 : decode cX8_isOver 11 = .ok (.getfield 53, 3) := by decide +kernel
theorem dX8_isOver_14 : decode cX8_isOver 14 = .ok (.aload_n 0, 1) := by decide +kernel
theorem dX8_isOver_15 : decode cX8_isOver 15 = .ok (.getfield 32, 3) := by decide +kernel
theorem dX8_isOver_18 : decode cX8_isOver 18 = .ok (.if_icmp .lt 7, 3) := by decide +kernel
theorem dX8_isOver_21 : decode cX8_isOver 21 = .ok (.iconst 1, 1) := by decide +kernel
theorem dX8_isOver_22 : decode cX8_isOver 22 = .ok (.goto 4, 3) := by decide +kernel
theorem dX8_isOver_25 : decode cX8_isOver 25 = .ok (.iconst 0, 1) := by decide +kernel
theorem dX8_isOver_26 : decode cX8_isOver 26 = .ok (.ireturn, 1) := by decide +kernel
theorem dX8_canMake_0 : decode cX8_canMake 0 = .ok (.aload_n 0, 1) := by decide +kernel
theorem dX8_canMake_1 : decode cX8_canMake 1 = .ok (.invokevirtual 56, 3) := by decide +kernel
theorem dX8_canMake_4 : decode cX8_canMake 4 = .ok (.astore_n 3, 1) := by decide +kernel
theorem dX8_canMake_5 : decode cX8_canMake 5 = .ok (.aload_n 3, 1) := by decide +kernel
theorem dX8_canMake_6 : decode cX8_canMake 6 = .ok (.ifnull 10, 3) := by decide +kernel
theorem dX8_canMake_9 : decode cX8_canMake 9 = .ok (.aload_n 0, 1) := by decide +kernel
theorem dX8_canMake_10 : decode cX8_canMake 10 = .ok (.invokevirtual 60, 3) := by decide +kernel
theorem dX8_canMake_13 : decode cX8_canMake 13 = .ok (.ifCond .eq 5, 3) := by decide +kernel
theorem dX8_canMake_16 : decode cX8_canMake 16 = .ok (.iconst 0, 1) := by decide +kernel
theorem dX8_canMake_17 : decode cX8_canMake 17 = .ok (.ireturn, 1) := by decide +kernel
theorem dX8_canMake_18 : decode cX8_canMake 18 = .ok (.iload_n 1, 1) := by decide +kernel
theorem dX8_canMake_19 : decode cX8_canMake 19 = .ok (.lookupswitch 76 #[(98, 47), (102, 33), (107, 61)], 33) := by decide +kernel
theorem dX8_canMake_52 : decode cX8_canMake 52 = .ok (.aload_n 0, 1) := by decide +kernel
theorem dX8_canMake_53 : decode cX8_canMake 53 = .ok (.invokevirtual 64, 3) := by decide +kernel
theorem dX8_canMake_56 : decode cX8_canMake 56 = .ok (.iconst (-1), 1) := by decide +kernel
theorem dX8_canMake_57 : decode cX8_canMake 57 = .ok (.if_icmp .eq 7, 3) := by decide +kernel
theorem dX8_canMake_60 : decode cX8_canMake 60 = .ok (.iconst 1, 1) := by decide +kernel
theorem dX8_canMake_61 : decode cX8_canMake 61 = .ok (.goto 4, 3) := by decide +kernel
theorem dX8_canMake_64 : decode cX8_canMake 64 = .ok (.iconst 0, 1) := by decide +kernel
theorem dX8_canMake_65 : decode cX8_canMake 65 = .ok (.ireturn, 1) := by decide +kernel
theorem dX8_canMake_66 : decode cX8_canMake 66 = .ok (.aload_n 0, 1) := by decide +kernel
theorem dX8_canMake_67 : decode cX8_canMake 67 = .ok (.invokevirtual 68, 3) := by decide +kernel
theorem dX8_canMake_70 : decode cX8_canMake 70 = .ok (.iconst (-1), 1) := by decide +kernel
theorem dX8_canMake_71 : decode cX8_canMake 71 = .ok (.if_icmp .eq 7, 3) := by decide +kernel
theorem dX8_canMake_74 : decode cX8_canMake 74 = .ok (.iconst 1, 1) := by decide +kernel
theorem dX8_canMake_75 : decode cX8_canMake 75 = .ok (.goto 4, 3) := by decide +kernel
theorem dX8_canMake_78 : decode cX8_canMake 78 = .ok (.iconst 0, 1) := by decide +kernel
theorem dX8_canMake_79 : decode cX8_canMake 79 = .ok (.ireturn, 1) := by decide +kernel
theorem dX8_canMake_80 : decode cX8_canMake 80 = .ok (.aload_n 3, 1) := by decide +kernel
theorem dX8_canMake_81 : decode cX8_canMake 81 = .ok (.iload_n 2, 1) := by decide +kernel
theorem dX8_canMake_82 : decode cX8_canMake 82 = .ok (.invokevirtual 71, 3) := by decide +kernel
theorem dX8_canMake_85 : decode cX8_canMake 85 = .ok (.iconst (-1), 1) := by decide +kernel
theorem dX8_canMake_86 : decode cX8_canMake 86 = .ok (.if_icmp .eq 7, 3) := by decide +kernel
theorem dX8_canMake_89 : decode cX8_canMake 89 = .ok (.iconst 1, 1) := by decide +kernel
theorem dX8_canMake_90 : decode cX8_canMake 90 = .ok (.goto 4, 3) := by decide +kernel
theorem dX8_canMake_93 : decode cX8_canMake 93 = .ok (.iconst 0, 1) := by decide +kernel
theorem dX8_canMake_94 : decode cX8_canMake 94 = .ok (.ireturn, 1) := by decide +kernel
theorem dX8_canMake_95 : decode cX8_canMake 95 = .ok (.iconst 1, 1) := by decide +kernel
theorem dX8_canMake_96 : decode cX8_canMake 96 = .ok (.ireturn, 1) := by decide +kernel
theorem dX8_make_0 : decode cX8_make 0 = .ok (.iload_n 1, 1) := by decide +kernel
theorem dX8_make_1 : decode cX8_make 1 = .ok (.lookupswitch 57 #[(98, 42), (102, 35), (107, 49)], 35) := by decide +kernel
theorem dX8_make_36 : decode cX8_make 36 = .ok (.aload_n 0, 1) := by decide +kernel
theorem dX8_make_37 : decode cX8_make 37 = .ok (.invokevirtual 77, 3) := by decide +kernel
theorem dX8_make_40 : decode cX8_make 40 = .ok (.goto 24, 3) := by decide +kernel
theorem dX8_make_43 : decode cX8_make 43 = .ok (.aload_n 0, 1) := by decide +kernel
theorem dX8_make_44 : decode cX8_make 44 = .ok (.invokevirtual 80, 3) := by decide +kernel
theorem dX8_make_47 : decode cX8_make 47 = .ok (.goto 17, 3) := by decide +kernel
theorem dX8_make_50 : decode cX8_make 50 = .ok (.aload_n 0, 1) := by decide +kernel
theorem dX8_make_51 : decode cX8_make 51 = .ok (.iload_n 2, 1) := by decide +kernel
theorem dX8_make_52 : decode cX8_make 52 = .ok (.invokevirtual 83, 3) := by decide +kernel
theorem dX8_make_55 : decode cX8_make 55 = .ok (.goto 9, 3) := by decide +kernel
theorem dX8_make_58 : decode cX8_make 58 = .ok (.aload_n 0, 1) := by decide +kernel
theorem dX8_make_59 : decode cX8_make 59 = .ok (.iload_n 2, 1) := by decide +kernel
theorem dX8_make_60 : decode cX8_make 60 = .ok (.invokevirtual 87, 3) := by decide +kernel
theorem dX8_make_63 : decode cX8_make 63 = .ok (.pop, 1) := by decide +kernel
theorem dX8_make_64 : decode cX8_make 64 = .ok (.return_, 1) := by decide +kernel
theorem dX8_nextNumber_0 : decode cX8_nextNumber 0 = .ok (.aload_n 0, 1) := by decide +kernel
theorem dX8_nextNumber_1 : decode cX8_nextNumber 1 = .ok (.invokevirtual 56, 3) := by decide +kernel
theorem dX8_nextNumber_4 : decode cX8_nextNumber 4 = .ok (.astore_n 1, 1) := by decide +kernel
theorem dX8_nextNumber_5 : decode cX8_nextNumber 5 = .ok (.aload_n 1, 1) := by decide +kernel
theorem dX8_nextNumber_6 : decode cX8_nextNumber 6 = .ok (.ifnonnull 5, 3) := by decide +kernel
theorem dX8_nextNumber_9 : decode cX8_nextNumber 9 = .ok (.iconst (-1), 1) := by decide +kernel
theorem dX8_nextNumber_10 : decode cX8_nextNumber 10 = .ok (.ireturn, 1) := by decide +kernel
theorem dX8_nextNumber_11 : decode cX8_nextNumber 11 = .ok (.aload_n 0, 1) := by decide +kernel
theorem dX8_nextNumber_12 : decode cX8_nextNumber 12 = .ok (.getfield 28, 3) := by decide +kernel
theorem dX8_nextNumber_15 : decode cX8_nextNumber 15 = .ok (.getfield 90, 3) := by decide +kernel
theorem dX8_nextNumber_18 : decode cX8_nextNumber 18 = .ok (.aload_n 1, 1) := by decide +kernel
theorem dX8_nextNumber_19 : decode cX8_nextNumber 19 = .ok (.invokevirtual 93, 3) := by decide +kernel
theorem dX8_nextNumber_22 : decode cX8_nextNumber 22 = .ok (.if_icmp .ge 13, 3) := by decide +kernel
theorem dX8_nextNumber_25 : decode cX8_nextNumber 25 = .ok (.aload_n 0, 1) := by decide +kernel
theorem dX8_nextNumber_26 : decode cX8_nextNumber 26 = .ok (.getfield 28, 3) := by decide +kernel
theorem dX8_nextNumber_29 : decode cX8_nextNumber 29 = .ok (.getfield 46, 3) := by decide +kernel
theorem dX8_nextNumber_32 : decode cX8_nextNumber 32 = .ok (.goto 24, 3) := by decide +kernel
theorem dX8_nextNumber_35 : decode cX8_nextNumber 35 = .ok (.aload_n 0, 1) := by decide +kernel
theorem dX8_nextNumber_36 : decode cX8_nextNumber 36 = .ok (.getfield 12, 3) := by decide +kernel
theorem dX8_nextNumber_39 : decode cX8_nextNumber 39 = .ok (.aload_n 0, 1) := by decide +kernel
theorem dX8_nextNumber_40 : decode cX8_nextNumber 40 = .ok (.getfield 12, 3) := by decide +kernel
theorem dX8_nextNumber_43 : decode cX8_nextNumber 43 = .ok (.aload_n 0, 1) := by decide +kernel
theorem dX8_nextNumber_44 : decode cX8_nextNumber 44 = .ok (.getfield 28, 3) := by decide +kernel
theorem dX8_nextNumber_47 : decode cX8_nextNumber 47 = .ok (.getfield 46, 3) := by decide +kernel
theorem dX8_nextNumber_50 : decode cX8_nextNumber 50 = .ok (.invokevirtual 96, 3) := by decide +kernel
theorem dX8_nextNumber_53 : decode cX8_nextNumber 53 = .ok (.invokevirtual 99, 3) := by decide +kernel
theorem dX8_nextNumber_56 : decode cX8_nextNumber 56 = .ok (.ireturn, 1) := by decide +kernel
theorem dX8_goForward_0 : decode cX8_goForward 0 = .ok (.aload_n 0, 1) := by decide +kernel
theorem dX8_goForward_1 : decode cX8_goForward 1 = .ok (.invokevirtual 56, 3) := by decide +kernel
theorem dX8_goForward_4 : decode cX8_goForward 4 = .ok (.astore_n 1, 1) := by decide +kernel
theorem dX8_goForward_5 : decode cX8_goForward 5 = .ok (.aload_n 0, 1) := by decide +kernel
theorem dX8_goForward_6 : decode cX8_goForward 6 = .ok (.invokevirtual 64, 3) := by decide +kernel
theorem dX8_goForward_9 : decode cX8_goForward 9 = .ok (.istore_n 2, 1) := by decide +kernel
theorem dX8_goForward_10 : decode cX8_goForward 10 = .ok (.aload_n 1, 1) := by decide +kernel
theorem dX8_goForward_11 : decode cX8_goForward 11 = .ok (.ifnull 8, 3) := by decide +kernel
theorem dX8_goForward_14 : decode cX8_goForward 14 = .ok (.iload_n 2, 1) := by decide +kernel
theorem dX8_goForward_15 : decode cX8_goForward 15 = .ok (.iconst (-1), 1) := by decide +kernel
theorem dX8_goForward_16 : decode cX8_goForward 16 = .ok (.if_icmp .ne 4, 3) := by decide +kernel
theorem dX8_goForward_19 : decode cX8_goForward 19 = .ok (.return_, 1) := by decide +kernel
theorem dX8_goForward_20 : decode cX8_goForward 20 = .ok (.aload_n 0, 1) := by decide +kernel
theorem dX8_goForward_21 : decode cX8_goForward 21 = .ok (.getfield 28, 3) := by decide +kernel
theorem dX8_goForward_24 : decode cX8_goForward 24 = .ok (.getfield 90, 3) := by decide +kernel
theorem dX8_goForward_27 : decode cX8_goForward 27 = .ok (.aload_n 1, 1) := by decide +kernel
theorem dX8_goForward_28 : decode cX8_goForward 28 = .ok (.invokevirtual 93, 3) := by decide +kernel
theorem dX8_goForward_31 : decode cX8_goForward 31 = .ok (.if_icmp .ge 30, 3) := by decide +kernel
theorem dX8_goForward_34 : decode cX8_goForward 34 = .ok (.aload_n 0, 1) := by decide +kernel
theorem dX8_goForward_35 : decode cX8_goForward 35 = .ok (.getfield 28, 3) := by decide +kernel
theorem dX8_goForward_38 : decode cX8_goForward 38 = .ok (.iload_n 2, 1) := by decide +kernel
theorem dX8_goForward_39 : decode cX8_goForward 39 = .ok (.aload_n 0, 1) := by decide +kernel
theorem dX8_goForward_40 : decode cX8_goForward 40 = .ok (.getfield 28, 3) := by decide +kernel
theorem dX8_goForward_43 : decode cX8_goForward 43 = .ok (.getfield 90, 3) := by decide +kernel
theorem dX8_goForward_46 : decode cX8_goForward 46 = .ok (.iconst 1, 1) := by decide +kernel
theorem dX8_goForward_47 : decode cX8_goForward 47 = .ok (.iadd, 1) := by decide +kernel
theorem dX8_goForward_48 : decode cX8_goForward 48 = .ok (.aload_n 0, 1) := by decide +kernel
theorem dX8_goForward_49 : decode cX8_goForward 49 = .ok (.getfield 28, 3) := by decide +kernel
theorem dX8_goForward_52 : decode cX8_goForward 52 = .ok (.getfield 102, 3) := by decide +kernel
theorem dX8_goForward_55 : decode cX8_goForward 55 = .ok (.invokevirtual 105, 3) := by decide +kernel
theorem dX8_goForward_58 : decode cX8_goForward 58 = .ok (.goto 13, 3) := by decide +kernel
theorem dX8_goForward_61 : decode cX8_goForward 61 = .ok (.aload_n 0, 1) := by decide +kernel
theorem dX8_goForward_62 : decode cX8_goForward 62 = .ok (.getfield 28, 3) := by decide +kernel
theorem dX8_goForward_65 : decode cX8_goForward 65 = .ok (.iload_n 2, 1) := by decide +kernel
theorem dX8_goForward_66 : decode cX8_goForward 66 = .ok (.iconst 0, 1) := by decide +kernel
theorem dX8_goForward_67 : decode cX8_goForward 67 = .ok (.iconst 0, 1) := by decide +kernel
theorem dX8_goForward_68 : decode cX8_goForward 68 = .ok (.invokevirtual 105, 3) := by decide +kernel
theorem dX8_goForward_71 : decode cX8_goForward 71 = .ok (.return_, 1) := by decide +kernel
theorem dX8_goByKey_0 : decode cX8_goByKey 0 = .ok (.aload_n 0, 1) := by decide +kernel
theorem dX8_goByKey_1 : decode cX8_goByKey 1 = .ok (.invokevirtual 56, 3) := by decide +kernel
theorem dX8_goByKey_4 : decode cX8_goByKey 4 = .ok (.astore_n 2, 1) := by decide +kernel
theorem dX8_goByKey_5 : decode cX8_goByKey 5 = .ok (.aload_n 2, 1) := by decide +kernel
theorem dX8_goByKey_6 : decode cX8_goByKey 6 = .ok (.ifnull 26, 3) := by decide +kernel
theorem dX8_goByKey_9 : decode cX8_goByKey 9 = .ok (.aload_n 2, 1) := by decide +kernel
theorem dX8_goByKey_10 : decode cX8_goByKey 10 = .ok (.iload_n 1, 1) := by decide +kernel
theorem dX8_goByKey_11 : decode cX8_goByKey 11 = .ok (.invokevirtual 71, 3) := by decide +kernel
theorem dX8_goByKey_14 : decode cX8_goByKey 14 = .ok (.iconst (-1), 1) := by decide +kernel
theorem dX8_goByKey_15 : decode cX8_goByKey 15 = .ok (.if_icmp .eq 17, 3) := by decide +kernel
theorem dX8_goByKey_18 : decode cX8_goByKey 18 = .ok (.aload_n 0, 1) := by decide +kernel
theorem dX8_goByKey_19 : decode cX8_goByKey 19 = .ok (.getfield 28, 3) := by decide +kernel
theorem dX8_goByKey_22 : decode cX8_goByKey 22 = .ok (.aload_n 2, 1) := by decide +kernel
theorem dX8_goByKey_23 : decode cX8_goByKey 23 = .ok (.iload_n 1, 1) := by decide +kernel
theorem dX8_goByKey_24 : decode cX8_goByKey 24 = .ok (.invokevirtual 71, 3) := by decide +kernel
theorem dX8_goByKey_27 : decode cX8_goByKey 27 = .ok (.iconst 0, 1) := by decide +kernel
theorem dX8_goByKey_28 : decode cX8_goByKey 28 = .ok (.iconst 1, 1) := by decide +kernel
theorem dX8_goByKey_29 : decode cX8_goByKey 29 = .ok (.invokevirtual 105, 3) := by decide +kernel
theorem dX8_goByKey_32 : decode cX8_goByKey 32 = .ok (.return_, 1) := by decide +kernel
theorem dX8_backPlace_0 : decode cX8_backPlace 0 = .ok (.aload_n 0, 1) := by decide +kernel
theorem dX8_backPlace_1 : decode cX8_backPlace 1 = .ok (.getfield 28, 3) := by decide +kernel
theorem dX8_backPlace_4 : decode cX8_backPlace 4 = .ok (.getfield 109, 3) := by decide +kernel
theorem dX8_backPlace_7 : decode cX8_backPlace 7 = .ok (.iconst 1, 1) := by decide +kernel
theorem dX8_backPlace_8 : decode cX8_backPlace 8 = .ok (.isub, 1) := by decide +kernel
theorem dX8_backPlace_9 : decode cX8_backPlace 9 = .ok (.istore_n 1, 1) := by decide +kernel
theorem dX8_backPlace_10 : decode cX8_backPlace 10 = .ok (.iload_n 1, 1) := by decide +kernel
theorem dX8_backPlace_11 : decode cX8_backPlace 11 = .ok (.ifCond .lt 52, 3) := by decide +kernel
theorem dX8_backPlace_14 : decode cX8_backPlace 14 = .ok (.aload_n 0, 1) := by decide +kernel
theorem dX8_backPlace_15 : decode cX8_backPlace 15 = .ok (.getfield 12, 3) := by decide +kernel
theorem dX8_backPlace_18 : decode cX8_backPlace 18 = .ok (.aload_n 0, 1) := by decide +kernel
theorem dX8_backPlace_19 : decode cX8_backPlace 19 = .ok (.getfield 28, 3) := by decide +kernel
theorem dX8_backPlace_22 : decode cX8_backPlace 22 = .ok (.iload_n 1, 1) := by decide +kernel
theorem dX8_backPlace_23 : decode cX8_backPlace 23 = .ok (.iconst 0, 1) := by decide +kernel
theorem dX8_backPlace_24 : decode cX8_backPlace 24 = .ok (.invokevirtual 112, 3) := by decide +kernel
theorem dX8_backPlace_27 : decode cX8_backPlace 27 = .ok (.invokevirtual 49, 3) := by decide +kernel
theorem dX8_backPlace_30 : decode cX8_backPlace 30 = .ok (.astore_n 2, 1) := by decide +kernel
theorem dX8_backPlace_31 : decode cX8_backPlace 31 = .ok (.aload_n 2, 1) := by decide +kernel
theorem dX8_backPlace_32 : decode cX8_backPlace 32 = .ok (.ifnull 25, 3) := by decide +kernel
theorem dX8_backPlace_35 : decode cX8_backPlace 35 = .ok (.aload_n 0, 1) := by decide +kernel
theorem dX8_backPlace_36 : decode cX8_backPlace 36 = .ok (.getfield 28, 3) := by decide +kernel
theorem dX8_backPlace_39 : decode cX8_backPlace 39 = .ok (.iload_n 1, 1) := by decide +kernel
theorem dX8_backPlace_40 : decode cX8_backPlace 40 = .ok (.iconst 2, 1) := by decide +kernel
theorem dX8_backPlace_41 : decode cX8_backPlace 41 = .ok (.invokevirtual 112, 3) := by decide +kernel
theorem dX8_backPlace_44 : decode cX8_backPlace 44 = .ok (.iconst 1, 1) := by decide +kernel
theorem dX8_backPlace_45 : decode cX8_backPlace 45 = .ok (.if_icmp .eq 10, 3) := by decide +kernel
theorem dX8_backPlace_48 : decode cX8_backPlace 48 = .ok (.aload_n 2, 1) := by decide +kernel
theorem dX8_backPlace_49 : decode cX8_backPlace 49 = .ok (.getfield 116, 3) := by decide +kernel
theorem dX8_backPlace_52 : decode cX8_backPlace 52 = .ok (.ifCond .ne 5, 3) := by decide +kernel
theorem dX8_backPlace_55 : decode cX8_backPlace 55 = .ok (.iload_n 1, 1) := by decide +kernel
theorem dX8_backPlace_56 : decode cX8_backPlace 56 = .ok (.ireturn, 1) := by decide +kernel
theorem dX8_backPlace_57 : decode cX8_backPlace 57 = .ok (.iinc 1 (-1), 3) := by decide +kernel
theorem dX8_backPlace_60 : decode cX8_backPlace 60 = .ok (.goto (-50), 3) := by decide +kernel
theorem dX8_backPlace_63 : decode cX8_backPlace 63 = .ok (.iconst (-1), 1) := by decide +kernel
theorem dX8_backPlace_64 : decode cX8_backPlace 64 = .ok (.ireturn, 1) := by decide +kernel
theorem dX8_goBack_0 : decode cX8_goBack 0 = .ok (.aload_n 0, 1) := by decide +kernel
theorem dX8_goBack_1 : decode cX8_goBack 1 = .ok (.getfield 28, 3) := by decide +kernel
theorem dX8_goBack_4 : decode cX8_goBack 4 = .ok (.aload_n 0, 1) := by decide +kernel
theorem dX8_goBack_5 : decode cX8_goBack 5 = .ok (.invokevirtual 68, 3) := by decide +kernel
theorem dX8_goBack_8 : decode cX8_goBack 8 = .ok (.invokevirtual 120, 3) := by decide +kernel
theorem dX8_goBack_11 : decode cX8_goBack 11 = .ok (.aload_n 0, 1) := by decide +kernel
theorem dX8_goBack_12 : decode cX8_goBack 12 = .ok (.invokevirtual 123, 3) := by decide +kernel
theorem dX8_goBack_15 : decode cX8_goBack 15 = .ok (.return_, 1) := by decide +kernel
theorem dX8_clampStep_0 : decode cX8_clampStep 0 = .ok (.aload_n 0, 1) := by decide +kernel
theorem dX8_clampStep_1 : decode cX8_clampStep 1 = .ok (.invokevirtual 56, 3) := by decide +kernel
theorem dX8_clampStep_4 : decode cX8_clampStep 4 = .ok (.astore_n 1, 1) := by decide +kernel
theorem dX8_clampStep_5 : decode cX8_clampStep 5 = .ok (.aload_n 1, 1) := by decide +kernel
theorem dX8_clampStep_6 : decode cX8_clampStep 6 = .ok (.ifnull 24, 3) := by decide +kernel
theorem dX8_clampStep_9 : decode cX8_clampStep 9 = .ok (.aload_n 0, 1) := by decide +kernel
theorem dX8_clampStep_10 : decode cX8_clampStep 10 = .ok (.getfield 28, 3) := by decide +kernel
theorem dX8_clampStep_13 : decode cX8_clampStep 13 = .ok (.aload_n 0, 1) := by decide +kernel
theorem dX8_clampStep_14 : decode cX8_clampStep 14 = .ok (.getfield 28, 3) := by decide +kernel
theorem dX8_clampStep_17 : decode cX8_clampStep 17 = .ok (.getfield 90, 3) := by decide +kernel
theorem dX8_clampStep_20 : decode cX8_clampStep 20 = .ok (.aload_n 1, 1) := by decide +kernel
theorem dX8_clampStep_21 : decode cX8_clampStep 21 = .ok (.invokevirtual 93, 3) := by decide +kernel
theorem dX8_clampStep_24 : decode cX8_clampStep 24 = .ok (.invokestatic 126, 3) := by decide +kernel
theorem dX8_clampStep_27 : decode cX8_clampStep 27 = .ok (.putfield 90, 3) := by decide +kernel
theorem dX8_clampStep_30 : decode cX8_clampStep 30 = .ok (.return_, 1) := by decide +kernel
theorem dX8_passSeconds_0 : decode cX8_passSeconds 0 = .ok (.iconst 0, 1) := by decide +kernel
theorem dX8_passSeconds_1 : decode cX8_passSeconds 1 = .ok (.istore_n 2, 1) := by decide +kernel
theorem dX8_passSeconds_2 : decode cX8_passSeconds 2 = .ok (.iconst 0, 1) := by decide +kernel
theorem dX8_passSeconds_3 : decode cX8_passSeconds 3 = .ok (.istore_n 3, 1) := by decide +kernel
theorem dX8_passSeconds_4 : decode cX8_passSeconds 4 = .ok (.iload_n 3, 1) := by decide +kernel
theorem dX8_passSeconds_5 : decode cX8_passSeconds 5 = .ok (.iload_n 1, 1) := by decide +kernel
theorem dX8_passSeconds_6 : decode cX8_passSeconds 6 = .ok (.if_icmp .ge 71, 3) := by decide +kernel
theorem dX8_passSeconds_9 : decode cX8_passSeconds 9 = .ok (.aload_n 0, 1) := by decide +kernel
theorem dX8_passSeconds_10 : decode cX8_passSeconds 10 = .ok (.invokevirtual 60, 3) := by decide +kernel
theorem dX8_passSeconds_13 : decode cX8_passSeconds 13 = .ok (.ifCond .ne 64, 3) := by decide +kernel
theorem dX8_passSeconds_16 : decode cX8_passSeconds 16 = .ok (.aload_n 0, 1) := by decide +kernel
theorem dX8_passSeconds_17 : decode cX8_passSeconds 17 = .ok (.getfield 28, 3) := by decide +kernel
theorem dX8_passSeconds_20 : decode cX8_passSeconds 20 = .ok (.dup, 1) := by decide +kernel
theorem dX8_passSeconds_21 : decode cX8_passSeconds 21 = .ok (.getfield 53, 3) := by decide +kernel
theorem dX8_passSeconds_24 : decode cX8_passSeconds 24 = .ok (.iconst 1, 1) := by decide +kernel
theorem dX8_passSeconds_25 : decode cX8_passSeconds 25 = .ok (.iadd, 1) := by decide +kernel
theorem dX8_passSeconds_26 : decode cX8_passSeconds 26 = .ok (.putfield 53, 3) := by decide +kernel
theorem dX8_passSeconds_29 : decode cX8_passSeconds 29 = .ok (.aload_n 0, 1) := by decide +kernel
theorem dX8_passSeconds_30 : decode cX8_passSeconds 30 = .ok (.getfield 28, 3) := by decide +kernel
theorem dX8_passSeconds_33 : decode cX8_passSeconds 33 = .ok (.dup, 1) := by decide +kernel
theorem dX8_passSeconds_34 : decode cX8_passSeconds 34 = .ok (.getfield 131, 3) := by decide +kernel
theorem dX8_passSeconds_37 : decode cX8_passSeconds 37 = .ok (.iconst 1, 1) := by decide +kernel
theorem dX8_passSeconds_38 : decode cX8_passSeconds 38 = .ok (.iadd, 1) := by decide +kernel
theorem dX8_passSeconds_39 : decode cX8_passSeconds 39 = .ok (.putfield 131, 3) := by decide +kernel
theorem dX8_passSeconds_42 : decode cX8_passSeconds 42 = .ok (.aload_n 0, 1) := by decide +kernel
theorem dX8_passSeconds_43 : decode cX8_passSeconds 43 = .ok (.invokevirtual 60, 3) := by decide +kernel
theorem dX8_passSeconds_46 : decode cX8_passSeconds 46 = .ok (.ifCond .ne 25, 3) := by decide +kernel
theorem dX8_passSeconds_49 : decode cX8_passSeconds 49 = .ok (.aload_n 0, 1) := by decide +kernel
theorem dX8_passSeconds_50 : decode cX8_passSeconds 50 = .ok (.invokevirtual 134, 3) := by decide +kernel
theorem dX8_passSeconds_53 : decode cX8_passSeconds 53 = .ok (.ifCond .eq 18, 3) := by decide +kernel
theorem dX8_passSeconds_56 : decode cX8_passSeconds 56 = .ok (.aload_n 0, 1) := by decide +kernel
theorem dX8_passSeconds_57 : decode cX8_passSeconds 57 = .ok (.invokevirtual 64, 3) := by decide +kernel
theorem dX8_passSeconds_60 : decode cX8_passSeconds 60 = .ok (.iconst (-1), 1) := by decide +kernel
theorem dX8_passSeconds_61 : decode cX8_passSeconds 61 = .ok (.if_icmp .eq 10, 3) := by decide +kernel
theorem dX8_passSeconds_64 : decode cX8_passSeconds 64 = .ok (.aload_n 0, 1) := by decide +kernel
theorem dX8_passSeconds_65 : decode cX8_passSeconds 65 = .ok (.invokevirtual 77, 3) := by decide +kernel
theorem dX8_passSeconds_68 : decode cX8_passSeconds 68 = .ok (.iinc 2 1, 3) := by decide +kernel
theorem dX8_passSeconds_71 : decode cX8_passSeconds 71 = .ok (.iinc 3 1, 3) := by decide +kernel
theorem dX8_passSeconds_74 : decode cX8_passSeconds 74 = .ok (.goto (-70), 3) := by decide +kernel
theorem dX8_passSeconds_77 : decode cX8_passSeconds 77 = .ok (.iload_n 2, 1) := by decide +kernel
theorem dX8_passSeconds_78 : decode cX8_passSeconds 78 = .ok (.ireturn, 1) := by decide +kernel
theorem dX8_isPauseOver_0 : decode cX8_isPauseOver 0 = .ok (.aload_n 0, 1) := by decide +kernel
theorem dX8_isPauseOver_1 : decode cX8_isPauseOver 1 = .ok (.invokevirtual 56, 3) := by decide +kernel
theorem dX8_isPauseOver_4 : decode cX8_isPauseOver 4 = .ok (.astore_n 1, 1) := by decide +kernel
theorem dX8_isPauseOver_5 : decode cX8_isPauseOver 5 = .ok (.aload_n 1, 1) := by decide +kernel
theorem dX8_isPauseOver_6 : decode cX8_isPauseOver 6 = .ok (.ifnull 28, 3) := by decide +kernel
theorem dX8_isPauseOver_9 : decode cX8_isPauseOver 9 = .ok (.aload_n 1, 1) := by decide +kernel
theorem dX8_isPauseOver_10 : decode cX8_isPauseOver 10 = .ok (.getfield 137, 3) := by decide +kernel
theorem dX8_isPauseOver_13 : decode cX8_isPauseOver 13 = .ok (.ifCond .le 21, 3) := by decide +kernel
theorem dX8_isPauseOver_16 : decode cX8_isPauseOver 16 = .ok (.aload_n 0, 1) := by decide +kernel
theorem dX8_isPauseOver_17 : decode cX8_isPauseOver 17 = .ok (.getfield 28, 3) := by decide +kernel
theorem dX8_isPauseOver_20 : decode cX8_isPauseOver 20 = .ok (.getfield 131, 3) := by decide +kernel
theorem dX8_isPauseOver_23 : decode cX8_isPauseOver 23 = .ok (.aload_n 1, 1) := by decide +kernel
theorem dX8_isPauseOver_24 : decode cX8_isPauseOver 24 = .ok (.getfield 137, 3) := by decide +kernel
theorem dX8_isPauseOver_27 : decode cX8_isPauseOver 27 = .ok (.if_icmp .lt 7, 3) := by decide +kernel
theorem dX8_isPauseOver_30 : decode cX8_isPauseOver 30 = .ok (.iconst 1, 1) := by decide +kernel
theorem dX8_isPauseOver_31 : decode cX8_isPauseOver 31 = .ok (.goto 4, 3) := by decide +kernel
theorem dX8_isPauseOver_34 : decode cX8_isPauseOver 34 = .ok (.iconst 0, 1) := by decide +kernel
theorem dX8_isPauseOver_35 : decode cX8_isPauseOver 35 = .ok (.ireturn, 1) := by decide +kernel
end
section
theorem dX9_init_0 : decode cX9_init 0 = .ok (.aload_n 0, 1) := by decide +kernel
theorem dX9_init_1 : decode cX9_init 1 = .ok (.invokespecial 1, 3) := by decide +kernel
theorem dX9_init_4 : decode cX9_init 4 = .ok (.aload_n 0, 1) := by decide +kernel
theorem dX9_init_5 : decode cX9_init 5 = .ok (.new 7, 3) := by decide +kernel
theorem dX9_init_8 : decode cX9_init 8 = .ok (.dup, 1) := by decide +kernel
theorem dX9_init_9 : decode cX9_init 9 = .ok (.invokespecial 9, 3) := by decide +kernel
theorem dX9_init_12 : decode cX9_init 12 = .ok (.putfield 10, 3) := by decide +kernel
theorem dX9_init_15 : decode cX9_init 15 = .ok (.aload_n 0, 1) := by decide +kernel
theorem dX9_init_16 : decode cX9_init 16 = .ok (.new 16, 3) := by decide +kernel
theorem dX9_init_19 : decode cX9_init 19 = .ok (.dup, 1) := by decide +kernel
theorem dX9_init_20 : decode cX9_init 20 = .ok (.invokespecial 18, 3) := by decide +kernel
theorem dX9_init_23 : decode cX9_init 23 = .ok (.putfield 19, 3) := by decide +kernel
theorem dX9_init_26 : decode cX9_init 26 = .ok (.aload_n 0, 1) := by decide +kernel
theorem dX9_init_27 : decode cX9_init 27 = .ok (.new 23, 3) := by decide +kernel
theorem dX9_init_30 : decode cX9_init 30 = .ok (.dup, 1) := by decide +kernel
theorem dX9_init_31 : decode cX9_init 31 = .ok (.invokespecial 25, 3) := by decide +kernel
theorem dX9_init_34 : decode cX9_init 34 = .ok (.putfield 26, 3) := by decide +kernel
theorem dX9_init_37 : decode cX9_init 37 = .ok (.aload_n 0, 1) := by decide +kernel
theorem dX9_init_38 : decode cX9_init 38 = .ok (.new 30, 3) := by decide +kernel
theorem dX9_init_41 : decode cX9_init 41 = .ok (.dup, 1) := by decide +kernel
theorem dX9_init_42 : decode cX9_init 42 = .ok (.invokespecial 32, 3) := by decide +kernel
theorem dX9_init_45 : decode cX9_init 45 = .ok (.putfield 33, 3) := by decide +kernel
theorem dX9_init_48 : decode cX9_init 48 = .ok (.aload_n 0, 1) := by decide +kernel
theorem dX9_init_49 : decode cX9_init 49 = .ok (.new 37, 3) := by decide +kernel
theorem dX9_init_52 : decode cX9_init 52 = .ok (.dup, 1) := by decide +kernel
theorem dX9_init_53 : decode cX9_init 53 = .ok (.invokespecial 39, 3) := by decide +kernel
theorem dX9_init_56 : decode cX9_init 56 = .ok (.putfield 40, 3) := by decide +kernel
theorem dX9_init_59 : decode cX9_init 59 = .ok (.return_, 1) := by decide +kernel
theorem dX9_addSlide_0 : decode cX9_addSlide 0 = .ok (.aload_n 0, 1) := by decide +kernel
theorem dX9_addSlide_1 : decode cX9_addSlide 1 = .ok (.getfield 10, 3) := by decide +kernel
theorem dX9_addSlide_4 : decode cX9_addSlide 4 = .ok (.getfield 44, 3) := by decide +kernel
theorem dX9_addSlide_7 : decode cX9_addSlide 7 = .ok (.invokevirtual 48, 3) := by decide +kernel
theorem dX9_addSlide_10 : decode cX9_addSlide 10 = .ok (.istore_n 1, 1) := by decide +kernel
theorem dX9_addSlide_11 : decode cX9_addSlide 11 = .ok (.iload_n 1, 1) := by decide +kernel
theorem dX9_addSlide_12 : decode cX9_addSlide 12 = .ok (.iconst (-1), 1) := by decide +kernel
theorem dX9_addSlide_13 : decode cX9_addSlide 13 = .ok (.if_icmp .ne 6, 3) := by decide +kernel
theorem dX9_addSlide_16 : decode cX9_addSlide 16 = .ok (.bipush (-4), 2) := by decide +kernel
theorem dX9_addSlide_18 : decode cX9_addSlide 18 = .ok (.ireturn, 1) := by decide +kernel
theorem dX9_addSlide_19 : decode cX9_addSlide 19 = .ok (.aload_n 0, 1) := by decide +kernel
theorem dX9_addSlide_20 : decode cX9_addSlide 20 = .ok (.getfield 19, 3) := by decide +kernel
theorem dX9_addSlide_23 : decode cX9_addSlide 23 = .ok (.aload_n 0, 1) := by decide +kernel
theorem dX9_addSlide_24 : decode cX9_addSlide 24 = .ok (.getfield 10, 3) := by decide +kernel
theorem dX9_addSlide_27 : decode cX9_addSlide 27 = .ok (.invokevirtual 54, 3) := by decide +kernel
theorem dX9_addSlide_30 : decode cX9_addSlide 30 = .ok (.aload_n 0, 1) := by decide +kernel
theorem dX9_addSlide_31 : decode cX9_addSlide 31 = .ok (.getfield 10, 3) := by decide +kernel
theorem dX9_addSlide_34 : decode cX9_addSlide 34 = .ok (.getfield 44, 3) := by decide +kernel
theorem dX9_addSlide_37 : decode cX9_addSlide 37 = .ok (.iload_n 1, 1) := by decide +kernel
theorem dX9_addSlide_38 : decode cX9_addSlide 38 = .ok (.invokevirtual 58, 3) := by decide +kernel
theorem dX9_addSlide_41 : decode cX9_addSlide 41 = .ok (.iload_n 1, 1) := by decide +kernel
theorem dX9_addSlide_42 : decode cX9_addSlide 42 = .ok (.ireturn, 1) := by decide +kernel
theorem dX9_removeSlide_0 : decode cX9_removeSlide 0 = .ok (.aload_n 0, 1) := by decide +kernel
theorem dX9_removeSlide_1 : decode cX9_removeSlide 1 = .ok (.getfield 10, 3) := by decide +kernel
theorem dX9_removeSlide_4 : decode cX9_removeSlide 4 = .ok (.getfield 44, 3) := by decide +kernel
theorem dX9_removeSlide_7 : decode cX9_removeSlide 7 = .ok (.iload_n 1, 1) := by decide +kernel
theorem dX9_removeSlide_8 : decode cX9_removeSlide 8 = .ok (.invokevirtual 62, 3) := by decide +kernel
theorem dX9_removeSlide_11 : decode cX9_removeSlide 11 = .ok (.ifnonnull 5, 3) := by decide +kernel
theorem dX9_removeSlide_14 : decode cX9_removeSlide 14 = .ok (.iconst (-1), 1) := by decide +kernel
theorem dX9_removeSlide_15 : decode cX9_removeSlide 15 = .ok (.ireturn, 1) := by decide +kernel
theorem dX9_removeSlide_16 : decode cX9_removeSlide 16 = .ok (.aload_n 0, 1) := by decide +kernel
theorem dX9_removeSlide_17 : decode cX9_removeSlide 17 = .ok (.getfield 10, 3) := by decide +kernel
theorem dX9_removeSlide_20 : decode cX9_removeSlide 20 = .ok (.getfield 66, 3) := by decide +kernel
theorem dX9_removeSlide_23 : decode cX9_removeSlide 23 = .ok (.getfield 70, 3) := by decide +kernel
theorem dX9_removeSlide_26 : decode cX9_removeSlide 26 = .ok (.iload_n 1, 1) := by decide +kernel
theorem dX9_removeSlide_27 : decode cX9_removeSlide 27 = .ok (.if_icmp .ne 6, 3) := by decide +kernel
theorem dX9_removeSlide_30 : decode cX9_removeSlide 30 = .ok (.bipush (-5), 2) := by decide +kernel
theorem dX9_removeSlide_32 : decode cX9_removeSlide 32 = .ok (.ireturn, 1) := by decide +kernel
theorem dX9_removeSlide_33 : decode cX9_removeSlide 33 = .ok (.aload_n 0, 1) := by decide +kernel
theorem dX9_removeSlide_34 : decode cX9_removeSlide 34 = .ok (.getfield 19, 3) := by decide +kernel
theorem dX9_removeSlide_37 : decode cX9_removeSlide 37 = .ok (.aload_n 0, 1) := by decide +kernel
theorem dX9_removeSlide_38 : decode cX9_removeSlide 38 = .ok (.getfield 10, 3) := by decide +kernel
theorem dX9_removeSlide_41 : decode cX9_removeSlide 41 = .ok (.invokevirtual 54, 3) := by decide +kernel
theorem dX9_removeSlide_44 : decode cX9_removeSlide 44 = .ok (.aload_n 0, 1) := by decide +kernel
theorem dX9_removeSlide_45 : decode cX9_removeSlide 45 = .ok (.getfield 10, 3) := by decide +kernel
theorem dX9_removeSlide_48 : decode cX9_removeSlide 48 = .ok (.getfield 44, 3) := by decide +kernel
theorem dX9_removeSlide_51 : decode cX9_removeSlide 51 = .ok (.iload_n 1, 1) := by decide +kernel
theorem dX9_removeSlide_52 : decode cX9_removeSlide 52 = .ok (.invokevirtual 76, 3) := by decide +kernel
theorem dX9_removeSlide_55 : decode cX9_removeSlide 55 = .ok (.aload_n 0, 1) := by decide +kernel
theorem dX9_removeSlide_56 : decode cX9_removeSlide 56 = .ok (.getfield 10, 3) := by decide +kernel
theorem dX9_removeSlide_59 : decode cX9_removeSlide 59 = .ok (.getfield 44, 3) := by decide +kernel
theorem dX9_removeSlide_62 : decode cX9_removeSlide 62 = .ok (.getfield 79, 3) := by decide +kernel
theorem dX9_removeSlide_65 : decode cX9_removeSlide 65 = .ok (.ireturn, 1) := by decide +kernel
theorem dX9_moveSlide_0 : decode cX9_moveSlide 0 = .ok (.aload_n 0, 1) := by decide +kernel
theorem dX9_moveSlide_1 : decode cX9_moveSlide 1 = .ok (.getfield 10, 3) := by decide +kernel
theorem dX9_moveSlide_4 : decode cX9_moveSlide 4 = .ok (.getfield 44, 3) := by decide +kernel
theorem dX9_moveSlide_7 : decode cX9_moveSlide 7 = .ok (.iload_n 1, 1) := by decide +kernel
theorem dX9_moveSlide_8 : decode cX9_moveSlide 8 = .ok (.invokevirtual 62, 3) := by decide +kernel
theorem dX9_moveSlide_11 : decode cX9_moveSlide 11 = .ok (.ifnonnull 5, 3) := by decide +kernel
theorem dX9_moveSlide_14 : decode cX9_moveSlide 14 = .ok (.iconst (-1), 1) := by decide +kernel
theorem dX9_moveSlide_15 : decode cX9_moveSlide 15 = .ok (.ireturn, 1) := by decide +kernel
theorem dX9_moveSlide_16 : decode cX9_moveSlide 16 = .ok (.iload_n 2, 1) := by decide +kernel
theorem dX9_moveSlide_17 : decode cX9_moveSlide 17 = .ok (.iconst 0, 1) := by decide +kernel
theorem dX9_moveSlide_18 : decode cX9_moveSlide 18 = .ok (.aload_n 0, 1) := by decide +kernel
theorem dX9_moveSlide_19 : decode cX9_moveSlide 19 = .ok (.getfield 10, 3) := by decide +kernel
theorem dX9_moveSlide_22 : decode cX9_moveSlide 22 = .ok (.getfield 44, 3) := by decide +kernel
theorem dX9_moveSlide_25 : decode cX9_moveSlide 25 = .ok (.getfield 79, 3) := by decide +kernel
theorem dX9_moveSlide_28 : decode cX9_moveSlide 28 = .ok (.iconst 1, 1) := by decide +kernel
theorem dX9_moveSlide_29 : decode cX9_moveSlide 29 = .ok (.isub, 1) := by decide +kernel
theorem dX9_moveSlide_30 : decode cX9_moveSlide 30 = .ok (.invokestatic 82, 3) := by decide +kernel
theorem dX9_moveSlide_33 : decode cX9_moveSlide 33 = .ok (.ifCond .ne 6, 3) := by decide +kernel
theorem dX9_moveSlide_36 : decode cX9_moveSlide 36 = .ok (.bipush (-2), 2) := by decide +kernel
theorem dX9_moveSlide_38 : decode cX9_moveSlide 38 = .ok (.ireturn, 1) := by decide +kernel
theorem dX9_moveSlide_39 : decode cX9_moveSlide 39 = .ok (.aload_n 0, 1) := by decide +kernel
theorem dX9_moveSlide_40 : decode cX9_moveSlide 40 = .ok (.getfield 19, 3) := by decide +kernel
theorem dX9_moveSlide_43 : decode cX9_moveSlide 43 = .ok (.aload_n 0, 1) := by decide +kernel
theorem dX9_moveSlide_44 : decode cX9_moveSlide 44 = .ok (.getfield 10, 3) := by decide +kernel
theorem dX9_moveSlide_47 : decode cX9_moveSlide 47 = .ok (.invokevirtual 54, 3) := by decide +kernel
theorem dX9_moveSlide_50 : decode cX9_moveSlide 50 = .ok (.aload_n 0, 1) := by decide +kernel
theorem dX9_moveSlide_51 : decode cX9_moveSlide 51 = .ok (.getfield 10, 3) := by decide +kernel
theorem dX9_moveSlide_54 : decode cX9_moveSlide 54 = .ok (.getfield 44, 3) := by decide +kernel
theorem dX9_moveSlide_57 : decode cX9_moveSlide 57 = .ok (.iload_n 1, 1) := by decide +kernel
theorem dX9_moveSlide_58 : decode cX9_moveSlide 58 = .ok (.invokevirtual 86, 3) := by decide +kernel
theorem dX9_moveSlide_61 : decode cX9_moveSlide 61 = .ok (.istore_n 3, 1) := by decide +kernel
theorem dX9_moveSlide_62 : decode cX9_moveSlide 62 = .ok (.aload_n 0, 1) := by decide +kernel
theorem dX9_moveSlide_63 : decode cX9_moveSlide 63 = .ok (.getfield 10, 3) := by decide +kernel
theorem dX9_moveSlide_66 : decode cX9_moveSlide 66 = .ok (.getfield 44, 3) := by decide +kernel
theorem dX9_moveSlide_69 : decode cX9_moveSlide 69 = .ok (.iload_n 1, 1) := by decide +kernel
theorem dX9_moveSlide_70 : decode cX9_moveSlide 70 = .ok (.invokevirtual 90, 3) := by decide +kernel
theorem dX9_moveSlide_73 : decode cX9_moveSlide 73 = .ok (.aload_n 0, 1) := by decide +kernel
theorem dX9_moveSlide_74 : decode cX9_moveSlide 74 = .ok (.getfield 10, 3) := by decide +kernel
theorem dX9_moveSlide_77 : decode cX9_moveSlide 77 = .ok (.getfield 44, 3) := by decide +kernel
theorem dX9_moveSlide_80 : decode cX9_moveSlide 80 = .ok (.iload_n 1, 1) := by decide +kernel
theorem dX9_moveSlide_81 : decode cX9_moveSlide 81 = .ok (.iload_n 2, 1) := by decide +kernel
theorem dX9_moveSlide_82 : decode cX9_moveSlide 82 = .ok (.invokevirtual 93, 3) := by decide +kernel
theorem dX9_moveSlide_85 : decode cX9_moveSlide 85 = .ok (.iload_n 3, 1) := by decide +kernel
theorem dX9_moveSlide_86 : decode cX9_moveSlide 86 = .ok (.ireturn, 1) := by decide +kernel
theorem dX9_hide_0 : decode cX9_hide 0 = .ok (.aload_n 0, 1) := by decide +kernel
theorem dX9_hide_1 : decode cX9_hide 1 = .ok (.getfield 10, 3) := by decide +kernel
theorem dX9_hide_4 : decode cX9_hide 4 = .ok (.getfield 44, 3) := by decide +kernel
theorem dX9_hide_7 : decode cX9_hide 7 = .ok (.iload_n 1, 1) := by decide +kernel
theorem dX9_hide_8 : decode cX9_hide 8 = .ok (.invokevirtual 62, 3) := by decide +kernel
theorem dX9_hide_11 : decode cX9_hide 11 = .ok (.astore_n 3, 1) := by decide +kernel
theorem dX9_hide_12 : decode cX9_hide 12 = .ok (.aload_n 3, 1) := by decide +kernel
theorem dX9_hide_13 : decode cX9_hide 13 = .ok (.ifnonnull 5, 3) := by decide +kernel
theorem dX9_hide_16 : decode cX9_hide 16 = .ok (.iconst (-1), 1) := by decide +kernel
theorem dX9_hide_17 : decode cX9_hide 17 = .ok (.ireturn, 1) := by decide +kernel
theorem dX9_hide_18 : decode cX9_hide 18 = .ok (.aload_n 0, 1) := by decide +kernel
theorem dX9_hide_19 : decode cX9_hide 19 = .ok (.getfield 19, 3) := by decide +kernel
theorem dX9_hide_22 : decode cX9_hide 22 = .ok (.aload_n 0, 1) := by decide +kernel
theorem dX9_hide_23 : decode cX9_hide 23 = .ok (.getfield 10, 3) := by decide +kernel
theorem dX9_hide_26 : decode cX9_hide 26 = .ok (.invokevirtual 54, 3) := by decide +kernel
theorem dX9_hide_29 : decode cX9_hide 29 = .ok (.aload_n 3, 1) := by decide +kernel
theorem dX9_hide_30 : decode cX9_hide 30 = .ok (.iload_n 2, 1) := by decide +kernel
theorem dX9_hide_31 : decode cX9_hide 31 = .ok (.putfield 97, 3) := by decide +kernel
theorem dX9_hide_34 : decode cX9_hide 34 = .ok (.aload_n 0, 1) := by decide +kernel
theorem dX9_hide_35 : decode cX9_hide 35 = .ok (.getfield 10, 3) := by decide +kernel
theorem dX9_hide_38 : decode cX9_hide 38 = .ok (.getfield 44, 3) := by decide +kernel
theorem dX9_hide_41 : decode cX9_hide 41 = .ok (.invokevirtual 103, 3) := by decide +kernel
theorem dX9_hide_44 : decode cX9_hide 44 = .ok (.ireturn, 1) := by decide +kernel
theorem dX9_setPause_0 : decode cX9_setPause 0 = .ok (.aload_n 0, 1) := by decide +kernel
theorem dX9_setPause_1 : decode cX9_setPause 1 = .ok (.getfield 10, 3) := by decide +kernel
theorem dX9_setPause_4 : decode cX9_setPause 4 = .ok (.getfield 44, 3) := by decide +kernel
theorem dX9_setPause_7 : decode cX9_setPause 7 = .ok (.iload_n 1, 1) := by decide +kernel
theorem dX9_setPause_8 : decode cX9_setPause 8 = .ok (.invokevirtual 62, 3) := by decide +kernel
theorem dX9_setPause_11 : decode cX9_setPause 11 = .ok (.astore_n 3, 1) := by decide +kernel
theorem dX9_setPause_12 : decode cX9_setPause 12 = .ok (.aload_n 3, 1) := by decide +kernel
theorem dX9_setPause_13 : decode cX9_setPause 13 = .ok (.ifnonnull 5, 3) := by decide +kernel
theorem dX9_setPause_16 : decode cX9_setPause 16 = .ok (.iconst (-1), 1) := by decide +kernel
theorem dX9_setPause_17 : decode cX9_setPause 17 = .ok (.ireturn, 1) := by decide +kernel
theorem dX9_setPause_18 : decode cX9_setPause 18 = .ok (.iload_n 2, 1) := by decide +kernel
theorem dX9_setPause_19 : decode cX9_setPause 19 = .ok (.iconst 0, 1) := by decide +kernel
theorem dX9_setPause_20 : decode cX9_setPause 20 = .ok (.bipush 60, 2) := by decide +kernel
theorem dX9_setPause_22 : decode cX9_setPause 22 = .ok (.invokestatic 82, 3) := by decide +kernel
theorem dX9_setPause_25 : decode cX9_setPause 25 = .ok (.ifCond .ne 6, 3) := by decide +kernel
theorem dX9_setPause_28 : decode cX9_setPause 28 = .ok (.bipush (-2), 2) := by decide +kernel
theorem dX9_setPause_30 : decode cX9_setPause 30 = .ok (.ireturn, 1) := by decide +kernel
theorem dX9_setPause_31 : decode cX9_setPause 31 = .ok (.aload_n 0, 1) := by decide +kernel
theorem dX9_setPause_32 : decode cX9_setPause 32 = .ok (.getfield 19, 3) := by decide +kernel
theorem dX9_setPause_35 : decode cX9_setPause 35 = .ok (.aload_n 0, 1) := by decide +kernel
theorem dX9_setPause_36 : decode cX9_setPause 36 = .ok (.getfield 10, 3) := by decide +kernel
theorem dX9_setPause_39 : decode cX9_setPause 39 = .ok (.invokevirtual 54, 3) := by decide +kernel
theorem dX9_setPause_42 : decode cX9_setPause 42 = .ok (.aload_n 3, 1) := by decide +kernel
theorem dX9_setPause_43 : decode cX9_setPause 43 = .ok (.getfield 106, 3) := by decide +kernel
theorem dX9_setPause_46 : decode cX9_setPause 46 = .ok (.istore 4, 2) := by decide +kernel
theorem dX9_setPause_48 : decode cX9_setPause 48 = .ok (.aload_n 3, 1) := by decide +kernel
theorem dX9_setPause_49 : decode cX9_setPause 49 = .ok (.iload_n 2, 1) := by decide +kernel
theorem dX9_setPause_50 : decode cX9_setPause 50 = .ok (.putfield 106, 3) := by decide +kernel
theorem dX9_setPause_53 : decode cX9_setPause 53 = .ok (.iload 4, 2) := by decide +kernel
theorem dX9_setPause_55 : decode cX9_setPause 55 = .ok (.ireturn, 1) := by decide +kernel
theorem dX9_addItem_0 : decode cX9_addItem 0 = .ok (.aload_n 0, 1) := by decide +kernel
theorem dX9_addItem_1 : decode cX9_addItem 1 = .ok (.getfield 10, 3) := by decide +kernel
theorem dX9_addItem_4 : decode cX9_addItem 4 = .ok (.getfield 44, 3) := by decide +kernel
theorem dX9_addItem_7 : decode cX9_addItem 7 = .ok (.iload_n 1, 1) := by decide +kernel
theorem dX9_addItem_8 : decode cX9_addItem 8 = .ok (.invokevirtual 62, 3) := by decide +kernel
theorem dX9_addItem_11 : decode cX9_addItem 11 = .ok (.astore 5, 2) := by decide +kernel
theorem dX9_addItem_13 : decode cX9_addItem 13 = .ok (.aload 5, 2) := by decide +kernel
theorem dX9_addItem_15 : decode cX9_addItem 15 = .ok (.ifnonnull 5, 3) := by decide +kernel
theorem dX9_addItem_18 : decode cX9_addItem 18 = .ok (.iconst (-1), 1) := by decide +kernel
theorem dX9_addItem_19 : decode cX9_addItem 19 = .ok (.ireturn, 1) := by decide +kernel
theorem dX9_addItem_20 : decode cX9_addItem 20 = .ok (.iload_n 2, 1) := by decide +kernel
theorem dX9_addItem_21 : decode cX9_addItem 21 = .ok (.iconst 0, 1) := by decide +kernel
theorem dX9_addItem_22 : decode cX9_addItem 22 = .ok (.bipush 9, 2) := by decide +kernel
theorem dX9_addItem_24 : decode cX9_addItem 24 = .ok (.invokestatic 82, 3) := by decide +kernel
theorem dX9_addItem_27 : decode cX9_addItem 27 = .ok (.ifCond .eq 14, 3) := by decide +kernel
theorem dX9_addItem_30 : decode cX9_addItem 30 = .ok (.iload 4, 2) := by decide +kernel
theorem dX9_addItem_32 : decode cX9_addItem 32 = .ok (.iconst 0, 1) := by decide +kernel
theorem dX9_addItem_33 : decode cX9_addItem 33 = .ok (.bipush 99, 2) := by decide +kernel
theorem dX9_addItem_35 : decode cX9_addItem 35 = .ok (.invokestatic 82, 3) := by decide +kernel
theorem dX9_addItem_38 : decode cX9_addItem 38 = .ok (.ifCond .ne 6, 3) := by decide +kernel
theorem dX9_addItem_41 : decode cX9_addItem 41 = .ok (.bipush (-2), 2) := by decide +kernel
theorem dX9_addItem_43 : decode cX9_addItem 43 = .ok (.ireturn, 1) := by decide +kernel
theorem dX9_addItem_44 : decode cX9_addItem 44 = .ok (.iload_n 3, 1) := by decide +kernel
theorem dX9_addItem_45 : decode cX9_addItem 45 = .ok (.iconst (-1), 1) := by decide +kernel
theorem dX9_addItem_46 : decode cX9_addItem 46 = .ok (.if_icmp .eq 16, 3) := by decide +kernel
theorem dX9_addItem_49 : decode cX9_addItem 49 = .ok (.iload_n 3, 1) := by decide +kernel
theorem dX9_addItem_50 : decode cX9_addItem 50 = .ok (.iload_n 2, 1) := by decide +kernel
theorem dX9_addItem_51 : decode cX9_addItem 51 = .ok (.bipush 9, 2) := by decide +kernel
theorem dX9_addItem_53 : decode cX9_addItem 53 = .ok (.invokestatic 82, 3) := by decide +kernel
theorem dX9_addItem_56 : decode cX9_addItem 56 = .ok (.ifCond .ne 6, 3) := by decide +kernel
theorem dX9_addItem_59 : decode cX9_addItem 59 = .ok (.bipush (-2), 2) := by decide +kernel
theorem dX9_addItem_61 : decode cX9_addItem 61 = .ok (.ireturn, 1) := by decide +kernel
theorem dX9_addItem_62 : decode cX9_addItem 62 = .ok (.aload 5, 2) := by decide +kernel
theorem dX9_addItem_64 : decode cX9_addItem 64 = .ok (.getfield 109, 3) := by decide +kernel
theorem dX9_addItem_67 : decode cX9_addItem 67 = .ok (.bipush 6, 2) := by decide +kernel
theorem dX9_addItem_69 : decode cX9_addItem 69 = .ok (.if_icmp .lt 6, 3) := by decide +kernel
theorem dX9_addItem_72 : decode cX9_addItem 72 = .ok (.bipush (-4), 2) := by decide +kernel
theorem dX9_addItem_74 : decode cX9_addItem 74 = .ok (.ireturn, 1) := by decide +kernel
theorem dX9_addItem_75 : decode cX9_addItem 75 = .ok (.aload_n 0, 1) := by decide +kernel
theorem dX9_addItem_76 : decode cX9_addItem 76 = .ok (.getfield 19, 3) := by decide +kernel
theorem dX9_addItem_79 : decode cX9_addItem 79 = .ok (.aload_n 0, 1) := by decide +kernel
theorem dX9_addItem_80 : decode cX9_addItem 80 = .ok (.getfield 10, 3) := by decide +kernel
theorem dX9_addItem_83 : decode cX9_addItem 83 = .ok (.invokevirtual 54, 3) := by decide +kernel
theorem dX9_addItem_86 : decode cX9_addItem 86 = .ok (.aload 5, 2) := by decide +kernel
theorem dX9_addItem_88 : decode cX9_addItem 88 = .ok (.iload_n 2, 1) := by decide +kernel
theorem dX9_addItem_89 : decode cX9_addItem 89 = .ok (.iload_n 3, 1) := by decide +kernel
theorem dX9_addItem_90 : decode cX9_addItem 90 = .ok (.iload 4, 2) := by decide +kernel
theorem dX9_addItem_92 : decode cX9_addItem 92 = .ok (.invokevirtual 112, 3) := by decide +kernel
theorem dX9_addItem_95 : decode cX9_addItem 95 = .ok (.aload 5, 2) := by decide +kernel
theorem dX9_addItem_97 : decode cX9_addItem 97 = .ok (.getfield 109, 3) := by decide +kernel
theorem dX9_addItem_100 : decode cX9_addItem 100 = .ok (.iconst 1, 1) := by decide +kernel
theorem dX9_addItem_101 : decode cX9_addItem 101 = .ok (.isub, 1) := by decide +kernel
theorem dX9_addItem_102 : decode cX9_addItem 102 = .ok (.ireturn, 1) := by decide +kernel
theorem dX9_removeItem_0 : decode cX9_removeItem 0 = .ok (.aload_n 0, 1) := by decide +kernel
theorem dX9_removeItem_1 : decode cX9_removeItem 1 = .ok (.getfield 10, 3) := by decide +kernel
theorem dX9_removeItem_4 : decode cX9_removeItem 4 = .ok (.getfield 44, 3) := by decide +kernel
theorem dX9_removeItem_7 : decode cX9_removeItem 7 = .ok (.iload_n 1, 1) := by decide +kernel
theorem dX9_removeItem_8 : decode cX9_removeItem 8 = .ok (.invokevirtual 62, 3) := by decide +kernel
theorem dX9_removeItem_11 : decode cX9_removeItem 11 = .ok (.astore_n 3, 1) := by decide +kernel
theorem dX9_removeItem_12 : decode cX9_removeItem 12 = .ok (.aload_n 3, 1) := by decide +kernel
theorem dX9_removeItem_13 : decode cX9_removeItem 13 = .ok (.ifnull 17, 3) := by decide +kernel
theorem dX9_removeItem_16 : decode cX9_removeItem 16 = .ok (.iload_n 2, 1) := by decide +kernel
theorem dX9_removeItem_17 : decode cX9_removeItem 17 = .ok (.iconst 0, 1) := by decide +kernel
theorem dX9_removeItem_18 : decode cX9_removeItem 18 = .ok (.aload_n 3, 1) := by decide +kernel
theorem dX9_removeItem_19 : decode cX9_removeItem 19 = .ok (.getfield 109, 3) := by decide +kernel
theorem dX9_removeItem_22 : decode cX9_removeItem 22 = .ok (.iconst 1, 1) := by decide +kernel
theorem dX9_removeItem_23 : decode cX9_removeItem 23 = .ok (.isub, 1) := by decide +kernel
theorem dX9_removeItem_24 : decode cX9_removeItem 24 = .ok (.invokestatic 82, 3) := by decide +kernel
theorem dX9_removeItem_27 : decode cX9_removeItem 27 = .ok (.ifCond .ne 5, 3) := by decide +kernel
theorem dX9_removeItem_30 : decode cX9_removeItem 30 = .ok (.iconst (-1), 1) := by decide +kernel
theorem dX9_removeItem_31 : decode cX9_removeItem 31 = .ok (.ireturn, 1) := by decide +kernel
theorem dX9_removeItem_32 : decode cX9_removeItem 32 = .ok (.aload_n 0, 1) := by decide +kernel
theorem dX9_removeItem_33 : decode cX9_removeItem 33 = .ok (.getfield 19, 3) := by decide +kernel
theorem dX9_removeItem_36 : decode cX9_removeItem 36 = .ok (.aload_n 0, 1) := by decide +kernel
theorem dX9_removeItem_37 : decode cX9_removeItem 37 = .ok (.getfield 10, 3) := by decide +kernel
theorem dX9_removeItem_40 : decode cX9_removeItem 40 = .ok (.invokevirtual 54, 3) := by decide +kernel
theorem dX9_removeItem_43 : decode cX9_removeItem 43 = .ok (.aload_n 3, 1) := by decide +kernel
theorem dX9_removeItem_44 : decode cX9_removeItem 44 = .ok (.iload_n 2, 1) := by decide +kernel
theorem dX9_removeItem_45 : decode cX9_removeItem 45 = .ok (.invokevirtual 116, 3) := by decide +kernel
theorem dX9_removeItem_48 : decode cX9_removeItem 48 = .ok (.aload_n 0, 1) := by decide +kernel
theorem dX9_removeItem_49 : decode cX9_removeItem 49 = .ok (.getfield 10, 3) := by decide +kernel
theorem dX9_removeItem_52 : decode cX9_removeItem 52 = .ok (.invokevirtual 119, 3) := by decide +kernel
theorem dX9_removeItem_55 : decode cX9_removeItem 55 = .ok (.aload_n 3, 1) := by decide +kernel
theorem dX9_removeItem_56 : decode cX9_removeItem 56 = .ok (.getfield 109, 3) := by decide +kernel
theorem dX9_removeItem_59 : decode cX9_removeItem 59 = .ok (.ireturn, 1) := by decide +kernel
theorem dX9_link_0 : decode cX9_link 0 = .ok (.aload_n 0, 1) := by decide +kernel
theorem dX9_link_1 : decode cX9_link 1 = .ok (.getfield 10, 3) := by decide +kernel
theorem dX9_link_4 : decode cX9_link 4 = .ok (.getfield 44, 3) := by decide +kernel
theorem dX9_link_7 : decode cX9_link 7 = .ok (.iload_n 1, 1) := by decide +kernel
theorem dX9_link_8 : decode cX9_link 8 = .ok (.invokevirtual 62, 3) := by decide +kernel
theorem dX9_link_11 : decode cX9_link 11 = .ok (.astore 4, 2) := by decide +kernel
theorem dX9_link_13 : decode cX9_link 13 = .ok (.aload 4, 2) := by decide +kernel
theorem dX9_link_15 : decode cX9_link 15 = .ok (.ifnull 17, 3) := by decide +kernel
theorem dX9_link_18 : decode cX9_link 18 = .ok (.aload_n 0, 1) := by decide +kernel
theorem dX9_link_19 : decode cX9_link 19 = .ok (.getfield 10, 3) := by decide +kernel
theorem dX9_link_22 : decode cX9_link 22 = .ok (.getfield 44, 3) := by decide +kernel
theorem dX9_link_25 : decode cX9_link 25 = .ok (.iload_n 3, 1) := by decide +kernel
theorem dX9_link_26 : decode cX9_link 26 = .ok (.invokevirtual 62, 3) := by decide +kernel
theorem dX9_link_29 : decode cX9_link 29 = .ok (.ifnonnull 5, 3) := by decide +kernel
theorem dX9_link_32 : decode cX9_link 32 = .ok (.iconst (-1), 1) := by decide +kernel
theorem dX9_link_33 : decode cX9_link 33 = .ok (.ireturn, 1) := by decide +kernel
theorem dX9_link_34 : decode cX9_link 34 = .ok (.iload_n 2, 1) := by decide +kernel
theorem dX9_link_35 : decode cX9_link 35 = .ok (.iconst 0, 1) := by decide +kernel
theorem dX9_link_36 : decode cX9_link 36 = .ok (.bipush 9, 2) := by decide +kernel
theorem dX9_link_38 : decode cX9_link 38 = .ok (.invokestatic 82, 3) := by decide +kernel
theorem dX9_link_41 : decode cX9_link 41 = .ok (.ifCond .ne 6, 3) := by decide +kernel
theorem dX9_link_44 : decode cX9_link 44 = .ok (.bipush (-2), 2) := by decide +kernel
theorem dX9_link_46 : decode cX9_link 46 = .ok (.ireturn, 1) := by decide +kernel
theorem dX9_link_47 : decode cX9_link 47 = .ok (.aload 4, 2) := by decide +kernel
theorem dX9_link_49 : decode cX9_link 49 = .ok (.iload_n 2, 1) := by decide +kernel
theorem dX9_link_50 : decode cX9_link 50 = .ok (.invokevirtual 122, 3) := by decide +kernel
theorem dX9_link_53 : decode cX9_link 53 = .ok (.iconst (-1), 1) := by decide +kernel
theorem dX9_link_54 : decode cX9_link 54 = .ok (.if_icmp .ne 15, 3) := by decide +kernel
theorem dX9_link_57 : decode cX9_link 57 = .ok (.aload 4, 2) := by decide +kernel
theorem dX9_link_59 : decode cX9_link 59 = .ok (.invokevirtual 125, 3) := by decide +kernel
theorem dX9_link_62 : decode cX9_link 62 = .ok (.iconst 3, 1) := by decide +kernel
theorem dX9_link_63 : decode cX9_link 63 = .ok (.if_icmp .lt 6, 3) := by decide +kernel
theorem dX9_link_66 : decode cX9_link 66 = .ok (.bipush (-4), 2) := by decide +kernel
theorem dX9_link_68 : decode cX9_link 68 = .ok (.ireturn, 1) := by decide +kernel
theorem dX9_link_69 : decode cX9_link 69 = .ok (.aload_n 0, 1) := by decide +kernel
theorem dX9_link_70 : decode cX9_link 70 = .ok (.getfield 19, 3) := by decide +kernel
theorem dX9_link_73 : decode cX9_link 73 = .ok (.aload_n 0, 1) := by decide +kernel
theorem dX9_link_74 : decode cX9_link 74 = .ok (.getfield 10, 3) := by decide +kernel
theorem dX9_link_77 : decode cX9_link 77 = .ok (.invokevirtual 54, 3) := by decide +kernel
theorem dX9_link_80 : decode cX9_link 80 = .ok (.aload 4, 2) := by decide +kernel
theorem dX9_link_82 : decode cX9_link 82 = .ok (.iload_n 2, 1) := by decide +kernel
theorem dX9_link_83 : decode cX9_link 83 = .ok (.iload_n 3, 1) := by decide +kernel
theorem dX9_link_84 : decode cX9_link 84 = .ok (.invokevirtual 128, 3) := by decide +kernel
theorem dX9_link_87 : decode cX9_link 87 = .ok (.aload 4, 2) := by decide +kernel
theorem dX9_link_89 : decode cX9_link 89 = .ok (.invokevirtual 125, 3) := by decide +kernel
theorem dX9_link_92 : decode cX9_link 92 = .ok (.ireturn, 1) := by decide +kernel
theorem dX9_unlink_0 : decode cX9_unlink 0 = .ok (.aload_n 0, 1) := by decide +kernel
theorem dX9_unlink_1 : decode cX9_unlink 1 = .ok (.getfield 10, 3) := by decide +kernel
theorem dX9_unlink_4 : decode cX9_unlink 4 = .ok (.getfield 44, 3) := by decide +kernel
theorem dX9_unlink_7 : decode cX9_unlink 7 = .ok (.iload_n 1, 1) := by decide +kernel
theorem dX9_unlink_8 : decode cX9_unlink 8 = .ok (.invokevirtual 62, 3) := by decide +kernel
theorem dX9_unlink_11 : decode cX9_unlink 11 = .ok (.astore_n 3, 1) := by decide +kernel
theorem dX9_unlink_12 : decode cX9_unlink 12 = .ok (.aload_n 3, 1) := by decide +kernel
theorem dX9_unlink_13 : decode cX9_unlink 13 = .ok (.ifnull 12, 3) := by decide +kernel
theorem dX9_unlink_16 : decode cX9_unlink 16 = .ok (.aload_n 3, 1) := by decide +kernel
theorem dX9_unlink_17 : decode cX9_unlink 17 = .ok (.iload_n 2, 1) := by decide +kernel
theorem dX9_unlink_18 : decode cX9_unlink 18 = .ok (.invokevirtual 122, 3) := by decide +kernel
theorem dX9_unlink_21 : decode cX9_unlink 21 = .ok (.iconst (-1), 1) := by decide +kernel
theorem dX9_unlink_22 : decode cX9_unlink 22 = .ok (.if_icmp .ne 5, 3) := by decide +kernel
theorem dX9_unlink_25 : decode cX9_unlink 25 = .ok (.iconst (-1), 1) := by decide +kernel
theorem dX9_unlink_26 : decode cX9_unlink 26 = .ok (.ireturn, 1) := by decide +kernel
theorem dX9_unlink_27 : decode cX9_unlink 27 = .ok (.aload_n 0, 1) := by decide +kernel
theorem dX9_unlink_28 : decode cX9_unlink 28 = .ok (.getfield 19, 3) := by decide +kernel
theorem dX9_unlink_31 : decode cX9_unlink 31 = .ok (.aload_n 0, 1) := by decide +kernel
theorem dX9_unlink_32 : decode cX9_unlink 32 = .ok (.getfield 10, 3) := by decide +kernel
theorem dX9_unlink_35 : decode cX9_unlink 35 = .ok (.invokevirtual 54, 3) := by decide +kernel
theorem dX9_unlink_38 : decode cX9_unlink 38 = .ok (.aload_n 3, 1) := by decide +kernel
theorem dX9_unlink_39 : decode cX9_unlink 39 = .ok (.iload_n 2, 1) := by decide +kernel
theorem dX9_unlink_40 : decode cX9_unlink 40 = .ok (.iconst (-1), 1) := by decide +kernel
theorem dX9_unlink_41 : decode cX9_unlink 41 = .ok (.invokevirtual 128, 3) := by decide +kernel
theorem dX9_unlink_44 : decode cX9_unlink 44 = .ok (.aload_n 3, 1) := by decide +kernel
theorem dX9_unlink_45 : decode cX9_unlink 45 = .ok (.invokevirtual 125, 3) := by decide +kernel
theorem dX9_unlink_48 : decode cX9_unlink 48 = .ok (.ireturn, 1) := by decide +kernel
theorem dX9_note_0 : decode cX9_note 0 = .ok (.iload_n 1, 1) := by decide +kernel
theorem dX9_note_1 : decode cX9_note 1 = .ok (.iconst 0, 1) := by decide +kernel
theorem dX9_note_2 : decode cX9_note 2 = .ok (.sipush 9999, 3) := by decide +kernel
theorem dX9_note_5 : decode cX9_note 5 = .ok (.invokestatic 82, 3) := by decide +kernel
theorem dX9_note_8 : decode cX9_note 8 = .ok (.ifCond .eq 13, 3) := by decide +kernel
theorem dX9_note_11 : decode cX9_note 11 = .ok (.iload_n 2, 1) := by decide +kernel
theorem dX9_note_12 : decode cX9_note 12 = .ok (.iconst (-1), 1) := by decide +kernel
theorem dX9_note_13 : decode cX9_note 13 = .ok (.bipush 99, 2) := by decide +kernel
theorem dX9_note_15 : decode cX9_note 15 = .ok (.invokestatic 82, 3) := by decide +kernel
theorem dX9_note_18 : decode cX9_note 18 = .ok (.ifCond .ne 6, 3) := by decide +kernel
theorem dX9_note_21 : decode cX9_note 21 = .ok (.bipush (-2), 2) := by decide +kernel
theorem dX9_note_23 : decode cX9_note 23 = .ok (.ireturn, 1) := by decide +kernel
theorem dX9_note_24 : decode cX9_note 24 = .ok (.aload_n 0, 1) := by decide +kernel
theorem dX9_note_25 : decode cX9_note 25 = .ok (.getfield 10, 3) := by decide +kernel
theorem dX9_note_28 : decode cX9_note 28 = .ok (.getfield 131, 3) := by decide +kernel
theorem dX9_note_31 : decode cX9_note 31 = .ok (.iload_n 1, 1) := by decide +kernel
theorem dX9_note_32 : decode cX9_note 32 = .ok (.invokevirtual 135, 3) := by decide +kernel
theorem dX9_note_35 : decode cX9_note 35 = .ok (.istore_n 3, 1) := by decide +kernel
theorem dX9_note_36 : decode cX9_note 36 = .ok (.iload_n 2, 1) := by decide +kernel
theorem dX9_note_37 : decode cX9_note 37 = .ok (.iconst (-1), 1) := by decide +kernel
theorem dX9_note_38 : decode cX9_note 38 = .ok (.if_icmp .ne 10, 3) := by decide +kernel
theorem dX9_note_41 : decode cX9_note 41 = .ok (.iload_n 3, 1) := by decide +kernel
theorem dX9_note_42 : decode cX9_note 42 = .ok (.iconst (-1), 1) := by decide +kernel
theorem dX9_note_43 : decode cX9_note 43 = .ok (.if_icmp .ne 5, 3) := by decide +kernel
theorem dX9_note_46 : decode cX9_note 46 = .ok (.iconst (-1), 1) := by decide +kernel
theorem dX9_note_47 : decode cX9_note 47 = .ok (.ireturn, 1) := by decide +kernel
theorem dX9_note_48 : decode cX9_note 48 = .ok (.iload_n 3, 1) := by decide +kernel
theorem dX9_note_49 : decode cX9_note 49 = .ok (.iconst (-1), 1) := by decide +kernel
theorem dX9_note_50 : decode cX9_note 50 = .ok (.if_icmp .ne 21, 3) := by decide +kernel
theorem dX9_note_53 : decode cX9_note 53 = .ok (.aload_n 0, 1) := by decide +kernel
theorem dX9_note_54 : decode cX9_note 54 = .ok (.getfield 10, 3) := by decide +kernel
theorem dX9_note_57 : decode cX9_note 57 = .ok (.getfield 131, 3) := by decide +kernel
theorem dX9_note_60 : decode cX9_note 60 = .ok (.getfield 138, 3) := by decide +kernel
theorem dX9_note_63 : decode cX9_note 63 = .ok (.bipush 8, 2) := by decide +kernel
theorem dX9_note_65 : decode cX9_note 65 = .ok (.if_icmp .lt 6, 3) := by decide +kernel
theorem dX9_note_68 : decode cX9_note 68 = .ok (.bipush (-4), 2) := by decide +kernel
theorem dX9_note_70 : decode cX9_note 70 = .ok (.ireturn, 1) := by decide +kernel
theorem dX9_note_71 : decode cX9_note 71 = .ok (.aload_n 0, 1) := by decide +kernel
theorem dX9_note_72 : decode cX9_note 72 = .ok (.getfield 19, 3) := by decide +kernel
theorem dX9_note_75 : decode cX9_note 75 = .ok (.aload_n 0, 1) := by decide +kernel
theorem dX9_note_76 : decode cX9_note 76 = .ok (.getfield 10, 3) := by decide +kernel
theorem dX9_note_79 : decode cX9_note 79 = .ok (.invokevirtual 54, 3) := by decide +kernel
theorem dX9_note_82 : decode cX9_note 82 = .ok (.iload_n 2, 1) := by decide +kernel
theorem dX9_note_83 : decode cX9_note 83 = .ok (.iconst (-1), 1) := by decide +kernel
theorem dX9_note_84 : decode cX9_note 84 = .ok (.if_icmp .ne 17, 3) := by decide +kernel
theorem dX9_note_87 : decode cX9_note 87 = .ok (.aload_n 0, 1) := by decide +kernel
theorem dX9_note_88 : decode cX9_note 88 = .ok (.getfield 10, 3) := by decide +kernel
theorem dX9_note_91 : decode cX9_note 91 = .ok (.getfield 131, 3) := by decide +kernel
theorem dX9_note_94 : decode cX9_note 94 = .ok (.iload_n 3, 1) := by decide +kernel
theorem dX9_note_95 : decode cX9_note 95 = .ok (.invokevirtual 139, 3) := by decide +kernel
theorem dX9_note_98 : decode cX9_note 98 = .ok (.goto 16, 3) := by decide +kernel
theorem dX9_note_101 : decode cX9_note 101 = .ok (.aload_n 0, 1) := by decide +kernel
theorem dX9_note_102 : decode cX9_note 102 = .ok (.getfield 10, 3) := by decide +kernel
theorem dX9_note_105 : decode cX9_note 105 = .ok (.getfield 131, 3) := by decide +kernel
theorem dX9_note_108 : decode cX9_note 108 = .ok (.iload_n 3, 1) := by decide +kernel
theorem dX9_note_109 : decode cX9_note 109 = .ok (.iload_n 1, 1) := by decide +kernel
theorem dX9_note_110 : decode cX9_note 110 = .ok (.iload_n 2, 1) := by decide +kernel
theorem dX9_note_111 : decode cX9_note 111 = .ok (.invokevirtual 142, 3) := by decide +kernel
theorem dX9_note_114 : decode cX9_note 114 = .ok (.aload_n 0, 1) := by decide +kernel
theorem dX9_note_115 : decode cX9_note 115 = .ok (.getfield 10, 3) := by decide +kernel
theorem dX9_note_118 : decode cX9_note 118 = .ok (.getfield 131, 3) := by decide +kernel
theorem dX9_note_121 : decode cX9_note 121 = .ok (.getfield 138, 3) := by decide +kernel
theorem dX9_note_124 : decode cX9_note 124 = .ok (.ireturn, 1) := by decide +kernel
theorem dX9_setEnd_0 : decode cX9_setEnd 0 = .ok (.iload_n 1, 1) := by decide +kernel
theorem dX9_setEnd_1 : decode cX9_setEnd 1 = .ok (.iconst 0, 1) := by decide +kernel
theorem dX9_setEnd_2 : decode cX9_setEnd 2 = .ok (.sipush 9999, 3) := by decide +kernel
theorem dX9_setEnd_5 : decode cX9_setEnd 5 = .ok (.invokestatic 82, 3) := by decide +kernel
theorem dX9_setEnd_8 : decode cX9_setEnd 8 = .ok (.ifCond .ne 6, 3) := by decide +kernel
theorem dX9_setEnd_11 : decode cX9_setEnd 11 = .ok (.bipush (-2), 2) := by decide +kernel
theorem dX9_setEnd_13 : decode cX9_setEnd 13 = .ok (.ireturn, 1) := by decide +kernel
theorem dX9_setEnd_14 : decode cX9_setEnd 14 = .ok (.aload_n 0, 1) := by decide +kernel
theorem dX9_setEnd_15 : decode cX9_setEnd 15 = .ok (.getfield 19, 3) := by decide +kernel
theorem dX9_setEnd_18 : decode cX9_setEnd 18 = .ok (.aload_n 0, 1) := by decide +kernel
theorem dX9_setEnd_19 : decode cX9_setEnd 19 = .ok (.getfield 10, 3) := by decide +kernel
theorem dX9_setEnd_22 : decode cX9_setEnd 22 = .ok (.invokevirtual 54, 3) := by decide +kernel
theorem dX9_setEnd_25 : decode cX9_setEnd 25 = .ok (.aload_n 0, 1) := by decide +kernel
theorem dX9_setEnd_26 : decode cX9_setEnd 26 = .ok (.getfield 10, 3) := by decide +kernel
theorem dX9_setEnd_29 : decode cX9_setEnd 29 = .ok (.getfield 145, 3) := by decide +kernel
theorem dX9_setEnd_32 : decode cX9_setEnd 32 = .ok (.istore_n 2, 1) := by decide +kernel
theorem dX9_setEnd_33 : decode cX9_setEnd 33 = .ok (.aload_n 0, 1) := by decide +kernel
theorem dX9_setEnd_34 : decode cX9_setEnd 34 = .ok (.getfield 10, 3) := by decide +kernel
theorem dX9_setEnd_37 : decode cX9_setEnd 37 = .ok (.iload_n 1, 1) := by decide +kernel
theorem dX9_setEnd_38 : decode cX9_setEnd 38 = .ok (.putfield 145, 3) := by decide +kernel
theorem dX9_setEnd_41 : decode cX9_setEnd 41 = .ok (.iload_n 2, 1) := by decide +kernel
theorem dX9_setEnd_42 : decode cX9_setEnd 42 = .ok (.ireturn, 1) := by decide +kernel
theorem dX9_start_0 : decode cX9_start 0 = .ok (.aload_n 0, 1) := by decide +kernel
theorem dX9_start_1 : decode cX9_start 1 = .ok (.getfield 10, 3) := by decide +kernel
theorem dX9_start_4 : decode cX9_start 4 = .ok (.getfield 44, 3) := by decide +kernel
theorem dX9_start_7 : decode cX9_start 7 = .ok (.iconst (-1), 1) := by decide +kernel
theorem dX9_start_8 : decode cX9_start 8 = .ok (.invokevirtual 148, 3) := by decide +kernel
theorem dX9_start_11 : decode cX9_start 11 = .ok (.istore_n 1, 1) := by decide +kernel
theorem dX9_start_12 : decode cX9_start 12 = .ok (.iload_n 1, 1) := by decide +kernel
theorem dX9_start_13 : decode cX9_start 13 = .ok (.iconst (-1), 1) := by decide +kernel
theorem dX9_start_14 : decode cX9_start 14 = .ok (.if_icmp .ne 6, 3) := by decide +kernel
theorem dX9_start_17 : decode cX9_start 17 = .ok (.bipush (-5), 2) := by decide +kernel
theorem dX9_start_19 : decode cX9_start 19 = .ok (.ireturn, 1) := by decide +kernel
theorem dX9_start_20 : decode cX9_start 20 = .ok (.aload_n 0, 1) := by decide +kernel
theorem dX9_start_21 : decode cX9_start 21 = .ok (.getfield 19, 3) := by decide +kernel
theorem dX9_start_24 : decode cX9_start 24 = .ok (.aload_n 0, 1) := by decide +kernel
theorem dX9_start_25 : decode cX9_start 25 = .ok (.getfield 10, 3) := by decide +kernel
theorem dX9_start_28 : decode cX9_start 28 = .ok (.invokevirtual 54, 3) := by decide +kernel
theorem dX9_start_31 : decode cX9_start 31 = .ok (.aload_n 0, 1) := by decide +kernel
theorem dX9_start_32 : decode cX9_start 32 = .ok (.getfield 10, 3) := by decide +kernel
theorem dX9_start_35 : decode cX9_start 35 = .ok (.getfield 66, 3) := by decide +kernel
theorem dX9_start_38 : decode cX9_start 38 = .ok (.iload_n 1, 1) := by decide +kernel
theorem dX9_start_39 : decode cX9_start 39 = .ok (.invokevirtual 151, 3) := by decide +kernel
theorem dX9_start_42 : decode cX9_start 42 = .ok (.iload_n 1, 1) := by decide +kernel
theorem dX9_start_43 : decode cX9_start 43 = .ok (.ireturn, 1) := by decide +kernel
theorem dX9_stop_0 : decode cX9_stop 0 = .ok (.aload_n 0, 1) := by decide +kernel
theorem dX9_stop_1 : decode cX9_stop 1 = .ok (.getfield 10, 3) := by decide +kernel
theorem dX9_stop_4 : decode cX9_stop 4 = .ok (.invokevirtual 154, 3) := by decide +kernel
theorem dX9_stop_7 : decode cX9_stop 7 = .ok (.ifnonnull 6, 3) := by decide +kernel
theorem dX9_stop_10 : decode cX9_stop 10 = .ok (.bipush (-5), 2) := by decide +kernel
theorem dX9_stop_12 : decode cX9_stop 12 = .ok (.ireturn, 1) := by decide +kernel
theorem dX9_stop_13 : decode cX9_stop 13 = .ok (.aload_n 0, 1) := by decide +kernel
theorem dX9_stop_14 : decode cX9_stop 14 = .ok (.getfield 19, 3) := by decide +kernel
theorem dX9_stop_17 : decode cX9_stop 17 = .ok (.aload_n 0, 1) := by decide +kernel
theorem dX9_stop_18 : decode cX9_stop 18 = .ok (.getfield 10, 3) := by decide +kernel
theorem dX9_stop_21 : decode cX9_stop 21 = .ok (.invokevirtual 54, 3) := by decide +kernel
theorem dX9_stop_24 : decode cX9_stop 24 = .ok (.aload_n 0, 1) := by decide +kernel
theorem dX9_stop_25 : decode cX9_stop 25 = .ok (.getfield 10, 3) := by decide +kernel
theorem dX9_stop_28 : decode cX9_stop 28 = .ok (.getfield 66, 3) := by decide +kernel
theorem dX9_stop_31 : decode cX9_stop 31 = .ok (.getfield 158, 3) := by decide +kernel
theorem dX9_stop_34 : decode cX9_stop 34 = .ok (.istore_n 1, 1) := by decide +kernel
theorem dX9_stop_35 : decode cX9_stop 35 = .ok (.aload_n 0, 1) := by decide +kernel
theorem dX9_stop_36 : decode cX9_stop 36 = .ok (.getfield 10, 3) := by decide +kernel
theorem dX9_stop_39 : decode cX9_stop 39 = .ok (.getfield 66, 3) := by decide +kernel
theorem dX9_stop_42 : decode cX9_stop 42 = .ok (.invokevirtual 161, 3) := by decide +kernel
theorem dX9_stop_45 : decode cX9_stop 45 = .ok (.iload_n 1, 1) := by decide +kernel
theorem dX9_stop_46 : decode cX9_stop 46 = .ok (.ireturn, 1) := by decide +kernel
theorem dX9_forward_0 : decode cX9_forward 0 = .ok (.aload_n 0, 1) := by decide +kernel
theorem dX9_forward_1 : decode cX9_forward 1 = .ok (.getfield 10, 3) := by decide +kernel
theorem dX9_forward_4 : decode cX9_forward 4 = .ok (.bipush 102, 2) := by decide +kernel
theorem dX9_forward_6 : decode cX9_forward 6 = .ok (.iconst 0, 1) := by decide +kernel
theorem dX9_forward_7 : decode cX9_forward 7 = .ok (.invokevirtual 164, 3) := by decide +kernel
theorem dX9_forward_10 : decode cX9_forward 10 = .ok (.ifCond .ne 6, 3) := by decide +kernel
theorem dX9_forward_13 : decode cX9_forward 13 = .ok (.bipush (-5), 2) := by decide +kernel
theorem dX9_forward_15 : decode cX9_forward 15 = .ok (.ireturn, 1) := by decide +kernel
theorem dX9_forward_16 : decode cX9_forward 16 = .ok (.aload_n 0, 1) := by decide +kernel
theorem dX9_forward_17 : decode cX9_forward 17 = .ok (.getfield 19, 3) := by decide +kernel
theorem dX9_forward_20 : decode cX9_forward 20 = .ok (.aload_n 0, 1) := by decide +kernel
theorem dX9_forward_21 : decode cX9_forward 21 = .ok (.getfield 10, 3) := by decide +kernel
theorem dX9_forward_24 : decode cX9_forward 24 = .ok (.invokevirtual 54, 3) := by decide +kernel
theorem dX9_forward_27 : decode cX9_forward 27 = .ok (.aload_n 0, 1) := by decide +kernel
theorem dX9_forward_28 : decode cX9_forward 28 = .ok (.getfield 10, 3) := by decide +kernel
theorem dX9_forward_31 : decode cX9_forward 31 = .ok (.bipush 102, 2) := by decide +kernel
theorem dX9_forward_33 : decode cX9_forward 33 = .ok (.iconst 0, 1) := by decide +kernel
theorem dX9_forward_34 : decode cX9_forward 34 = .ok (.invokevirtual 168, 3) := by decide +kernel
theorem dX9_forward_37 : decode cX9_forward 37 = .ok (.aload_n 0, 1) := by decide +kernel
theorem dX9_forward_38 : decode cX9_forward 38 = .ok (.getfield 10, 3) := by decide +kernel
theorem dX9_forward_41 : decode cX9_forward 41 = .ok (.getfield 66, 3) := by decide +kernel
theorem dX9_forward_44 : decode cX9_forward 44 = .ok (.getfield 172, 3) := by decide +kernel
theorem dX9_forward_47 : decode cX9_forward 47 = .ok (.ireturn, 1) := by decide +kernel
theorem dX9_back_0 : decode cX9_back 0 = .ok (.aload_n 0, 1) := by decide +kernel
theorem dX9_back_1 : decode cX9_back 1 = .ok (.getfield 10, 3) := by decide +kernel
theorem dX9_back_4 : decode cX9_back 4 = .ok (.bipush 98, 2) := by decide +kernel
theorem dX9_back_6 : decode cX9_back 6 = .ok (.iconst 0, 1) := by decide +kernel
theorem dX9_back_7 : decode cX9_back 7 = .ok (.invokevirtual 164, 3) := by decide +kernel
theorem dX9_back_10 : decode cX9_back 10 = .ok (.ifCond .ne 6, 3) := by decide +kernel
theorem dX9_back_13 : decode cX9_back 13 = .ok (.bipush (-5), 2) := by decide +kernel
theorem dX9_back_15 : decode cX9_back 15 = .ok (.ireturn, 1) := by decide +kernel
theorem dX9_back_16 : decode cX9_back 16 = .ok (.aload_n 0, 1) := by decide +kernel
theorem dX9_back_17 : decode cX9_back 17 = .ok (.getfield 19, 3) := by decide +kernel
theorem dX9_back_20 : decode cX9_back 20 = .ok (.aload_n 0, 1) := by decide +kernel
theorem dX9_back_21 : decode cX9_back 21 = .ok (.getfield 10, 3) := by decide +kernel
theorem dX9_back_24 : decode cX9_back 24 = .ok (.invokevirtual 54, 3) := by decide +kernel
theorem dX9_back_27 : decode cX9_back 27 = .ok (.aload_n 0, 1) := by decide +kernel
theorem dX9_back_28 : decode cX9_back 28 = .ok (.getfield 10, 3) := by decide +kernel
theorem dX9_back_31 : decode cX9_back 31 = .ok (.bipush 98, 2) := by decide +kernel
theorem dX9_back_33 : decode cX9_back 33 = .ok (.iconst 0, 1) := by decide +kernel
theorem dX9_back_34 : decode cX9_back 34 = .ok (.invokevirtual 168, 3) := by decide +kernel
theorem dX9_back_37 : decode cX9_back 37 = .ok (.aload_n 0, 1) := by decide +kernel
theorem dX9_back_38 : decode cX9_back 38 = .ok (.getfield 10, 3) := by decide +kernel
theorem dX9_back_41 : decode cX9_back 41 = .ok (.getfield 66, 3) := by decide +kernel
theorem dX9_back_44 : decode cX9_back 44 = .ok (.getfield 172, 3) := by decide +kernel
theorem dX9_back_47 : decode cX9_back 47 = .ok (.ireturn, 1) := by decide +kernel
theorem dX9_press_0 : decode cX9_press 0 = .ok (.iload_n 1, 1) := by decide +kernel
theorem dX9_press_1 : decode cX9_press 1 = .ok (.iconst 0, 1) := by decide +kernel
theorem dX9_press_2 : decode cX9_press 2 = .ok (.bipush 9, 2) := by decide +kernel
theorem dX9_press_4 : decode cX9_press 4 = .ok (.invokestatic 82, 3) := by decide +kernel
theorem dX9_press_7 : decode cX9_press 7 = .ok (.ifCond .ne 6, 3) := by decide +kernel
theorem dX9_press_10 : decode cX9_press 10 = .ok (.bipush (-2), 2) := by decide +kernel
theorem dX9_press_12 : decode cX9_press 12 = .ok (.ireturn, 1) := by decide +kernel
theorem dX9_press_13 : decode cX9_press 13 = .ok (.aload_n 0, 1) := by decide +kernel
theorem dX9_press_14 : decode cX9_press 14 = .ok (.getfield 10, 3) := by decide +kernel
theorem dX9_press_17 : decode cX9_press 17 = .ok (.bipush 107, 2) := by decide +kernel
theorem dX9_press_19 : decode cX9_press 19 = .ok (.iload_n 1, 1) := by decide +kernel
theorem dX9_press_20 : decode cX9_press 20 = .ok (.invokevirtual 164, 3) := by decide +kernel
theorem dX9_press_23 : decode cX9_press 23 = .ok (.ifCond .ne 6, 3) := by decide +kernel
theorem dX9_press_26 : decode cX9_press 26 = .ok (.bipush (-5), 2) := by decide +kernel
theorem dX9_press_28 : decode cX9_press 28 = .ok (.ireturn, 1) := by decide +kernel
theorem dX9_press_29 : decode cX9_press 29 = .ok (.aload_n 0, 1) := by decide +kernel
theorem dX9_press_30 : decode cX9_press 30 = .ok (.getfield 19, 3) := by decide +kernel
theorem dX9_press_33 : decode cX9_press 33 = .ok (.aload_n 0, 1) := by decide +kernel
theorem dX9_press_34 : decode cX9_press 34 = .ok (.getfield 10, 3) := by decide +kernel
theorem dX9_press_37 : decode cX9_press 37 = .ok (.invokevirtual 54, 3) := by decide +kernel
theorem dX9_press_40 : decode cX9_press 40 = .ok (.aload_n 0, 1) := by decide +kernel
theorem dX9_press_41 : decode cX9_press 41 = .ok (.getfield 10, 3) := by decide +kernel
theorem dX9_press_44 : decode cX9_press 44 = .ok (.bipush 107, 2) := by decide +kernel
theorem dX9_press_46 : decode cX9_press 46 = .ok (.iload_n 1, 1) := by decide +kernel
theorem dX9_press_47 : decode cX9_press 47 = .ok (.invokevirtual 168, 3) := by decide +kernel
theorem dX9_press_50 : decode cX9_press 50 = .ok (.aload_n 0, 1) := by decide +kernel
theorem dX9_press_51 : decode cX9_press 51 = .ok (.getfield 10, 3) := by decide +kernel
theorem dX9_press_54 : decode cX9_press 54 = .ok (.getfield 66, 3) := by decide +kernel
theorem dX9_press_57 : decode cX9_press 57 = .ok (.getfield 70, 3) := by decide +kernel
theorem dX9_press_60 : decode cX9_press 60 = .ok (.ireturn, 1) := by decide +kernel
theorem dX9_tick_0 : decode cX9_tick 0 = .ok (.iload_n 1, 1) := by decide +kernel
theorem dX9_tick_1 : decode cX9_tick 1 = .ok (.iconst 1, 1) := by decide +kernel
theorem dX9_tick_2 : decode cX9_tick 2 = .ok (.bipush 99, 2) := by decide +kernel
theorem dX9_tick_4 : decode cX9_tick 4 = .ok (.invokestatic 82, 3) := by decide +kernel
theorem dX9_tick_7 : decode cX9_tick 7 = .ok (.ifCond .ne 6, 3) := by decide +kernel
theorem dX9_tick_10 : decode cX9_tick 10 = .ok (.bipush (-2), 2) := by decide +kernel
theorem dX9_tick_12 : decode cX9_tick 12 = .ok (.ireturn, 1) := by decide +kernel
theorem dX9_tick_13 : decode cX9_tick 13 = .ok (.aload_n 0, 1) := by decide +kernel
theorem dX9_tick_14 : decode cX9_tick 14 = .ok (.getfield 10, 3) := by decide +kernel
theorem dX9_tick_17 : decode cX9_tick 17 = .ok (.bipush 116, 2) := by decide +kernel
theorem dX9_tick_19 : decode cX9_tick 19 = .ok (.iload_n 1, 1) := by decide +kernel
theorem dX9_tick_20 : decode cX9_tick 20 = .ok (.invokevirtual 164, 3) := by decide +kernel
theorem dX9_tick_23 : decode cX9_tick 23 = .ok (.ifCond .ne 6, 3) := by decide +kernel
theorem dX9_tick_26 : decode cX9_tick 26 = .ok (.bipush (-5), 2) := by decide +kernel
theorem dX9_tick_28 : decode cX9_tick 28 = .ok (.ireturn, 1) := by decide +kernel
theorem dX9_tick_29 : decode cX9_tick 29 = .ok (.aload_n 0, 1) := by decide +kernel
theorem dX9_tick_30 : decode cX9_tick 30 = .ok (.getfield 19, 3) := by decide +kernel
theorem dX9_tick_33 : decode cX9_tick 33 = .ok (.aload_n 0, 1) := by decide +kernel
theorem dX9_tick_34 : decode cX9_tick 34 = .ok (.getfield 10, 3) := by decide +kernel
theorem dX9_tick_37 : decode cX9_tick 37 = .ok (.invokevirtual 54, 3) := by decide +kernel
theorem dX9_tick_40 : decode cX9_tick 40 = .ok (.aload_n 0, 1) := by decide +kernel
theorem dX9_tick_41 : decode cX9_tick 41 = .ok (.getfield 10, 3) := by decide +kernel
theorem dX9_tick_44 : decode cX9_tick 44 = .ok (.iload_n 1, 1) := by decide +kernel
theorem dX9_tick_45 : decode cX9_tick 45 = .ok (.invokevirtual 175, 3) := by decide +kernel
theorem dX9_tick_48 : decode cX9_tick 48 = .ok (.ireturn, 1) := by decide +kernel
theorem dX9_append_0 : decode cX9_append 0 = .ok (.iload_n 1, 1) := by decide +kernel
theorem dX9_append_1 : decode cX9_append 1 = .ok (.bipush 32, 2) := by decide +kernel
theorem dX9_append_3 : decode cX9_append 3 = .ok (.bipush 126, 2) := by decide +kernel
theorem dX9_append_5 : decode cX9_append 5 = .ok (.invokestatic 82, 3) := by decide +kernel
theorem dX9_append_8 : decode cX9_append 8 = .ok (.ifCond .ne 6, 3) := by decide +kernel
theorem dX9_append_11 : decode cX9_append 11 = .ok (.bipush (-2), 2) := by decide +kernel
theorem dX9_append_13 : decode cX9_append 13 = .ok (.ireturn, 1) := by decide +kernel
theorem dX9_append_14 : decode cX9_append 14 = .ok (.aload_n 0, 1) := by decide +kernel
theorem dX9_append_15 : decode cX9_append 15 = .ok (.getfield 26, 3) := by decide +kernel
theorem dX9_append_18 : decode cX9_append 18 = .ok (.getfield 178, 3) := by decide +kernel
theorem dX9_append_21 : decode cX9_append 21 = .ok (.bipush 60, 2) := by decide +kernel
theorem dX9_append_23 : decode cX9_append 23 = .ok (.if_icmp .lt 6, 3) := by decide +kernel
theorem dX9_append_26 : decode cX9_append 26 = .ok (.bipush (-4), 2) := by decide +kernel
theorem dX9_append_28 : decode cX9_append 28 = .ok (.ireturn, 1) := by decide +kernel
theorem dX9_append_29 : decode cX9_append 29 = .ok (.aload_n 0, 1) := by decide +kernel
theorem dX9_append_30 : decode cX9_append 30 = .ok (.getfield 26, 3) := by decide +kernel
theorem dX9_append_33 : decode cX9_append 33 = .ok (.iload_n 1, 1) := by decide +kernel
theorem dX9_append_34 : decode cX9_append 34 = .ok (.i2c, 1) := by decide +kernel
theorem dX9_append_35 : decode cX9_append 35 = .ok (.invokevirtual 181, 3) := by decide +kernel
theorem dX9_append_38 : decode cX9_append 38 = .ok (.aload_n 0, 1) := by decide +kernel
theorem dX9_append_39 : decode cX9_append 39 = .ok (.getfield 26, 3) := by decide +kernel
theorem dX9_append_42 : decode cX9_append 42 = .ok (.getfield 178, 3) := by decide +kernel
theorem dX9_append_45 : decode cX9_append 45 = .ok (.ireturn, 1) := by decide +kernel
theorem dX9_clearText_0 : decode cX9_clearText 0 = .ok (.aload_n 0, 1) := by decide +kernel
theorem dX9_clearText_1 : decode cX9_clearText 1 = .ok (.getfield 26, 3) := by decide +kernel
theorem dX9_clearText_4 : decode cX9_clearText 4 = .ok (.getfield 178, 3) := by decide +kernel
theorem dX9_clearText_7 : decode cX9_clearText 7 = .ok (.istore_n 1, 1) := by decide +kernel
theorem dX9_clearText_8 : decode cX9_clearText 8 = .ok (.aload_n 0, 1) := by decide +kernel
theorem dX9_clearText_9 : decode cX9_clearText 9 = .ok (.getfield 26, 3) := by decide +kernel
theorem dX9_clearText_12 : decode cX9_clearText 12 = .ok (.iconst 0, 1) := by decide +kernel
theorem dX9_clearText_13 : decode cX9_clearText 13 = .ok (.putfield 178, 3) := by decide +kernel
theorem dX9_clearText_16 : decode cX9_clearText 16 = .ok (.iload_n 1, 1) := by decide +kernel
theorem dX9_clearText_17 : decode cX9_clearText 17 = .ok (.ireturn, 1) := by decide +kernel
theorem dX9_fault_0 : decode cX9_fault 0 = .ok (.aload_n 0, 1) := by decide +kernel
theorem dX9_fault_1 : decode cX9_fault 1 = .ok (.getfield 26, 3) := by decide +kernel
theorem dX9_fault_4 : decode cX9_fault 4 = .ok (.invokevirtual 185, 3) := by decide +kernel
theorem dX9_fault_7 : decode cX9_fault 7 = .ok (.ireturn, 1) := by decide +kernel
theorem dX9_run_0 : decode cX9_run 0 = .ok (.aload_n 0, 1) := by decide +kernel
theorem dX9_run_1 : decode cX9_run 1 = .ok (.getfield 26, 3) := by decide +kernel
theorem dX9_run_4 : decode cX9_run 4 = .ok (.invokevirtual 185, 3) := by decide +kernel
theorem dX9_run_7 : decode cX9_run 7 = .ok (.bipush (-6), 2) := by decide +kernel
theorem dX9_run_9 : decode cX9_run 9 = .ok (.if_icmp .eq 6, 3) := by decide +kernel
theorem dX9_run_12 : decode cX9_run 12 = .ok (.bipush (-3), 2) := by decide +kernel
theorem dX9_run_14 : decode cX9_run 14 = .ok (.ireturn, 1) := by decide +kernel
theorem dX9_run_15 : decode cX9_run 15 = .ok (.aload_n 0, 1) := by decide +kernel
theorem dX9_run_16 : decode cX9_run 16 = .ok (.getfield 19, 3) := by decide +kernel
theorem dX9_run_19 : decode cX9_run 19 = .ok (.aload_n 0, 1) := by decide +kernel
theorem dX9_run_20 : decode cX9_run 20 = .ok (.getfield 10, 3) := by decide +kernel
theorem dX9_run_23 : decode cX9_run 23 = .ok (.invokevirtual 54, 3) := by decide +kernel
theorem dX9_run_26 : decode cX9_run 26 = .ok (.aload_n 0, 1) := by decide +kernel
theorem dX9_run_27 : decode cX9_run 27 = .ok (.getfield 33, 3) := by decide +kernel
theorem dX9_run_30 : decode cX9_run 30 = .ok (.invokevirtual 188, 3) := by decide +kernel
theorem dX9_run_33 : decode cX9_run 33 = .ok (.iconst 0, 1) := by decide +kernel
theorem dX9_run_34 : decode cX9_run 34 = .ok (.istore_n 1, 1) := by decide +kernel
theorem dX9_run_35 : decode cX9_run 35 = .ok (.iconst 0, 1) := by decide +kernel
theorem dX9_run_36 : decode cX9_run 36 = .ok (.istore_n 2, 1) := by decide +kernel
theorem dX9_run_37 : decode cX9_run 37 = .ok (.iload_n 2, 1) := by decide +kernel
theorem dX9_run_38 : decode cX9_run 38 = .ok (.aload_n 0, 1) := by decide +kernel
theorem dX9_run_39 : decode cX9_run 39 = .ok (.getfield 26, 3) := by decide +kernel
theorem dX9_run_42 : decode cX9_run 42 = .ok (.getfield 178, 3) := by decide +kernel
theorem dX9_run_45 : decode cX9_run 45 = .ok (.if_icmp .ge 82, 3) := by decide +kernel
theorem dX9_run_48 : decode cX9_run 48 = .ok (.aload_n 0, 1) := by decide +kernel
theorem dX9_run_49 : decode cX9_run 49 = .ok (.getfield 26, 3) := by decide +kernel
theorem dX9_run_52 : decode cX9_run 52 = .ok (.iload_n 2, 1) := by decide +kernel
theorem dX9_run_53 : decode cX9_run 53 = .ok (.invokevirtual 189, 3) := by decide +kernel
theorem dX9_run_56 : decode cX9_run 56 = .ok (.istore_n 3, 1) := by decide +kernel
theorem dX9_run_57 : decode cX9_run 57 = .ok (.iload_n 3, 1) := by decide +kernel
theorem dX9_run_58 : decode cX9_run 58 = .ok (.invokestatic 193, 3) := by decide +kernel
theorem dX9_run_61 : decode cX9_run 61 = .ok (.ifCond .ne 6, 3) := by decide +kernel
theorem dX9_run_64 : decode cX9_run 64 = .ok (.goto 57, 3) := by decide +kernel
theorem dX9_run_67 : decode cX9_run 67 = .ok (.aload_n 0, 1) := by decide +kernel
theorem dX9_run_68 : decode cX9_run 68 = .ok (.getfield 26, 3) := by decide +kernel
theorem dX9_run_71 : decode cX9_run 71 = .ok (.iload_n 2, 1) := by decide +kernel
theorem dX9_run_72 : decode cX9_run 72 = .ok (.invokevirtual 197, 3) := by decide +kernel
theorem dX9_run_75 : decode cX9_run 75 = .ok (.istore 4, 2) := by decide +kernel
theorem dX9_run_77 : decode cX9_run 77 = .ok (.aload_n 0, 1) := by decide +kernel
theorem dX9_run_78 : decode cX9_run 78 = .ok (.getfield 10, 3) := by decide +kernel
theorem dX9_run_81 : decode cX9_run 81 = .ok (.iload_n 3, 1) := by decide +kernel
theorem dX9_run_82 : decode cX9_run 82 = .ok (.iload 4, 2) := by decide +kernel
theorem dX9_run_84 : decode cX9_run 84 = .ok (.invokevirtual 164, 3) := by decide +kernel
theorem dX9_run_87 : decode cX9_run 87 = .ok (.ifCond .ne 21, 3) := by decide +kernel
theorem dX9_run_90 : decode cX9_run 90 = .ok (.aload_n 0, 1) := by decide +kernel
theorem dX9_run_91 : decode cX9_run 91 = .ok (.getfield 33, 3) := by decide +kernel
theorem dX9_run_94 : decode cX9_run 94 = .ok (.iload_n 1, 1) := by decide +kernel
theorem dX9_run_95 : decode cX9_run 95 = .ok (.iload_n 2, 1) := by decide +kernel
theorem dX9_run_96 : decode cX9_run 96 = .ok (.aload_n 0, 1) := by decide +kernel
theorem dX9_run_97 : decode cX9_run 97 = .ok (.getfield 10, 3) := by decide +kernel
theorem dX9_run_100 : decode cX9_run 100 = .ok (.getfield 66, 3) := by decide +kernel
theorem dX9_run_103 : decode cX9_run 103 = .ok (.invokevirtual 200, 3) := by decide +kernel
theorem dX9_run_106 : decode cX9_run 106 = .ok (.iload_n 1, 1) := by decide +kernel
theorem dX9_run_107 : decode cX9_run 107 = .ok (.ireturn, 1) := by decide +kernel
theorem dX9_run_108 : decode cX9_run 108 = .ok (.aload_n 0, 1) := by decide +kernel
theorem dX9_run_109 : decode cX9_run 109 = .ok (.getfield 10, 3) := by decide +kernel
theorem dX9_run_112 : decode cX9_run 112 = .ok (.iload_n 3, 1) := by decide +kernel
theorem dX9_run_113 : decode cX9_run 113 = .ok (.iload 4, 2) := by decide +kernel
theorem dX9_run_115 : decode cX9_run 115 = .ok (.invokevirtual 168, 3) := by decide +kernel
theorem dX9_run_118 : decode cX9_run 118 = .ok (.iinc 1 1, 3) := by decide +kernel
theorem dX9_run_121 : decode cX9_run 121 = .ok (.iinc 2 1, 3) := by decide +kernel
theorem dX9_run_124 : decode cX9_run 124 = .ok (.goto (-87), 3) := by decide +kernel
theorem dX9_run_127 : decode cX9_run 127 = .ok (.iload_n 1, 1) := by decide +kernel
theorem dX9_run_128 : decode cX9_run 128 = .ok (.ireturn, 1) := by decide +kernel
theorem dX9_why_0 : decode cX9_why 0 = .ok (.iload_n 1, 1) := by decide +kernel
theorem dX9_why_1 : decode cX9_why 1 = .ok (.tableswitch 63 0 3 #[31, 39, 47, 55], 31) := by decide +kernel
theorem dX9_why_32 : decode cX9_why 32 = .ok (.aload_n 0, 1) := by decide +kernel
theorem dX9_why_33 : decode cX9_why 33 = .ok (.getfield 33, 3) := by decide +kernel
theorem dX9_why_36 : decode cX9_why 36 = .ok (.getfield 204, 3) := by decide +kernel
theorem dX9_why_39 : decode cX9_why 39 = .ok (.ireturn, 1) := by decide +kernel
theorem dX9_why_40 : decode cX9_why 40 = .ok (.aload_n 0, 1) := by decide +kernel
theorem dX9_why_41 : decode cX9_why 41 = .ok (.getfield 33, 3) := by decide +kernel
theorem dX9_why_44 : decode cX9_why 44 = .ok (.getfield 207, 3) := by decide +kernel
theorem dX9_why_47 : decode cX9_why 47 = .ok (.ireturn, 1) := by decide +kernel
theorem dX9_why_48 : decode cX9_why 48 = .ok (.aload_n 0, 1) := by decide +kernel
theorem dX9_why_49 : decode cX9_why 49 = .ok (.getfield 33, 3) := by decide +kernel
theorem dX9_why_52 : decode cX9_why 52 = .ok (.getfield 210, 3) := by decide +kernel
theorem dX9_why_55 : decode cX9_why 55 = .ok (.ireturn, 1) := by decide +kernel
theorem dX9_why_56 : decode cX9_why 56 = .ok (.aload_n 0, 1) := by decide +kernel
theorem dX9_why_57 : decode cX9_why 57 = .ok (.getfield 33, 3) := by decide +kernel
theorem dX9_why_60 : decode cX9_why 60 = .ok (.getfield 211, 3) := by decide +kernel
theorem dX9_why_63 : decode cX9_why 63 = .ok (.ireturn, 1) := by decide +kernel
theorem dX9_why_64 : decode cX9_why 64 = .ok (.bipush (-2), 2) := by decide +kernel
theorem dX9_why_66 : decode cX9_why 66 = .ok (.ireturn, 1) := by decide +kernel
theorem dX9_undo_0 : decode cX9_undo 0 = .ok (.aload_n 0, 1) := by decide +kernel
theorem dX9_undo_1 : decode cX9_undo 1 = .ok (.getfield 19, 3) := by decide +kernel
theorem dX9_undo_4 : decode cX9_undo 4 = .ok (.getfield 212, 3) := by decide +kernel
theorem dX9_undo_7 : decode cX9_undo 7 = .ok (.ifCond .ne 6, 3) := by decide +kernel
theorem dX9_undo_10 : decode cX9_undo 10 = .ok (.bipush (-6), 2) := by decide +kernel
theorem dX9_undo_12 : decode cX9_undo 12 = .ok (.ireturn, 1) := by decide +kernel
theorem dX9_undo_13 : decode cX9_undo 13 = .ok (.aload_n 0, 1) := by decide +kernel
theorem dX9_undo_14 : decode cX9_undo 14 = .ok (.getfield 19, 3) := by decide +kernel
theorem dX9_undo_17 : decode cX9_undo 17 = .ok (.aload_n 0, 1) := by decide +kernel
theorem dX9_undo_18 : decode cX9_undo 18 = .ok (.getfield 10, 3) := by decide +kernel
theorem dX9_undo_21 : decode cX9_undo 21 = .ok (.invokevirtual 213, 3) := by decide +kernel
theorem dX9_undo_24 : decode cX9_undo 24 = .ok (.aload_n 0, 1) := by decide +kernel
theorem dX9_undo_25 : decode cX9_undo 25 = .ok (.getfield 19, 3) := by decide +kernel
theorem dX9_undo_28 : decode cX9_undo 28 = .ok (.getfield 212, 3) := by decide +kernel
theorem dX9_undo_31 : decode cX9_undo 31 = .ok (.ireturn, 1) := by decide +kernel
theorem dX9_slides_0 : decode cX9_slides 0 = .ok (.aload_n 0, 1) := by decide +kernel
theorem dX9_slides_1 : decode cX9_slides 1 = .ok (.getfield 10, 3) := by decide +kernel
theorem dX9_slides_4 : decode cX9_slides 4 = .ok (.getfield 44, 3) := by decide +kernel
theorem dX9_slides_7 : decode cX9_slides 7 = .ok (.getfield 79, 3) := by decide +kernel
theorem dX9_slides_10 : decode cX9_slides 10 = .ok (.ireturn, 1) := by decide +kernel
theorem dX9_slideAt_0 : decode cX9_slideAt 0 = .ok (.iload_n 1, 1) := by decide +kernel
theorem dX9_slideAt_1 : decode cX9_slideAt 1 = .ok (.ifCond .ge 6, 3) := by decide +kernel
theorem dX9_slideAt_4 : decode cX9_slideAt 4 = .ok (.bipush (-2), 2) := by decide +kernel
theorem dX9_slideAt_6 : decode cX9_slideAt 6 = .ok (.ireturn, 1) := by decide +kernel
theorem dX9_slideAt_7 : decode cX9_slideAt 7 = .ok (.aload_n 0, 1) := by decide +kernel
theorem dX9_slideAt_8 : decode cX9_slideAt 8 = .ok (.getfield 10, 3) := by decide +kernel
theorem dX9_slideAt_11 : decode cX9_slideAt 11 = .ok (.getfield 44, 3) := by decide +kernel
theorem dX9_slideAt_14 : decode cX9_slideAt 14 = .ok (.iload_n 1, 1) := by decide +kernel
theorem dX9_slideAt_15 : decode cX9_slideAt 15 = .ok (.invokevirtual 216, 3) := by decide +kernel
theorem dX9_slideAt_18 : decode cX9_slideAt 18 = .ok (.istore_n 2, 1) := by decide +kernel
theorem dX9_slideAt_19 : decode cX9_slideAt 19 = .ok (.iload_n 2, 1) := by decide +kernel
theorem dX9_slideAt_20 : decode cX9_slideAt 20 = .ok (.iconst (-1), 1) := by decide +kernel
theorem dX9_slideAt_21 : decode cX9_slideAt 21 = .ok (.if_icmp .ne 8, 3) := by decide +kernel
theorem dX9_slideAt_24 : decode cX9_slideAt 24 = .ok (.bipush (-6), 2) := by decide +kernel
theorem dX9_slideAt_26 : decode cX9_slideAt 26 = .ok (.goto 4, 3) := by decide +kernel
theorem dX9_slideAt_29 : decode cX9_slideAt 29 = .ok (.iload_n 2, 1) := by decide +kernel
theorem dX9_slideAt_30 : decode cX9_slideAt 30 = .ok (.ireturn, 1) := by decide +kernel
theorem dX9_slide_0 : decode cX9_slide 0 = .ok (.aload_n 0, 1) := by decide +kernel
theorem dX9_slide_1 : decode cX9_slide 1 = .ok (.getfield 10, 3) := by decide +kernel
theorem dX9_slide_4 : decode cX9_slide 4 = .ok (.getfield 44, 3) := by decide +kernel
theorem dX9_slide_7 : decode cX9_slide 7 = .ok (.iload_n 1, 1) := by decide +kernel
theorem dX9_slide_8 : decode cX9_slide 8 = .ok (.invokevirtual 62, 3) := by decide +kernel
theorem dX9_slide_11 : decode cX9_slide 11 = .ok (.astore_n 3, 1) := by decide +kernel
theorem dX9_slide_12 : decode cX9_slide 12 = .ok (.aload_n 3, 1) := by decide +kernel
theorem dX9_slide_13 : decode cX9_slide 13 = .ok (.ifnonnull 5, 3) := by decide +kernel
theorem dX9_slide_16 : decode cX9_slide 16 = .ok (.iconst (-1), 1) := by decide +kernel
theorem dX9_slide_17 : decode cX9_slide 17 = .ok (.ireturn, 1) := by decide +kernel
theorem dX9_slide_18 : decode cX9_slide 18 = .ok (.iload_n 2, 1) := by decide +kernel
theorem dX9_slide_19 : decode cX9_slide 19 = .ok (.tableswitch 77 0 5 #[37, 49, 57, 62, 67, 72], 37) := by decide +kernel
theorem dX9_slide_56 : decode cX9_slide 56 = .ok (.aload_n 0, 1) := by decide +kernel
theorem dX9_slide_57 : decode cX9_slide 57 = .ok (.getfield 10, 3) := by decide +kernel
theorem dX9_slide_60 : decode cX9_slide 60 = .ok (.getfield 44, 3) := by decide +kernel
theorem dX9_slide_63 : decode cX9_slide 63 = .ok (.iload_n 1, 1) := by decide +kernel
theorem dX9_slide_64 : decode cX9_slide 64 = .ok (.invokevirtual 86, 3) := by decide +kernel
theorem dX9_slide_67 : decode cX9_slide 67 = .ok (.ireturn, 1) := by decide +kernel
theorem dX9_slide_68 : decode cX9_slide 68 = .ok (.aload_n 3, 1) := by decide +kernel
theorem dX9_slide_69 : decode cX9_slide 69 = .ok (.getfield 97, 3) := by decide +kernel
theorem dX9_slide_72 : decode cX9_slide 72 = .ok (.invokestatic 219, 3) := by decide +kernel
theorem dX9_slide_75 : decode cX9_slide 75 = .ok (.ireturn, 1) := by decide +kernel
theorem dX9_slide_76 : decode cX9_slide 76 = .ok (.aload_n 3, 1) := by decide +kernel
theorem dX9_slide_77 : decode cX9_slide 77 = .ok (.getfield 106, 3) := by decide +kernel
theorem dX9_slide_80 : decode cX9_slide 80 = .ok (.ireturn, 1) := by decide +kernel
theorem dX9_slide_81 : decode cX9_slide 81 = .ok (.aload_n 3, 1) := by decide +kernel
theorem dX9_slide_82 : decode cX9_slide 82 = .ok (.getfield 109, 3) := by decide +kernel
theorem dX9_slide_85 : decode cX9_slide 85 = .ok (.ireturn, 1) := by decide +kernel
theorem dX9_slide_86 : decode cX9_slide 86 = .ok (.aload_n 3, 1) := by decide +kernel
theorem dX9_slide_87 : decode cX9_slide 87 = .ok (.invokevirtual 223, 3) := by decide +kernel
theorem dX9_slide_90 : decode cX9_slide 90 = .ok (.ireturn, 1) := by decide +kernel
theorem dX9_slide_91 : decode cX9_slide 91 = .ok (.aload_n 3, 1) := by decide +kernel
theorem dX9_slide_92 : decode cX9_slide 92 = .ok (.invokevirtual 125, 3) := by decide +kernel
theorem dX9_slide_95 : decode cX9_slide 95 = .ok (.ireturn, 1) := by decide +kernel
theorem dX9_slide_96 : decode cX9_slide 96 = .ok (.bipush (-2), 2) := by decide +kernel
theorem dX9_slide_98 : decode cX9_slide 98 = .ok (.ireturn, 1) := by decide +kernel
theorem dX9_item_0 : decode cX9_item 0 = .ok (.aload_n 0, 1) := by decide +kernel
theorem dX9_item_1 : decode cX9_item 1 = .ok (.getfield 10, 3) := by decide +kernel
theorem dX9_item_4 : decode cX9_item 4 = .ok (.getfield 44, 3) := by decide +kernel
theorem dX9_item_7 : decode cX9_item 7 = .ok (.iload_n 1, 1) := by decide +kernel
theorem dX9_item_8 : decode cX9_item 8 = .ok (.invokevirtual 62, 3) := by decide +kernel
theorem dX9_item_11 : decode cX9_item 11 = .ok (.astore 4, 2) := by decide +kernel
theorem dX9_item_13 : decode cX9_item 13 = .ok (.aload 4, 2) := by decide +kernel
theorem dX9_item_15 : decode cX9_item 15 = .ok (.ifnull 18, 3) := by decide +kernel
theorem dX9_item_18 : decode cX9_item 18 = .ok (.iload_n 2, 1) := by decide +kernel
theorem dX9_item_19 : decode cX9_item 19 = .ok (.iconst 0, 1) := by decide +kernel
theorem dX9_item_20 : decode cX9_item 20 = .ok (.aload 4, 2) := by decide +kernel
theorem dX9_item_22 : decode cX9_item 22 = .ok (.getfield 109, 3) := by decide +kernel
theorem dX9_item_25 : decode cX9_item 25 = .ok (.iconst 1, 1) := by decide +kernel
theorem dX9_item_26 : decode cX9_item 26 = .ok (.isub, 1) := by decide +kernel
theorem dX9_item_27 : decode cX9_item 27 = .ok (.invokestatic 82, 3) := by decide +kernel
theorem dX9_item_30 : decode cX9_item 30 = .ok (.ifCond .ne 5, 3) := by decide +kernel
theorem dX9_item_33 : decode cX9_item 33 = .ok (.iconst (-1), 1) := by decide +kernel
theorem dX9_item_34 : decode cX9_item 34 = .ok (.ireturn, 1) := by decide +kernel
theorem dX9_item_35 : decode cX9_item 35 = .ok (.iload_n 3, 1) := by decide +kernel
theorem dX9_item_36 : decode cX9_item 36 = .ok (.tableswitch 68 0 2 #[28, 36, 60], 28) := by decide +kernel
theorem dX9_item_64 : decode cX9_item 64 = .ok (.aload 4, 2) := by decide +kernel
theorem dX9_item_66 : decode cX9_item 66 = .ok (.getfield 226, 3) := by decide +kernel
theorem dX9_item_69 : decode cX9_item 69 = .ok (.iload_n 2, 1) := by decide +kernel
theorem dX9_item_70 : decode cX9_item 70 = .ok (.iaload, 1) := by decide +kernel
theorem dX9_item_71 : decode cX9_item 71 = .ok (.ireturn, 1) := by decide +kernel
theorem dX9_item_72 : decode cX9_item 72 = .ok (.aload 4, 2) := by decide +kernel
theorem dX9_item_74 : decode cX9_item 74 = .ok (.getfield 230, 3) := by decide +kernel
theorem dX9_item_77 : decode cX9_item 77 = .ok (.iload_n 2, 1) := by decide +kernel
theorem dX9_item_78 : decode cX9_item 78 = .ok (.iaload, 1) := by decide +kernel
theorem dX9_item_79 : decode cX9_item 79 = .ok (.iconst (-1), 1) := by decide +kernel
theorem dX9_item_80 : decode cX9_item 80 = .ok (.if_icmp .ne 8, 3) := by decide +kernel
theorem dX9_item_83 : decode cX9_item 83 = .ok (.bipush (-6), 2) := by decide +kernel
theorem dX9_item_85 : decode cX9_item 85 = .ok (.goto 10, 3) := by decide +kernel
theorem dX9_item_88 : decode cX9_item 88 = .ok (.aload 4, 2) := by decide +kernel
theorem dX9_item_90 : decode cX9_item 90 = .ok (.getfield 230, 3) := by decide +kernel
theorem dX9_item_93 : decode cX9_item 93 = .ok (.iload_n 2, 1) := by decide +kernel
theorem dX9_item_94 : decode cX9_item 94 = .ok (.iaload, 1) := by decide +kernel
theorem dX9_item_95 : decode cX9_item 95 = .ok (.ireturn, 1) := by decide +kernel
theorem dX9_item_96 : decode cX9_item 96 = .ok (.aload 4, 2) := by decide +kernel
theorem dX9_item_98 : decode cX9_item 98 = .ok (.getfield 233, 3) := by decide +kernel
theorem dX9_item_101 : decode cX9_item 101 = .ok (.iload_n 2, 1) := by decide +kernel
theorem dX9_item_102 : decode cX9_item 102 = .ok (.iaload, 1) := by decide +kernel
theorem dX9_item_103 : decode cX9_item 103 = .ok (.ireturn, 1) := by decide +kernel
theorem dX9_item_104 : decode cX9_item 104 = .ok (.bipush (-2), 2) := by decide +kernel
theorem dX9_item_106 : decode cX9_item 106 = .ok (.ireturn, 1) := by decide +kernel
theorem dX9_target_0 : decode cX9_target 0 = .ok (.aload_n 0, 1) := by decide +kernel
theorem dX9_target_1 : decode cX9_target 1 = .ok (.getfield 10, 3) := by decide +kernel
theorem dX9_target_4 : decode cX9_target 4 = .ok (.getfield 44, 3) := by decide +kernel
theorem dX9_target_7 : decode cX9_target 7 = .ok (.iload_n 1, 1) := by decide +kernel
theorem dX9_target_8 : decode cX9_target 8 = .ok (.invokevirtual 62, 3) := by decide +kernel
theorem dX9_target_11 : decode cX9_target 11 = .ok (.astore_n 3, 1) := by decide +kernel
theorem dX9_target_12 : decode cX9_target 12 = .ok (.aload_n 3, 1) := by decide +kernel
theorem dX9_target_13 : decode cX9_target 13 = .ok (.ifnonnull 5, 3) := by decide +kernel
theorem dX9_target_16 : decode cX9_target 16 = .ok (.iconst (-1), 1) := by decide +kernel
theorem dX9_target_17 : decode cX9_target 17 = .ok (.ireturn, 1) := by decide +kernel
theorem dX9_target_18 : decode cX9_target 18 = .ok (.iload_n 2, 1) := by decide +kernel
theorem dX9_target_19 : decode cX9_target 19 = .ok (.iconst 0, 1) := by decide +kernel
theorem dX9_target_20 : decode cX9_target 20 = .ok (.bipush 9, 2) := by decide +kernel
theorem dX9_target_22 : decode cX9_target 22 = .ok (.invokestatic 82, 3) := by decide +kernel
theorem dX9_target_25 : decode cX9_target 25 = .ok (.ifCond .ne 6, 3) := by decide +kernel
theorem dX9_target_28 : decode cX9_target 28 = .ok (.bipush (-2), 2) := by decide +kernel
theorem dX9_target_30 : decode cX9_target 30 = .ok (.ireturn, 1) := by decide +kernel
theorem dX9_target_31 : decode cX9_target 31 = .ok (.aload_n 3, 1) := by decide +kernel
theorem dX9_target_32 : decode cX9_target 32 = .ok (.iload_n 2, 1) := by decide +kernel
theorem dX9_target_33 : decode cX9_target 33 = .ok (.invokevirtual 122, 3) := by decide +kernel
theorem dX9_target_36 : decode cX9_target 36 = .ok (.istore 4, 2) := by decide +kernel
theorem dX9_target_38 : decode cX9_target 38 = .ok (.iload 4, 2) := by decide +kernel
theorem dX9_target_40 : decode cX9_target 40 = .ok (.iconst (-1), 1) := by decide +kernel
theorem dX9_target_41 : decode cX9_target 41 = .ok (.if_icmp .ne 8, 3) := by decide +kernel
theorem dX9_target_44 : decode cX9_target 44 = .ok (.bipush (-6), 2) := by decide +kernel
theorem dX9_target_46 : decode cX9_target 46 = .ok (.goto 5, 3) := by decide +kernel
theorem dX9_target_49 : decode cX9_target 49 = .ok (.iload 4, 2) := by decide +kernel
theorem dX9_target_51 : decode cX9_target 51 = .ok (.ireturn, 1) := by decide +kernel
theorem dX9_picture_0 : decode cX9_picture 0 = .ok (.aload_n 0, 1) := by decide +kernel
theorem dX9_picture_1 : decode cX9_picture 1 = .ok (.getfield 10, 3) := by decide +kernel
theorem dX9_picture_4 : decode cX9_picture 4 = .ok (.getfield 44, 3) := by decide +kernel
theorem dX9_picture_7 : decode cX9_picture 7 = .ok (.iload_n 1, 1) := by decide +kernel
theorem dX9_picture_8 : decode cX9_picture 8 = .ok (.invokevirtual 62, 3) := by decide +kernel
theorem dX9_picture_11 : decode cX9_picture 11 = .ok (.astore_n 3, 1) := by decide +kernel
theorem dX9_picture_12 : decode cX9_picture 12 = .ok (.aload_n 3, 1) := by decide +kernel
theorem dX9_picture_13 : decode cX9_picture 13 = .ok (.ifnonnull 5, 3) := by decide +kernel
theorem dX9_picture_16 : decode cX9_picture 16 = .ok (.iconst (-1), 1) := by decide +kernel
theorem dX9_picture_17 : decode cX9_picture 17 = .ok (.ireturn, 1) := by decide +kernel
theorem dX9_picture_18 : decode cX9_picture 18 = .ok (.iload_n 2, 1) := by decide +kernel
theorem dX9_picture_19 : decode cX9_picture 19 = .ok (.iconst 0, 1) := by decide +kernel
theorem dX9_picture_20 : decode cX9_picture 20 = .ok (.bipush 9, 2) := by decide +kernel
theorem dX9_picture_22 : decode cX9_picture 22 = .ok (.invokestatic 82, 3) := by decide +kernel
theorem dX9_picture_25 : decode cX9_picture 25 = .ok (.ifCond .eq 11, 3) := by decide +kernel
theorem dX9_picture_28 : decode cX9_picture 28 = .ok (.aload_n 3, 1) := by decide +kernel
theorem dX9_picture_29 : decode cX9_picture 29 = .ok (.iload_n 2, 1) := by decide +kernel
theorem dX9_picture_30 : decode cX9_picture 30 = .ok (.invokevirtual 236, 3) := by decide +kernel
theorem dX9_picture_33 : decode cX9_picture 33 = .ok (.goto 5, 3) := by decide +kernel
theorem dX9_picture_36 : decode cX9_picture 36 = .ok (.bipush (-2), 2) := by decide +kernel
theorem dX9_picture_38 : decode cX9_picture 38 = .ok (.ireturn, 1) := by decide +kernel
theorem dX9_now_0 : decode cX9_now 0 = .ok (.iload_n 1, 1) := by decide +kernel
theorem dX9_now_1 : decode cX9_now 1 = .ok (.iconst 0, 1) := by decide +kernel
theorem dX9_now_2 : decode cX9_now 2 = .ok (.bipush 6, 2) := by decide +kernel
theorem dX9_now_4 : decode cX9_now 4 = .ok (.invokestatic 82, 3) := by decide +kernel
theorem dX9_now_7 : decode cX9_now 7 = .ok (.ifCond .ne 6, 3) := by decide +kernel
theorem dX9_now_10 : decode cX9_now 10 = .ok (.bipush (-2), 2) := by decide +kernel
theorem dX9_now_12 : decode cX9_now 12 = .ok (.ireturn, 1) := by decide +kernel
theorem dX9_now_13 : decode cX9_now 13 = .ok (.aload_n 0, 1) := by decide +kernel
theorem dX9_now_14 : decode cX9_now 14 = .ok (.getfield 10, 3) := by decide +kernel
theorem dX9_now_17 : decode cX9_now 17 = .ok (.invokevirtual 154, 3) := by decide +kernel
theorem dX9_now_20 : decode cX9_now 20 = .ok (.ifnonnull 6, 3) := by decide +kernel
theorem dX9_now_23 : decode cX9_now 23 = .ok (.bipush (-6), 2) := by decide +kernel
theorem dX9_now_25 : decode cX9_now 25 = .ok (.ireturn, 1) := by decide +kernel
theorem dX9_now_26 : decode cX9_now 26 = .ok (.iload_n 1, 1) := by decide +kernel
theorem dX9_now_27 : decode cX9_now 27 = .ok (.tableswitch 103 0 5 #[37, 48, 59, 70, 81, 92], 37) := by decide +kernel
theorem dX9_now_64 : decode cX9_now 64 = .ok (.aload_n 0, 1) := by decide +kernel
theorem dX9_now_65 : decode cX9_now 65 = .ok (.getfield 10, 3) := by decide +kernel
theorem dX9_now_68 : decode cX9_now 68 = .ok (.getfield 66, 3) := by decide +kernel
theorem dX9_now_71 : decode cX9_now 71 = .ok (.getfield 70, 3) := by decide +kernel
theorem dX9_now_74 : decode cX9_now 74 = .ok (.ireturn, 1) := by decide +kernel
theorem dX9_now_75 : decode cX9_now 75 = .ok (.aload_n 0, 1) := by decide +kernel
theorem dX9_now_76 : decode cX9_now 76 = .ok (.getfield 10, 3) := by decide +kernel
theorem dX9_now_79 : decode cX9_now 79 = .ok (.getfield 66, 3) := by decide +kernel
theorem dX9_now_82 : decode cX9_now 82 = .ok (.getfield 172, 3) := by decide +kernel
theorem dX9_now_85 : decode cX9_now 85 = .ok (.ireturn, 1) := by decide +kernel
theorem dX9_now_86 : decode cX9_now 86 = .ok (.aload_n 0, 1) := by decide +kernel
theorem dX9_now_87 : decode cX9_now 87 = .ok (.getfield 10, 3) := by decide +kernel
theorem dX9_now_90 : decode cX9_now 90 = .ok (.getfield 66, 3) := by decide +kernel
theorem dX9_now_93 : decode cX9_now 93 = .ok (.getfield 158, 3) := by decide +kernel
theorem dX9_now_96 : decode cX9_now 96 = .ok (.ireturn, 1) := by decide +kernel
theorem dX9_now_97 : decode cX9_now 97 = .ok (.aload_n 0, 1) := by decide +kernel
theorem dX9_now_98 : decode cX9_now 98 = .ok (.getfield 10, 3) := by decide +kernel
theorem dX9_now_101 : decode cX9_now 101 = .ok (.getfield 66, 3) := by decide +kernel
theorem dX9_now_104 : decode cX9_now 104 = .ok (.getfield 239, 3) := by decide +kernel
theorem dX9_now_107 : decode cX9_now 107 = .ok (.ireturn, 1) := by decide +kernel
theorem dX9_now_108 : decode cX9_now 108 = .ok (.aload_n 0, 1) := by decide +kernel
theorem dX9_now_109 : decode cX9_now 109 = .ok (.getfield 10, 3) := by decide +kernel
theorem dX9_now_112 : decode cX9_now 112 = .ok (.getfield 66, 3) := by decide +kernel
theorem dX9_now_115 : decode cX9_now 115 = .ok (.getfield 242, 3) := by decide +kernel
theorem dX9_now_118 : decode cX9_now 118 = .ok (.ireturn, 1) := by decide +kernel
theorem dX9_now_119 : decode cX9_now 119 = .ok (.aload_n 0, 1) := by decide +kernel
theorem dX9_now_120 : decode cX9_now 120 = .ok (.getfield 10, 3) := by decide +kernel
theorem dX9_now_123 : decode cX9_now 123 = .ok (.invokevirtual 245, 3) := by decide +kernel
theorem dX9_now_126 : decode cX9_now 126 = .ok (.invokestatic 219, 3) := by decide +kernel
theorem dX9_now_129 : decode cX9_now 129 = .ok (.ireturn, 1) := by decide +kernel
theorem dX9_now_130 : decode cX9_now 130 = .ok (.aload_n 0, 1) := by decide +kernel
theorem dX9_now_131 : decode cX9_now 131 = .ok (.getfield 10, 3) := by decide +kernel
theorem dX9_now_134 : decode cX9_now 134 = .ok (.getfield 66, 3) := by decide +kernel
theorem dX9_now_137 : decode cX9_now 137 = .ok (.getfield 249, 3) := by decide +kernel
theorem dX9_now_140 : decode cX9_now 140 = .ok (.ireturn, 1) := by decide +kernel
theorem dX9_trail_0 : decode cX9_trail 0 = .ok (.iload_n 1, 1) := by decide +kernel
theorem dX9_trail_1 : decode cX9_trail 1 = .ok (.ifCond .lt 12, 3) := by decide +kernel
theorem dX9_trail_4 : decode cX9_trail 4 = .ok (.iload_n 2, 1) := by decide +kernel
theorem dX9_trail_5 : decode cX9_trail 5 = .ok (.iconst 0, 1) := by decide +kernel
theorem dX9_trail_6 : decode cX9_trail 6 = .ok (.iconst 2, 1) := by decide +kernel
theorem dX9_trail_7 : decode cX9_trail 7 = .ok (.invokestatic 82, 3) := by decide +kernel
theorem dX9_trail_10 : decode cX9_trail 10 = .ok (.ifCond .ne 6, 3) := by decide +kernel
theorem dX9_trail_13 : decode cX9_trail 13 = .ok (.bipush (-2), 2) := by decide +kernel
theorem dX9_trail_15 : decode cX9_trail 15 = .ok (.ireturn, 1) := by decide +kernel
theorem dX9_trail_16 : decode cX9_trail 16 = .ok (.aload_n 0, 1) := by decide +kernel
theorem dX9_trail_17 : decode cX9_trail 17 = .ok (.getfield 10, 3) := by decide +kernel
theorem dX9_trail_20 : decode cX9_trail 20 = .ok (.invokevirtual 154, 3) := by decide +kernel
theorem dX9_trail_23 : decode cX9_trail 23 = .ok (.ifnull 17, 3) := by decide +kernel
theorem dX9_trail_26 : decode cX9_trail 26 = .ok (.iload_n 1, 1) := by decide +kernel
theorem dX9_trail_27 : decode cX9_trail 27 = .ok (.aload_n 0, 1) := by decide +kernel
theorem dX9_trail_28 : decode cX9_trail 28 = .ok (.getfield 10, 3) := by decide +kernel
theorem dX9_trail_31 : decode cX9_trail 31 = .ok (.getfield 66, 3) := by decide +kernel
theorem dX9_trail_34 : decode cX9_trail 34 = .ok (.getfield 242, 3) := by decide +kernel
theorem dX9_trail_37 : decode cX9_trail 37 = .ok (.if_icmp .lt 6, 3) := by decide +kernel
theorem dX9_trail_40 : decode cX9_trail 40 = .ok (.bipush (-6), 2) := by decide +kernel
theorem dX9_trail_42 : decode cX9_trail 42 = .ok (.ireturn, 1) := by decide +kernel
theorem dX9_trail_43 : decode cX9_trail 43 = .ok (.aload_n 0, 1) := by decide +kernel
theorem dX9_trail_44 : decode cX9_trail 44 = .ok (.getfield 10, 3) := by decide +kernel
theorem dX9_trail_47 : decode cX9_trail 47 = .ok (.getfield 66, 3) := by decide +kernel
theorem dX9_trail_50 : decode cX9_trail 50 = .ok (.aload_n 0, 1) := by decide +kernel
theorem dX9_trail_51 : decode cX9_trail 51 = .ok (.getfield 10, 3) := by decide +kernel
theorem dX9_trail_54 : decode cX9_trail 54 = .ok (.getfield 66, 3) := by decide +kernel
theorem dX9_trail_57 : decode cX9_trail 57 = .ok (.getfield 242, 3) := by decide +kernel
theorem dX9_trail_60 : decode cX9_trail 60 = .ok (.iconst 1, 1) := by decide +kernel
theorem dX9_trail_61 : decode cX9_trail 61 = .ok (.isub, 1) := by decide +kernel
theorem dX9_trail_62 : decode cX9_trail 62 = .ok (.iload_n 1, 1) := by decide +kernel
theorem dX9_trail_63 : decode cX9_trail 63 = .ok (.isub, 1) := by decide +kernel
theorem dX9_trail_64 : decode cX9_trail 64 = .ok (.iload_n 2, 1) := by decide +kernel
theorem dX9_trail_65 : decode cX9_trail 65 = .ok (.invokevirtual 252, 3) := by decide +kernel
theorem dX9_trail_68 : decode cX9_trail 68 = .ok (.ireturn, 1) := by decide +kernel
theorem dX9_labels_0 : decode cX9_labels 0 = .ok (.aload_n 0, 1) := by decide +kernel
theorem dX9_labels_1 : decode cX9_labels 1 = .ok (.getfield 10, 3) := by decide +kernel
theorem dX9_labels_4 : decode cX9_labels 4 = .ok (.invokevirtual 154, 3) := by decide +kernel
theorem dX9_labels_7 : decode cX9_labels 7 = .ok (.astore_n 1, 1) := by decide +kernel
theorem dX9_labels_8 : decode cX9_labels 8 = .ok (.aload_n 1, 1) := by decide +kernel
theorem dX9_labels_9 : decode cX9_labels 9 = .ok (.ifnonnull 8, 3) := by decide +kernel
theorem dX9_labels_12 : decode cX9_labels 12 = .ok (.bipush (-6), 2) := by decide +kernel
theorem dX9_labels_14 : decode cX9_labels 14 = .ok (.goto 17, 3) := by decide +kernel
theorem dX9_labels_17 : decode cX9_labels 17 = .ok (.aload_n 1, 1) := by decide +kernel
theorem dX9_labels_18 : decode cX9_labels 18 = .ok (.aload_n 0, 1) := by decide +kernel
theorem dX9_labels_19 : decode cX9_labels 19 = .ok (.getfield 10, 3) := by decide +kernel
theorem dX9_labels_22 : decode cX9_labels 22 = .ok (.getfield 66, 3) := by decide +kernel
theorem dX9_labels_25 : decode cX9_labels 25 = .ok (.getfield 172, 3) := by decide +kernel
theorem dX9_labels_28 : decode cX9_labels 28 = .ok (.invokevirtual 256, 3) := by decide +kernel
theorem dX9_labels_31 : decode cX9_labels 31 = .ok (.ireturn, 1) := by decide +kernel
theorem dX9_noteNow_0 : decode cX9_noteNow 0 = .ok (.aload_n 0, 1) := by decide +kernel
theorem dX9_noteNow_1 : decode cX9_noteNow 1 = .ok (.getfield 10, 3) := by decide +kernel
theorem dX9_noteNow_4 : decode cX9_noteNow 4 = .ok (.invokevirtual 154, 3) := by decide +kernel
theorem dX9_noteNow_7 : decode cX9_noteNow 7 = .ok (.ifnonnull 8, 3) := by decide +kernel
theorem dX9_noteNow_10 : decode cX9_noteNow 10 = .ok (.bipush (-6), 2) := by decide +kernel
theorem dX9_noteNow_12 : decode cX9_noteNow 12 = .ok (.goto 23, 3) := by decide +kernel
theorem dX9_noteNow_15 : decode cX9_noteNow 15 = .ok (.aload_n 0, 1) := by decide +kernel
theorem dX9_noteNow_16 : decode cX9_noteNow 16 = .ok (.getfield 10, 3) := by decide +kernel
theorem dX9_noteNow_19 : decode cX9_noteNow 19 = .ok (.getfield 131, 3) := by decide +kernel
theorem dX9_noteNow_22 : decode cX9_noteNow 22 = .ok (.aload_n 0, 1) := by decide +kernel
theorem dX9_noteNow_23 : decode cX9_noteNow 23 = .ok (.getfield 10, 3) := by decide +kernel
theorem dX9_noteNow_26 : decode cX9_noteNow 26 = .ok (.getfield 66, 3) := by decide +kernel
theorem dX9_noteNow_29 : decode cX9_noteNow 29 = .ok (.getfield 158, 3) := by decide +kernel
theorem dX9_noteNow_32 : decode cX9_noteNow 32 = .ok (.invokevirtual 259, 3) := by decide +kernel
theorem dX9_noteNow_35 : decode cX9_noteNow 35 = .ok (.ireturn, 1) := by decide +kernel
theorem dX9_end_0 : decode cX9_end 0 = .ok (.aload_n 0, 1) := by decide +kernel
theorem dX9_end_1 : decode cX9_end 1 = .ok (.getfield 10, 3) := by decide +kernel
theorem dX9_end_4 : decode cX9_end 4 = .ok (.getfield 145, 3) := by decide +kernel
theorem dX9_end_7 : decode cX9_end 7 = .ok (.ireturn, 1) := by decide +kernel
theorem dX9_meanSteps_0 : decode cX9_meanSteps 0 = .ok (.aload_n 0, 1) := by decide +kernel
theorem dX9_meanSteps_1 : decode cX9_meanSteps 1 = .ok (.getfield 10, 3) := by decide +kernel
theorem dX9_meanSteps_4 : decode cX9_meanSteps 4 = .ok (.getfield 44, 3) := by decide +kernel
theorem dX9_meanSteps_7 : decode cX9_meanSteps 7 = .ok (.getfield 79, 3) := by decide +kernel
theorem dX9_meanSteps_10 : decode cX9_meanSteps 10 = .ok (.istore_n 1, 1) := by decide +kernel
theorem dX9_meanSteps_11 : decode cX9_meanSteps 11 = .ok (.iload_n 1, 1) := by decide +kernel
theorem dX9_meanSteps_12 : decode cX9_meanSteps 12 = .ok (.ifCond .gt 7, 3) := by decide +kernel
theorem dX9_meanSteps_15 : decode cX9_meanSteps 15 = .ok (.fconst 0, 1) := by decide +kernel
theorem dX9_meanSteps_16 : decode cX9_meanSteps 16 = .ok (.goto 17, 3) := by decide +kernel
theorem dX9_meanSteps_19 : decode cX9_meanSteps 19 = .ok (.aload_n 0, 1) := by decide +kernel
theorem dX9_meanSteps_20 : decode cX9_meanSteps 20 = .ok (.getfield 10, 3) := by decide +kernel
theorem dX9_meanSteps_23 : decode cX9_meanSteps 23 = .ok (.getfield 44, 3) := by decide +kernel
theorem dX9_meanSteps_26 : decode cX9_meanSteps 26 = .ok (.invokevirtual 262, 3) := by decide +kernel
theorem dX9_meanSteps_29 : decode cX9_meanSteps 29 = .ok (.i2f, 1) := by decide +kernel
theorem dX9_meanSteps_30 : decode cX9_meanSteps 30 = .ok (.iload_n 1, 1) := by decide +kernel
theorem dX9_meanSteps_31 : decode cX9_meanSteps 31 = .ok (.i2f, 1) := by decide +kernel
theorem dX9_meanSteps_32 : decode cX9_meanSteps 32 = .ok (.fdiv, 1) := by decide +kernel
theorem dX9_meanSteps_33 : decode cX9_meanSteps 33 = .ok (.freturn, 1) := by decide +kernel
theorem dX9_movesLeft_0 : decode cX9_movesLeft 0 = .ok (.aload_n 0, 1) := by decide +kernel
theorem dX9_movesLeft_1 : decode cX9_movesLeft 1 = .ok (.getfield 40, 3) := by decide +kernel
theorem dX9_movesLeft_4 : decode cX9_movesLeft 4 = .ok (.aload_n 0, 1) := by decide +kernel
theorem dX9_movesLeft_5 : decode cX9_movesLeft 5 = .ok (.getfield 10, 3) := by decide +kernel
theorem dX9_movesLeft_8 : decode cX9_movesLeft 8 = .ok (.invokevirtual 265, 3) := by decide +kernel
theorem dX9_movesLeft_11 : decode cX9_movesLeft 11 = .ok (.ireturn, 1) := by decide +kernel
theorem dX9_fewest_0 : decode cX9_fewest 0 = .ok (.aload_n 0, 1) := by decide +kernel
theorem dX9_fewest_1 : decode cX9_fewest 1 = .ok (.getfield 10, 3) := by decide +kernel
theorem dX9_fewest_4 : decode cX9_fewest 4 = .ok (.getfield 44, 3) := by decide +kernel
theorem dX9_fewest_7 : decode cX9_fewest 7 = .ok (.iload_n 1, 1) := by decide +kernel
theorem dX9_fewest_8 : decode cX9_fewest 8 = .ok (.invokevirtual 62, 3) := by decide +kernel
theorem dX9_fewest_11 : decode cX9_fewest 11 = .ok (.ifnonnull 7, 3) := by decide +kernel
theorem dX9_fewest_14 : decode cX9_fewest 14 = .ok (.iconst (-1), 1) := by decide +kernel
theorem dX9_fewest_15 : decode cX9_fewest 15 = .ok (.goto 15, 3) := by decide +kernel
theorem dX9_fewest_18 : decode cX9_fewest 18 = .ok (.aload_n 0, 1) := by decide +kernel
theorem dX9_fewest_19 : decode cX9_fewest 19 = .ok (.getfield 40, 3) := by decide +kernel
theorem dX9_fewest_22 : decode cX9_fewest 22 = .ok (.aload_n 0, 1) := by decide +kernel
theorem dX9_fewest_23 : decode cX9_fewest 23 = .ok (.getfield 10, 3) := by decide +kernel
theorem dX9_fewest_26 : decode cX9_fewest 26 = .ok (.iload_n 1, 1) := by decide +kernel
theorem dX9_fewest_27 : decode cX9_fewest 27 = .ok (.invokevirtual 269, 3) := by decide +kernel
theorem dX9_fewest_30 : decode cX9_fewest 30 = .ok (.ireturn, 1) := by decide +kernel
theorem dX9_secondsLeft_0 : decode cX9_secondsLeft 0 = .ok (.aload_n 0, 1) := by decide +kernel
theorem dX9_secondsLeft_1 : decode cX9_secondsLeft 1 = .ok (.getfield 40, 3) := by decide +kernel
theorem dX9_secondsLeft_4 : decode cX9_secondsLeft 4 = .ok (.aload_n 0, 1) := by decide +kernel
theorem dX9_secondsLeft_5 : decode cX9_secondsLeft 5 = .ok (.getfield 10, 3) := by decide +kernel
theorem dX9_secondsLeft_8 : decode cX9_secondsLeft 8 = .ok (.invokevirtual 273, 3) := by decide +kernel
theorem dX9_secondsLeft_11 : decode cX9_secondsLeft 11 = .ok (.ireturn, 1) := by decide +kernel
theorem dX9_backTo_0 : decode cX9_backTo 0 = .ok (.aload_n 0, 1) := by decide +kernel
theorem dX9_backTo_1 : decode cX9_backTo 1 = .ok (.getfield 10, 3) := by decide +kernel
theorem dX9_backTo_4 : decode cX9_backTo 4 = .ok (.bipush 98, 2) := by decide +kernel
theorem dX9_backTo_6 : decode cX9_backTo 6 = .ok (.iconst 0, 1) := by decide +kernel
theorem dX9_backTo_7 : decode cX9_backTo 7 = .ok (.invokevirtual 164, 3) := by decide +kernel
theorem dX9_backTo_10 : decode cX9_backTo 10 = .ok (.ifCond .eq 24, 3) := by decide +kernel
theorem dX9_backTo_13 : decode cX9_backTo 13 = .ok (.aload_n 0, 1) := by decide +kernel
theorem dX9_backTo_14 : decode cX9_backTo 14 = .ok (.getfield 10, 3) := by decide +kernel
theorem dX9_backTo_17 : decode cX9_backTo 17 = .ok (.getfield 66, 3) := by decide +kernel
theorem dX9_backTo_20 : decode cX9_backTo 20 = .ok (.aload_n 0, 1) := by decide +kernel
theorem dX9_backTo_21 : decode cX9_backTo 21 = .ok (.getfield 10, 3) := by decide +kernel
theorem dX9_backTo_24 : decode cX9_backTo 24 = .ok (.invokevirtual 276, 3) := by decide +kernel
theorem dX9_backTo_27 : decode cX9_backTo 27 = .ok (.iconst 0, 1) := by decide +kernel
theorem dX9_backTo_28 : decode cX9_backTo 28 = .ok (.invokevirtual 252, 3) := by decide +kernel
theorem dX9_backTo_31 : decode cX9_backTo 31 = .ok (.goto 5, 3) := by decide +kernel
theorem dX9_backTo_34 : decode cX9_backTo 34 = .ok (.bipush (-6), 2) := by decide +kernel
theorem dX9_backTo_36 : decode cX9_backTo 36 = .ok (.ireturn, 1) := by decide +kernel
theorem dX9_isWithin_0 : decode cX9_isWithin 0 = .ok (.iload_n 0, 1) := by decide +kernel
theorem dX9_isWithin_1 : decode cX9_isWithin 1 = .ok (.iload_n 1, 1) := by decide +kernel
theorem dX9_isWithin_2 : decode cX9_isWithin 2 = .ok (.if_icmp .lt 12, 3) := by decide +kernel
theorem dX9_isWithin_5 : decode cX9_isWithin 5 = .ok (.iload_n 0, 1) := by decide +kernel
theorem dX9_isWithin_6 : decode cX9_isWithin 6 = .ok (.iload_n 2, 1) := by decide +kernel
theorem dX9_isWithin_7 : decode cX9_isWithin 7 = .ok (.if_icmp .gt 7, 3) := by decide +kernel
theorem dX9_isWithin_10 : decode cX9_isWithin 10 = .ok (.iconst 1, 1) := by decide +kernel
theorem dX9_isWithin_11 : decode cX9_isWithin 11 = .ok (.goto 4, 3) := by decide +kernel
theorem dX9_isWithin_14 : decode cX9_isWithin 14 = .ok (.iconst 0, 1) := by decide +kernel
theorem dX9_isWithin_15 : decode cX9_isWithin 15 = .ok (.ireturn, 1) := by decide +kernel
theorem dX9_asNumber_0 : decode cX9_asNumber 0 = .ok (.iload_n 0, 1) := by decide +kernel
theorem dX9_asNumber_1 : decode cX9_asNumber 1 = .ok (.ifCond .eq 7, 3) := by decide +kernel
theorem dX9_asNumber_4 : decode cX9_asNumber 4 = .ok (.iconst 1, 1) := by decide +kernel
theorem dX9_asNumber_5 : decode cX9_asNumber 5 = .ok (.goto 4, 3) := by decide +kernel
theorem dX9_asNumber_8 : decode cX9_asNumber 8 = .ok (.iconst 0, 1) := by decide +kernel
theorem dX9_asNumber_9 : decode cX9_asNumber 9 = .ok (.ireturn, 1) := by decide +kernel
end
section
theorem dX10_init_0 : decode cX10_init 0 = .ok (.aload_n 0, 1) := by decide +kernel
theorem dX10_init_1 : decode cX10_init 1 = .ok (.invokespecial 1, 3) := by decide +kernel
theorem dX10_init_4 : decode cX10_init 4 = .ok (.aload_n 0, 1) := by decide +kernel
theorem dX10_init_5 : decode cX10_init 5 = .ok (.sipush 2380, 3) := by decide +kernel
theorem dX10_init_8 : decode cX10_init 8 = .ok (.newarray .int, 2) := by decide +kernel
theorem dX10_init_10 : decode cX10_init 10 = .ok (.putfield 7, 3) := by decide +kernel
theorem dX10_init_13 : decode cX10_init 13 = .ok (.aload_n 0, 1) := by decide +kernel
theorem dX10_init_14 : decode cX10_init 14 = .ok (.bipush 60, 2) := by decide +kernel
theorem dX10_init_16 : decode cX10_init 16 = .ok (.newarray .int, 2) := by decide +kernel
theorem dX10_init_18 : decode cX10_init 18 = .ok (.putfield 13, 3) := by decide +kernel
theorem dX10_init_21 : decode cX10_init 21 = .ok (.aload_n 0, 1) := by decide +kernel
theorem dX10_init_22 : decode cX10_init 22 = .ok (.iconst 4, 1) := by decide +kernel
theorem dX10_init_23 : decode cX10_init 23 = .ok (.newarray .int, 2) := by decide +kernel
theorem dX10_init_25 : decode cX10_init 25 = .ok (.dup, 1) := by decide +kernel
theorem dX10_init_26 : decode cX10_init 26 = .ok (.iconst 0, 1) := by decide +kernel
theorem dX10_init_27 : decode cX10_init 27 = .ok (.bipush (-6), 2) := by decide +kernel
theorem dX10_init_29 : decode cX10_init 29 = .ok (.iastore, 1) := by decide +kernel
theorem dX10_init_30 : decode cX10_init 30 = .ok (.dup, 1) := by decide +kernel
theorem dX10_init_31 : decode cX10_init 31 = .ok (.iconst 1, 1) := by decide +kernel
theorem dX10_init_32 : decode cX10_init 32 = .ok (.bipush (-6), 2) := by decide +kernel
theorem dX10_init_34 : decode cX10_init 34 = .ok (.iastore, 1) := by decide +kernel
theorem dX10_init_35 : decode cX10_init 35 = .ok (.dup, 1) := by decide +kernel
theorem dX10_init_36 : decode cX10_init 36 = .ok (.iconst 2, 1) := by decide +kernel
theorem dX10_init_37 : decode cX10_init 37 = .ok (.bipush (-6), 2) := by decide +kernel
theorem dX10_init_39 : decode cX10_init 39 = .ok (.iastore, 1) := by decide +kernel
theorem dX10_init_40 : decode cX10_init 40 = .ok (.dup, 1) := by decide +kernel
theorem dX10_init_41 : decode cX10_init 41 = .ok (.iconst 3, 1) := by decide +kernel
theorem dX10_init_42 : decode cX10_init 42 = .ok (.bipush (-6), 2) := by decide +kernel
theorem dX10_init_44 : decode cX10_init 44 = .ok (.iastore, 1) := by decide +kernel
theorem dX10_init_45 : decode cX10_init 45 = .ok (.putfield 16, 3) := by decide +kernel
theorem dX10_init_48 : decode cX10_init 48 = .ok (.aload_n 0, 1) := by decide +kernel
theorem dX10_init_49 : decode cX10_init 49 = .ok (.bipush 100, 2) := by decide +kernel
theorem dX10_init_51 : decode cX10_init 51 = .ok (.newarray .int, 2) := by decide +kernel
theorem dX10_init_53 : decode cX10_init 53 = .ok (.putfield 19, 3) := by decide +kernel
theorem dX10_init_56 : decode cX10_init 56 = .ok (.return_, 1) := by decide +kernel
theorem dX10_in_0 : decode cX10_in 0 = .ok (.iload_n 0, 1) := by decide +kernel
theorem dX10_in_1 : decode cX10_in 1 = .ok (.iload_n 1, 1) := by decide +kernel
theorem dX10_in_2 : decode cX10_in 2 = .ok (.if_icmp .lt 12, 3) := by decide +kernel
theorem dX10_in_5 : decode cX10_in 5 = .ok (.iload_n 0, 1) := by decide +kernel
theorem dX10_in_6 : decode cX10_in 6 = .ok (.iload_n 2, 1) := by decide +kernel
theorem dX10_in_7 : decode cX10_in 7 = .ok (.if_icmp .gt 7, 3) := by decide +kernel
theorem dX10_in_10 : decode cX10_in 10 = .ok (.iconst 1, 1) := by decide +kernel
theorem dX10_in_11 : decode cX10_in 11 = .ok (.goto 4, 3) := by decide +kernel
theorem dX10_in_14 : decode cX10_in 14 = .ok (.iconst 0, 1) := by decide +kernel
theorem dX10_in_15 : decode cX10_in 15 = .ok (.ireturn, 1) := by decide +kernel
theorem dX10_of_0 : decode cX10_of 0 = .ok (.aload_n 0, 1) := by decide +kernel
theorem dX10_of_1 : decode cX10_of 1 = .ok (.getfield 7, 3) := by decide +kernel
theorem dX10_of_4 : decode cX10_of 4 = .ok (.sipush 156, 3) := by decide +kernel
theorem dX10_of_7 : decode cX10_of 7 = .ok (.bipush 32, 2) := by decide +kernel
theorem dX10_of_9 : decode cX10_of 9 = .ok (.iload_n 1, 1) := by decide +kernel
theorem dX10_of_10 : decode cX10_of 10 = .ok (.imul, 1) := by decide +kernel
theorem dX10_of_11 : decode cX10_of 11 = .ok (.iadd, 1) := by decide +kernel
theorem dX10_of_12 : decode cX10_of 12 = .ok (.iload_n 2, 1) := by decide +kernel
theorem dX10_of_13 : decode cX10_of 13 = .ok (.iadd, 1) := by decide +kernel
theorem dX10_of_14 : decode cX10_of 14 = .ok (.iaload, 1) := by decide +kernel
theorem dX10_of_15 : decode cX10_of 15 = .ok (.ireturn, 1) := by decide +kernel
theorem dX10_lay_0 : decode cX10_lay 0 = .ok (.aload_n 0, 1) := by decide +kernel
theorem dX10_lay_1 : decode cX10_lay 1 = .ok (.getfield 7, 3) := by decide +kernel
theorem dX10_lay_4 : decode cX10_lay 4 = .ok (.sipush 156, 3) := by decide +kernel
theorem dX10_lay_7 : decode cX10_lay 7 = .ok (.bipush 32, 2) := by decide +kernel
theorem dX10_lay_9 : decode cX10_lay 9 = .ok (.iload_n 1, 1) := by decide +kernel
theorem dX10_lay_10 : decode cX10_lay 10 = .ok (.imul, 1) := by decide +kernel
theorem dX10_lay_11 : decode cX10_lay 11 = .ok (.iadd, 1) := by decide +kernel
theorem dX10_lay_12 : decode cX10_lay 12 = .ok (.iload_n 2, 1) := by decide +kernel
theorem dX10_lay_13 : decode cX10_lay 13 = .ok (.iadd, 1) := by decide +kernel
theorem dX10_lay_14 : decode cX10_lay 14 = .ok (.iload_n 3, 1) := by decide +kernel
theorem dX10_lay_15 : decode cX10_lay 15 = .ok (.iastore, 1) := by decide +kernel
theorem dX10_lay_16 : decode cX10_lay 16 = .ok (.return_, 1) := by decide +kernel
theorem dX10_isSlide_0 : decode cX10_isSlide 0 = .ok (.iload_n 1, 1) := by decide +kernel
theorem dX10_isSlide_1 : decode cX10_isSlide 1 = .ok (.iconst 0, 1) := by decide +kernel
theorem dX10_isSlide_2 : decode cX10_isSlide 2 = .ok (.bipush 9, 2) := by decide +kernel
theorem dX10_isSlide_4 : decode cX10_isSlide 4 = .ok (.invokestatic 22, 3) := by decide +kernel
theorem dX10_isSlide_7 : decode cX10_isSlide 7 = .ok (.ifCond .eq 17, 3) := by decide +kernel
theorem dX10_isSlide_10 : decode cX10_isSlide 10 = .ok (.aload_n 0, 1) := by decide +kernel
theorem dX10_isSlide_11 : decode cX10_isSlide 11 = .ok (.iload_n 1, 1) := by decide +kernel
theorem dX10_isSlide_12 : decode cX10_isSlide 12 = .ok (.iconst 0, 1) := by decide +kernel
theorem dX10_isSlide_13 : decode cX10_isSlide 13 = .ok (.invokevirtual 26, 3) := by decide +kernel
theorem dX10_isSlide_16 : decode cX10_isSlide 16 = .ok (.iconst 1, 1) := by decide +kernel
theorem dX10_isSlide_17 : decode cX10_isSlide 17 = .ok (.if_icmp .ne 7, 3) := by decide +kernel
theorem dX10_isSlide_20 : decode cX10_isSlide 20 = .ok (.iconst 1, 1) := by decide +kernel
theorem dX10_isSlide_21 : decode cX10_isSlide 21 = .ok (.goto 4, 3) := by decide +kernel
theorem dX10_isSlide_24 : decode cX10_isSlide 24 = .ok (.iconst 0, 1) := by decide +kernel
theorem dX10_isSlide_25 : decode cX10_isSlide 25 = .ok (.ireturn, 1) := by decide +kernel
theorem dX10_isItem_0 : decode cX10_isItem 0 = .ok (.aload_n 0, 1) := by decide +kernel
theorem dX10_isItem_1 : decode cX10_isItem 1 = .ok (.iload_n 1, 1) := by decide +kernel
theorem dX10_isItem_2 : decode cX10_isItem 2 = .ok (.invokevirtual 30, 3) := by decide +kernel
theorem dX10_isItem_5 : decode cX10_isItem 5 = .ok (.ifCond .eq 23, 3) := by decide +kernel
theorem dX10_isItem_8 : decode cX10_isItem 8 = .ok (.iload_n 2, 1) := by decide +kernel
theorem dX10_isItem_9 : decode cX10_isItem 9 = .ok (.iconst 0, 1) := by decide +kernel
theorem dX10_isItem_10 : decode cX10_isItem 10 = .ok (.aload_n 0, 1) := by decide +kernel
theorem dX10_isItem_11 : decode cX10_isItem 11 = .ok (.iload_n 1, 1) := by decide +kernel
theorem dX10_isItem_12 : decode cX10_isItem 12 = .ok (.iconst 3, 1) := by decide +kernel
theorem dX10_isItem_13 : decode cX10_isItem 13 = .ok (.invokevirtual 26, 3) := by decide +kernel
theorem dX10_isItem_16 : decode cX10_isItem 16 = .ok (.iconst 1, 1) := by decide +kernel
theorem dX10_isItem_17 : decode cX10_isItem 17 = .ok (.isub, 1) := by decide +kernel
theorem dX10_isItem_18 : decode cX10_isItem 18 = .ok (.invokestatic 22, 3) := by decide +kernel
theorem dX10_isItem_21 : decode cX10_isItem 21 = .ok (.ifCond .eq 7, 3) := by decide +kernel
theorem dX10_isItem_24 : decode cX10_isItem 24 = .ok (.iconst 1, 1) := by decide +kernel
theorem dX10_isItem_25 : decode cX10_isItem 25 = .ok (.goto 4, 3) := by decide +kernel
theorem dX10_isItem_28 : decode cX10_isItem 28 = .ok (.iconst 0, 1) := by decide +kernel
theorem dX10_isItem_29 : decode cX10_isItem 29 = .ok (.ireturn, 1) := by decide +kernel
theorem dX10_isShown_0 : decode cX10_isShown 0 = .ok (.aload_n 0, 1) := by decide +kernel
theorem dX10_isShown_1 : decode cX10_isShown 1 = .ok (.iload_n 1, 1) := by decide +kernel
theorem dX10_isShown_2 : decode cX10_isShown 2 = .ok (.iconst 1, 1) := by decide +kernel
theorem dX10_isShown_3 : decode cX10_isShown 3 = .ok (.invokevirtual 26, 3) := by decide +kernel
theorem dX10_isShown_6 : decode cX10_isShown 6 = .ok (.ifCond .ne 7, 3) := by decide +kernel
theorem dX10_isShown_9 : decode cX10_isShown 9 = .ok (.iconst 1, 1) := by decide +kernel
theorem dX10_isShown_10 : decode cX10_isShown 10 = .ok (.goto 4, 3) := by decide +kernel
theorem dX10_isShown_13 : decode cX10_isShown 13 = .ok (.iconst 0, 1) := by decide +kernel
theorem dX10_isShown_14 : decode cX10_isShown 14 = .ok (.ireturn, 1) := by decide +kernel
theorem dX10_isKey_0 : decode cX10_isKey 0 = .ok (.iload_n 1, 1) := by decide +kernel
theorem dX10_isKey_1 : decode cX10_isKey 1 = .ok (.iconst 0, 1) := by decide +kernel
theorem dX10_isKey_2 : decode cX10_isKey 2 = .ok (.bipush 9, 2) := by decide +kernel
theorem dX10_isKey_4 : decode cX10_isKey 4 = .ok (.invokestatic 22, 3) := by decide +kernel
theorem dX10_isKey_7 : decode cX10_isKey 7 = .ok (.ireturn, 1) := by decide +kernel
theorem dX10_finalStep_0 : decode cX10_finalStep 0 = .ok (.iconst 0, 1) := by decide +kernel
theorem dX10_finalStep_1 : decode cX10_finalStep 1 = .ok (.istore_n 2, 1) := by decide +kernel
theorem dX10_finalStep_2 : decode cX10_finalStep 2 = .ok (.iconst 0, 1) := by decide +kernel
theorem dX10_finalStep_3 : decode cX10_finalStep 3 = .ok (.istore_n 3, 1) := by decide +kernel
theorem dX10_finalStep_4 : decode cX10_finalStep 4 = .ok (.iload_n 3, 1) := by decide +kernel
theorem dX10_finalStep_5 : decode cX10_finalStep 5 = .ok (.aload_n 0, 1) := by decide +kernel
theorem dX10_finalStep_6 : decode cX10_finalStep 6 = .ok (.iload_n 1, 1) := by decide +kernel
theorem dX10_finalStep_7 : decode cX10_finalStep 7 = .ok (.iconst 3, 1) := by decide +kernel
theorem dX10_finalStep_8 : decode cX10_finalStep 8 = .ok (.invokevirtual 26, 3) := by decide +kernel
theorem dX10_finalStep_11 : decode cX10_finalStep 11 = .ok (.if_icmp .ge 70, 3) := by decide +kernel
theorem dX10_finalStep_14 : decode cX10_finalStep 14 = .ok (.aload_n 0, 1) := by decide +kernel
theorem dX10_finalStep_15 : decode cX10_finalStep 15 = .ok (.iload_n 1, 1) := by decide +kernel
theorem dX10_finalStep_16 : decode cX10_finalStep 16 = .ok (.iconst 4, 1) := by decide +kernel
theorem dX10_finalStep_17 : decode cX10_finalStep 17 = .ok (.iconst 3, 1) := by decide +kernel
theorem dX10_finalStep_18 : decode cX10_finalStep 18 = .ok (.iload_n 3, 1) := by decide +kernel
theorem dX10_finalStep_19 : decode cX10_finalStep 19 = .ok (.imul, 1) := by decide +kernel
theorem dX10_finalStep_20 : decode cX10_finalStep 20 = .ok (.iadd, 1) := by decide +kernel
theorem dX10_finalStep_21 : decode cX10_finalStep 21 = .ok (.invokevirtual 26, 3) := by decide +kernel
theorem dX10_finalStep_24 : decode cX10_finalStep 24 = .ok (.istore 4, 2) := by decide +kernel
theorem dX10_finalStep_26 : decode cX10_finalStep 26 = .ok (.aload_n 0, 1) := by decide +kernel
theorem dX10_finalStep_27 : decode cX10_finalStep 27 = .ok (.iload_n 1, 1) := by decide +kernel
theorem dX10_finalStep_28 : decode cX10_finalStep 28 = .ok (.iconst 4, 1) := by decide +kernel
theorem dX10_finalStep_29 : decode cX10_finalStep 29 = .ok (.iconst 3, 1) := by decide +kernel
theorem dX10_finalStep_30 : decode cX10_finalStep 30 = .ok (.iload_n 3, 1) := by decide +kernel
theorem dX10_finalStep_31 : decode cX10_finalStep 31 = .ok (.imul, 1) := by decide +kernel
theorem dX10_finalStep_32 : decode cX10_finalStep 32 = .ok (.iadd, 1) := by decide +kernel
theorem dX10_finalStep_33 : decode cX10_finalStep 33 = .ok (.iconst 1, 1) := by decide +kernel
theorem dX10_finalStep_34 : decode cX10_finalStep 34 = .ok (.iadd, 1) := by decide +kernel
theorem dX10_finalStep_35 : decode cX10_finalStep 35 = .ok (.invokevirtual 26, 3) := by decide +kernel
theorem dX10_finalStep_38 : decode cX10_finalStep 38 = .ok (.iconst 1, 1) := by decide +kernel
theorem dX10_finalStep_39 : decode cX10_finalStep 39 = .ok (.iadd, 1) := by decide +kernel
theorem dX10_finalStep_40 : decode cX10_finalStep 40 = .ok (.istore 5, 2) := by decide +kernel
theorem dX10_finalStep_42 : decode cX10_finalStep 42 = .ok (.iload 4, 2) := by decide +kernel
theorem dX10_finalStep_44 : decode cX10_finalStep 44 = .ok (.iload_n 2, 1) := by decide +kernel
theorem dX10_finalStep_45 : decode cX10_finalStep 45 = .ok (.if_icmp .le 8, 3) := by decide +kernel
theorem dX10_finalStep_48 : decode cX10_finalStep 48 = .ok (.iload 4, 2) := by decide +kernel
theorem dX10_finalStep_50 : decode cX10_finalStep 50 = .ok (.goto 4, 3) := by decide +kernel
theorem dX10_finalStep_53 : decode cX10_finalStep 53 = .ok (.iload_n 2, 1) := by decide +kernel
theorem dX10_finalStep_54 : decode cX10_finalStep 54 = .ok (.istore_n 2, 1) := by decide +kernel
theorem dX10_finalStep_55 : decode cX10_finalStep 55 = .ok (.iload 5, 2) := by decide +kernel
theorem dX10_finalStep_57 : decode cX10_finalStep 57 = .ok (.bipush 10, 2) := by decide +kernel
theorem dX10_finalStep_59 : decode cX10_finalStep 59 = .ok (.if_icmp .ge 14, 3) := by decide +kernel
theorem dX10_finalStep_62 : decode cX10_finalStep 62 = .ok (.iload 5, 2) := by decide +kernel
theorem dX10_finalStep_64 : decode cX10_finalStep 64 = .ok (.iload_n 2, 1) := by decide +kernel
theorem dX10_finalStep_65 : decode cX10_finalStep 65 = .ok (.if_icmp .le 8, 3) := by decide +kernel
theorem dX10_finalStep_68 : decode cX10_finalStep 68 = .ok (.iload 5, 2) := by decide +kernel
theorem dX10_finalStep_70 : decode cX10_finalStep 70 = .ok (.goto 4, 3) := by decide +kernel
theorem dX10_finalStep_73 : decode cX10_finalStep 73 = .ok (.iload_n 2, 1) := by decide +kernel
theorem dX10_finalStep_74 : decode cX10_finalStep 74 = .ok (.istore_n 2, 1) := by decide +kernel
theorem dX10_finalStep_75 : decode cX10_finalStep 75 = .ok (.iinc 3 1, 3) := by decide +kernel
theorem dX10_finalStep_78 : decode cX10_finalStep 78 = .ok (.goto (-74), 3) := by decide +kernel
theorem dX10_finalStep_81 : decode cX10_finalStep 81 = .ok (.iload_n 2, 1) := by decide +kernel
theorem dX10_finalStep_82 : decode cX10_finalStep 82 = .ok (.ireturn, 1) := by decide +kernel
theorem dX10_seen_0 : decode cX10_seen 0 = .ok (.iconst 0, 1) := by decide +kernel
theorem dX10_seen_1 : decode cX10_seen 1 = .ok (.istore_n 3, 1) := by decide +kernel
theorem dX10_seen_2 : decode cX10_seen 2 = .ok (.iconst 0, 1) := by decide +kernel
theorem dX10_seen_3 : decode cX10_seen 3 = .ok (.istore 4, 2) := by decide +kernel
theorem dX10_seen_5 : decode cX10_seen 5 = .ok (.iload 4, 2) := by decide +kernel
theorem dX10_seen_7 : decode cX10_seen 7 = .ok (.aload_n 0, 1) := by decide +kernel
theorem dX10_seen_8 : decode cX10_seen 8 = .ok (.iload_n 1, 1) := by decide +kernel
theorem dX10_seen_9 : decode cX10_seen 9 = .ok (.iconst 3, 1) := by decide +kernel
theorem dX10_seen_10 : decode cX10_seen 10 = .ok (.invokevirtual 26, 3) := by decide +kernel
theorem dX10_seen_13 : decode cX10_seen 13 = .ok (.if_icmp .ge 74, 3) := by decide +kernel
theorem dX10_seen_16 : decode cX10_seen 16 = .ok (.aload_n 0, 1) := by decide +kernel
theorem dX10_seen_17 : decode cX10_seen 17 = .ok (.iload_n 1, 1) := by decide +kernel
theorem dX10_seen_18 : decode cX10_seen 18 = .ok (.iconst 4, 1) := by decide +kernel
theorem dX10_seen_19 : decode cX10_seen 19 = .ok (.iconst 3, 1) := by decide +kernel
theorem dX10_seen_20 : decode cX10_seen 20 = .ok (.iload 4, 2) := by decide +kernel
theorem dX10_seen_22 : decode cX10_seen 22 = .ok (.imul, 1) := by decide +kernel
theorem dX10_seen_23 : decode cX10_seen 23 = .ok (.iadd, 1) := by decide +kernel
theorem dX10_seen_24 : decode cX10_seen 24 = .ok (.iconst 1, 1) := by decide +kernel
theorem dX10_seen_25 : decode cX10_seen 25 = .ok (.iadd, 1) := by decide +kernel
theorem dX10_seen_26 : decode cX10_seen 26 = .ok (.invokevirtual 26, 3) := by decide +kernel
theorem dX10_seen_29 : decode cX10_seen 29 = .ok (.istore 5, 2) := by decide +kernel
theorem dX10_seen_31 : decode cX10_seen 31 = .ok (.iload_n 2, 1) := by decide +kernel
theorem dX10_seen_32 : decode cX10_seen 32 = .ok (.aload_n 0, 1) := by decide +kernel
theorem dX10_seen_33 : decode cX10_seen 33 = .ok (.iload_n 1, 1) := by decide +kernel
theorem dX10_seen_34 : decode cX10_seen 34 = .ok (.iconst 4, 1) := by decide +kernel
theorem dX10_seen_35 : decode cX10_seen 35 = .ok (.iconst 3, 1) := by decide +kernel
theorem dX10_seen_36 : decode cX10_seen 36 = .ok (.iload 4, 2) := by decide +kernel
theorem dX10_seen_38 : decode cX10_seen 38 = .ok (.imul, 1) := by decide +kernel
theorem dX10_seen_39 : decode cX10_seen 39 = .ok (.iadd, 1) := by decide +kernel
theorem dX10_seen_40 : decode cX10_seen 40 = .ok (.invokevirtual 26, 3) := by decide +kernel
theorem dX10_seen_43 : decode cX10_seen 43 = .ok (.if_icmp .lt 19, 3) := by decide +kernel
theorem dX10_seen_46 : decode cX10_seen 46 = .ok (.iload 5, 2) := by decide +kernel
theorem dX10_seen_48 : decode cX10_seen 48 = .ok (.iconst (-1), 1) := by decide +kernel
theorem dX10_seen_49 : decode cX10_seen 49 = .ok (.if_icmp .eq 9, 3) := by decide +kernel
theorem dX10_seen_52 : decode cX10_seen 52 = .ok (.iload_n 2, 1) := by decide +kernel
theorem dX10_seen_53 : decode cX10_seen 53 = .ok (.iload 5, 2) := by decide +kernel
theorem dX10_seen_55 : decode cX10_seen 55 = .ok (.if_icmp .gt 7, 3) := by decide +kernel
theorem dX10_seen_58 : decode cX10_seen 58 = .ok (.iconst 1, 1) := by decide +kernel
theorem dX10_seen_59 : decode cX10_seen 59 = .ok (.goto 4, 3) := by decide +kernel
theorem dX10_seen_62 : decode cX10_seen 62 = .ok (.iconst 0, 1) := by decide +kernel
theorem dX10_seen_63 : decode cX10_seen 63 = .ok (.istore 6, 2) := by decide +kernel
theorem dX10_seen_65 : decode cX10_seen 65 = .ok (.iload_n 3, 1) := by decide +kernel
theorem dX10_seen_66 : decode cX10_seen 66 = .ok (.iload 6, 2) := by decide +kernel
theorem dX10_seen_68 : decode cX10_seen 68 = .ok (.ifCond .eq 10, 3) := by decide +kernel
theorem dX10_seen_71 : decode cX10_seen 71 = .ok (.iconst 1, 1) := by decide +kernel
theorem dX10_seen_72 : decode cX10_seen 72 = .ok (.iload 4, 2) := by decide +kernel
theorem dX10_seen_74 : decode cX10_seen 74 = .ok (.ishl, 1) := by decide +kernel
theorem dX10_seen_75 : decode cX10_seen 75 = .ok (.goto 4, 3) := by decide +kernel
theorem dX10_seen_78 : decode cX10_seen 78 = .ok (.iconst 0, 1) := by decide +kernel
theorem dX10_seen_79 : decode cX10_seen 79 = .ok (.ior, 1) := by decide +kernel
theorem dX10_seen_80 : decode cX10_seen 80 = .ok (.istore_n 3, 1) := by decide +kernel
theorem dX10_seen_81 : decode cX10_seen 81 = .ok (.iinc 4 1, 3) := by decide +kernel
theorem dX10_seen_84 : decode cX10_seen 84 = .ok (.goto (-79), 3) := by decide +kernel
theorem dX10_seen_87 : decode cX10_seen 87 = .ok (.iload_n 3, 1) := by decide +kernel
theorem dX10_seen_88 : decode cX10_seen 88 = .ok (.ireturn, 1) := by decide +kernel
theorem dX10_links_0 : decode cX10_links 0 = .ok (.iconst 0, 1) := by decide +kernel
theorem dX10_links_1 : decode cX10_links 1 = .ok (.istore_n 2, 1) := by decide +kernel
theorem dX10_links_2 : decode cX10_links 2 = .ok (.iconst 0, 1) := by decide +kernel
theorem dX10_links_3 : decode cX10_links 3 = .ok (.istore_n 3, 1) := by decide +kernel
theorem dX10_links_4 : decode cX10_links 4 = .ok (.iload_n 3, 1) := by decide +kernel
theorem dX10_links_5 : decode cX10_links 5 = .ok (.bipush 10, 2) := by decide +kernel
theorem dX10_links_7 : decode cX10_links 7 = .ok (.if_icmp .ge 31, 3) := by decide +kernel
theorem dX10_links_10 : decode cX10_links 10 = .ok (.iload_n 2, 1) := by decide +kernel
theorem dX10_links_11 : decode cX10_links 11 = .ok (.aload_n 0, 1) := by decide +kernel
theorem dX10_links_12 : decode cX10_links 12 = .ok (.iload_n 1, 1) := by decide +kernel
theorem dX10_links_13 : decode cX10_links 13 = .ok (.bipush 22, 2) := by decide +kernel
theorem dX10_links_15 : decode cX10_links 15 = .ok (.iload_n 3, 1) := by decide +kernel
theorem dX10_links_16 : decode cX10_links 16 = .ok (.iadd, 1) := by decide +kernel
theorem dX10_links_17 : decode cX10_links 17 = .ok (.invokevirtual 26, 3) := by decide +kernel
theorem dX10_links_20 : decode cX10_links 20 = .ok (.bipush (-6), 2) := by decide +kernel
theorem dX10_links_22 : decode cX10_links 22 = .ok (.if_icmp .ne 7, 3) := by decide +kernel
theorem dX10_links_25 : decode cX10_links 25 = .ok (.iconst 0, 1) := by decide +kernel
theorem dX10_links_26 : decode cX10_links 26 = .ok (.goto 4, 3) := by decide +kernel
theorem dX10_links_29 : decode cX10_links 29 = .ok (.iconst 1, 1) := by decide +kernel
theorem dX10_links_30 : decode cX10_links 30 = .ok (.iadd, 1) := by decide +kernel
theorem dX10_links_31 : decode cX10_links 31 = .ok (.istore_n 2, 1) := by decide +kernel
theorem dX10_links_32 : decode cX10_links 32 = .ok (.iinc 3 1, 3) := by decide +kernel
theorem dX10_links_35 : decode cX10_links 35 = .ok (.goto (-31), 3) := by decide +kernel
theorem dX10_links_38 : decode cX10_links 38 = .ok (.iload_n 2, 1) := by decide +kernel
theorem dX10_links_39 : decode cX10_links 39 = .ok (.ireturn, 1) := by decide +kernel
theorem dX10_placeOf_0 : decode cX10_placeOf 0 = .ok (.iconst 0, 1) := by decide +kernel
theorem dX10_placeOf_1 : decode cX10_placeOf 1 = .ok (.istore_n 2, 1) := by decide +kernel
theorem dX10_placeOf_2 : decode cX10_placeOf 2 = .ok (.aload_n 0, 1) := by decide +kernel
theorem dX10_placeOf_3 : decode cX10_placeOf 3 = .ok (.getfield 7, 3) := by decide +kernel
theorem dX10_placeOf_6 : decode cX10_placeOf 6 = .ok (.iconst 1, 1) := by decide +kernel
theorem dX10_placeOf_7 : decode cX10_placeOf 7 = .ok (.iload_n 2, 1) := by decide +kernel
theorem dX10_placeOf_8 : decode cX10_placeOf 8 = .ok (.iadd, 1) := by decide +kernel
theorem dX10_placeOf_9 : decode cX10_placeOf 9 = .ok (.iaload, 1) := by decide +kernel
theorem dX10_placeOf_10 : decode cX10_placeOf 10 = .ok (.iload_n 1, 1) := by decide +kernel
theorem dX10_placeOf_11 : decode cX10_placeOf 11 = .ok (.if_icmp .eq 9, 3) := by decide +kernel
theorem dX10_placeOf_14 : decode cX10_placeOf 14 = .ok (.iinc 2 1, 3) := by decide +kernel
theorem dX10_placeOf_17 : decode cX10_placeOf 17 = .ok (.goto (-15), 3) := by decide +kernel
theorem dX10_placeOf_20 : decode cX10_placeOf 20 = .ok (.iload_n 2, 1) := by decide +kernel
theorem dX10_placeOf_21 : decode cX10_placeOf 21 = .ok (.ireturn, 1) := by decide +kernel
theorem dX10_shownFrom_0 : decode cX10_shownFrom 0 = .ok (.iload_n 1, 1) := by decide +kernel
theorem dX10_shownFrom_1 : decode cX10_shownFrom 1 = .ok (.istore_n 2, 1) := by decide +kernel
theorem dX10_shownFrom_2 : decode cX10_shownFrom 2 = .ok (.iload_n 2, 1) := by decide +kernel
theorem dX10_shownFrom_3 : decode cX10_shownFrom 3 = .ok (.aload_n 0, 1) := by decide +kernel
theorem dX10_shownFrom_4 : decode cX10_shownFrom 4 = .ok (.getfield 7, 3) := by decide +kernel
theorem dX10_shownFrom_7 : decode cX10_shownFrom 7 = .ok (.iconst 0, 1) := by decide +kernel
theorem dX10_shownFrom_8 : decode cX10_shownFrom 8 = .ok (.iaload, 1) := by decide +kernel
theorem dX10_shownFrom_9 : decode cX10_shownFrom 9 = .ok (.if_icmp .ge 33, 3) := by decide +kernel
theorem dX10_shownFrom_12 : decode cX10_shownFrom 12 = .ok (.aload_n 0, 1) := by decide +kernel
theorem dX10_shownFrom_13 : decode cX10_shownFrom 13 = .ok (.aload_n 0, 1) := by decide +kernel
theorem dX10_shownFrom_14 : decode cX10_shownFrom 14 = .ok (.getfield 7, 3) := by decide +kernel
theorem dX10_shownFrom_17 : decode cX10_shownFrom 17 = .ok (.iconst 1, 1) := by decide +kernel
theorem dX10_shownFrom_18 : decode cX10_shownFrom 18 = .ok (.iload_n 2, 1) := by decide +kernel
theorem dX10_shownFrom_19 : decode cX10_shownFrom 19 = .ok (.iadd, 1) := by decide +kernel
theorem dX10_shownFrom_20 : decode cX10_shownFrom 20 = .ok (.iaload, 1) := by decide +kernel
theorem dX10_shownFrom_21 : decode cX10_shownFrom 21 = .ok (.invokevirtual 34, 3) := by decide +kernel
theorem dX10_shownFrom_24 : decode cX10_shownFrom 24 = .ok (.ifCond .eq 12, 3) := by decide +kernel
theorem dX10_shownFrom_27 : decode cX10_shownFrom 27 = .ok (.aload_n 0, 1) := by decide +kernel
theorem dX10_shownFrom_28 : decode cX10_shownFrom 28 = .ok (.getfield 7, 3) := by decide +kernel
theorem dX10_shownFrom_31 : decode cX10_shownFrom 31 = .ok (.iconst 1, 1) := by decide +kernel
theorem dX10_shownFrom_32 : decode cX10_shownFrom 32 = .ok (.iload_n 2, 1) := by decide +kernel
theorem dX10_shownFrom_33 : decode cX10_shownFrom 33 = .ok (.iadd, 1) := by decide +kernel
theorem dX10_shownFrom_34 : decode cX10_shownFrom 34 = .ok (.iaload, 1) := by decide +kernel
theorem dX10_shownFrom_35 : decode cX10_shownFrom 35 = .ok (.ireturn, 1) := by decide +kernel
theorem dX10_shownFrom_36 : decode cX10_shownFrom 36 = .ok (.iinc 2 1, 3) := by decide +kernel
theorem dX10_shownFrom_39 : decode cX10_shownFrom 39 = .ok (.goto (-37), 3) := by decide +kernel
theorem dX10_shownFrom_42 : decode cX10_shownFrom 42 = .ok (.bipush (-6), 2) := by decide +kernel
theorem dX10_shownFrom_44 : decode cX10_shownFrom 44 = .ok (.ireturn, 1) := by decide +kernel
theorem dX10_nextOf_0 : decode cX10_nextOf 0 = .ok (.aload_n 0, 1) := by decide +kernel
theorem dX10_nextOf_1 : decode cX10_nextOf 1 = .ok (.aload_n 0, 1) := by decide +kernel
theorem dX10_nextOf_2 : decode cX10_nextOf 2 = .ok (.iload_n 1, 1) := by decide +kernel
theorem dX10_nextOf_3 : decode cX10_nextOf 3 = .ok (.invokevirtual 37, 3) := by decide +kernel
theorem dX10_nextOf_6 : decode cX10_nextOf 6 = .ok (.iconst 1, 1) := by decide +kernel
theorem dX10_nextOf_7 : decode cX10_nextOf 7 = .ok (.iadd, 1) := by decide +kernel
theorem dX10_nextOf_8 : decode cX10_nextOf 8 = .ok (.invokevirtual 41, 3) := by decide +kernel
theorem dX10_nextOf_11 : decode cX10_nextOf 11 = .ok (.ireturn, 1) := by decide +kernel
theorem dX10_isOver_0 : decode cX10_isOver 0 = .ok (.aload_n 0, 1) := by decide +kernel
theorem dX10_isOver_1 : decode cX10_isOver 1 = .ok (.getfield 7, 3) := by decide +kernel
theorem dX10_isOver_4 : decode cX10_isOver 4 = .ok (.bipush 28, 2) := by decide +kernel
theorem dX10_isOver_6 : decode cX10_isOver 6 = .ok (.iaload, 1) := by decide +kernel
theorem dX10_isOver_7 : decode cX10_isOver 7 = .ok (.ifCond .le 24, 3) := by decide +kernel
theorem dX10_isOver_10 : decode cX10_isOver 10 = .ok (.aload_n 0, 1) := by decide +kernel
theorem dX10_isOver_11 : decode cX10_isOver 11 = .ok (.getfield 7, 3) := by decide +kernel
theorem dX10_isOver_14 : decode cX10_isOver 14 = .ok (.bipush 32, 2) := by decide +kernel
theorem dX10_isOver_16 : decode cX10_isOver 16 = .ok (.iaload, 1) := by decide +kernel
theorem dX10_isOver_17 : decode cX10_isOver 17 = .ok (.aload_n 0, 1) := by decide +kernel
theorem dX10_isOver_18 : decode cX10_isOver 18 = .ok (.getfield 7, 3) := by decide +kernel
theorem dX10_isOver_21 : decode cX10_isOver 21 = .ok (.bipush 28, 2) := by decide +kernel
theorem dX10_isOver_23 : decode cX10_isOver 23 = .ok (.iaload, 1) := by decide +kernel
theorem dX10_isOver_24 : decode cX10_isOver 24 = .ok (.if_icmp .lt 7, 3) := by decide +kernel
theorem dX10_isOver_27 : decode cX10_isOver 27 = .ok (.iconst 1, 1) := by decide +kernel
theorem dX10_isOver_28 : decode cX10_isOver 28 = .ok (.goto 4, 3) := by decide +kernel
theorem dX10_isOver_31 : decode cX10_isOver 31 = .ok (.iconst 0, 1) := by decide +kernel
theorem dX10_isOver_32 : decode cX10_isOver 32 = .ok (.ireturn, 1) := by decide +kernel
theorem dX10_isOn_0 : decode cX10_isOn 0 = .ok (.aload_n 0, 1) := by decide +kernel
theorem dX10_isOn_1 : decode cX10_isOn 1 = .ok (.getfield 7, 3) := by decide +kernel
theorem dX10_isOn_4 : decode cX10_isOn 4 = .ok (.bipush 29, 2) := by decide +kernel
theorem dX10_isOn_6 : decode cX10_isOn 6 = .ok (.iaload, 1) := by decide +kernel
theorem dX10_isOn_7 : decode cX10_isOn 7 = .ok (.iconst 1, 1) := by decide +kernel
theorem dX10_isOn_8 : decode cX10_isOn 8 = .ok (.if_icmp .ne 14, 3) := by decide +kernel
theorem dX10_isOn_11 : decode cX10_isOn 11 = .ok (.aload_n 0, 1) := by decide +kernel
theorem dX10_isOn_12 : decode cX10_isOn 12 = .ok (.invokevirtual 44, 3) := by decide +kernel
theorem dX10_isOn_15 : decode cX10_isOn 15 = .ok (.ifCond .ne 7, 3) := by decide +kernel
theorem dX10_isOn_18 : decode cX10_isOn 18 = .ok (.iconst 1, 1) := by decide +kernel
theorem dX10_isOn_19 : decode cX10_isOn 19 = .ok (.goto 4, 3) := by decide +kernel
theorem dX10_isOn_22 : decode cX10_isOn 22 = .ok (.iconst 0, 1) := by decide +kernel
theorem dX10_isOn_23 : decode cX10_isOn 23 = .ok (.ireturn, 1) := by decide +kernel
theorem dX10_canForward_0 : decode cX10_canForward 0 = .ok (.aload_n 0, 1) := by decide +kernel
theorem dX10_canForward_1 : decode cX10_canForward 1 = .ok (.getfield 7, 3) := by decide +kernel
theorem dX10_canForward_4 : decode cX10_canForward 4 = .ok (.bipush 31, 2) := by decide +kernel
theorem dX10_canForward_6 : decode cX10_canForward 6 = .ok (.iaload, 1) := by decide +kernel
theorem dX10_canForward_7 : decode cX10_canForward 7 = .ok (.aload_n 0, 1) := by decide +kernel
theorem dX10_canForward_8 : decode cX10_canForward 8 = .ok (.aload_n 0, 1) := by decide +kernel
theorem dX10_canForward_9 : decode cX10_canForward 9 = .ok (.getfield 7, 3) := by decide +kernel
theorem dX10_canForward_12 : decode cX10_canForward 12 = .ok (.bipush 30, 2) := by decide +kernel
theorem dX10_canForward_14 : decode cX10_canForward 14 = .ok (.iaload, 1) := by decide +kernel
theorem dX10_canForward_15 : decode cX10_canForward 15 = .ok (.invokevirtual 48, 3) := by decide +kernel
theorem dX10_canForward_18 : decode cX10_canForward 18 = .ok (.if_icmp .lt 19, 3) := by decide +kernel
theorem dX10_canForward_21 : decode cX10_canForward 21 = .ok (.aload_n 0, 1) := by decide +kernel
theorem dX10_canForward_22 : decode cX10_canForward 22 = .ok (.aload_n 0, 1) := by decide +kernel
theorem dX10_canForward_23 : decode cX10_canForward 23 = .ok (.getfield 7, 3) := by decide +kernel
theorem dX10_canForward_26 : decode cX10_canForward 26 = .ok (.bipush 30, 2) := by decide +kernel
theorem dX10_canForward_28 : decode cX10_canForward 28 = .ok (.iaload, 1) := by decide +kernel
theorem dX10_canForward_29 : decode cX10_canForward 29 = .ok (.invokevirtual 51, 3) := by decide +kernel
theorem dX10_canForward_32 : decode cX10_canForward 32 = .ok (.bipush (-6), 2) := by decide +kernel
theorem dX10_canForward_34 : decode cX10_canForward 34 = .ok (.if_icmp .eq 7, 3) := by decide +kernel
theorem dX10_canForward_37 : decode cX10_canForward 37 = .ok (.iconst 1, 1) := by decide +kernel
theorem dX10_canForward_38 : decode cX10_canForward 38 = .ok (.goto 4, 3) := by decide +kernel
theorem dX10_canForward_41 : decode cX10_canForward 41 = .ok (.iconst 0, 1) := by decide +kernel
theorem dX10_canForward_42 : decode cX10_canForward 42 = .ok (.ireturn, 1) := by decide +kernel
theorem dX10_comes_0 : decode cX10_comes 0 = .ok (.iconst 0, 1) := by decide +kernel
theorem dX10_comes_1 : decode cX10_comes 1 = .ok (.istore 4, 2) := by decide +kernel
theorem dX10_comes_3 : decode cX10_comes 3 = .ok (.iload 4, 2) := by decide +kernel
theorem dX10_comes_5 : decode cX10_comes 5 = .ok (.bipush 117, 2) := by decide +kernel
theorem dX10_comes_7 : decode cX10_comes 7 = .ok (.if_icmp .ge 43, 3) := by decide +kernel
theorem dX10_comes_10 : decode cX10_comes 10 = .ok (.aload_n 0, 1) := by decide +kernel
theorem dX10_comes_11 : decode cX10_comes 11 = .ok (.getfield 7, 3) := by decide +kernel
theorem dX10_comes_14 : decode cX10_comes 14 = .ok (.bipush 35, 2) := by decide +kernel
theorem dX10_comes_16 : decode cX10_comes 16 = .ok (.iaload, 1) := by decide +kernel
theorem dX10_comes_17 : decode cX10_comes 17 = .ok (.bipush 40, 2) := by decide +kernel
theorem dX10_comes_19 : decode cX10_comes 19 = .ok (.if_icmp .ne 31, 3) := by decide +kernel
theorem dX10_comes_22 : decode cX10_comes 22 = .ok (.aload_n 0, 1) := by decide +kernel
theorem dX10_comes_23 : decode cX10_comes 23 = .ok (.getfield 7, 3) := by decide +kernel
theorem dX10_comes_26 : decode cX10_comes 26 = .ok (.bipush 36, 2) := by decide +kernel
theorem dX10_comes_28 : decode cX10_comes 28 = .ok (.iload 4, 2) := by decide +kernel
theorem dX10_comes_30 : decode cX10_comes 30 = .ok (.iadd, 1) := by decide +kernel
theorem dX10_comes_31 : decode cX10_comes 31 = .ok (.aload_n 0, 1) := by decide +kernel
theorem dX10_comes_32 : decode cX10_comes 32 = .ok (.getfield 7, 3) := by decide +kernel
theorem dX10_comes_35 : decode cX10_comes 35 = .ok (.bipush 36, 2) := by decide +kernel
theorem dX10_comes_37 : decode cX10_comes 37 = .ok (.iload 4, 2) := by decide +kernel
theorem dX10_comes_39 : decode cX10_comes 39 = .ok (.iadd, 1) := by decide +kernel
theorem dX10_comes_40 : decode cX10_comes 40 = .ok (.iconst 3, 1) := by decide +kernel
theorem dX10_comes_41 : decode cX10_comes 41 = .ok (.iadd, 1) := by decide +kernel
theorem dX10_comes_42 : decode cX10_comes 42 = .ok (.iaload, 1) := by decide +kernel
theorem dX10_comes_43 : decode cX10_comes 43 = .ok (.iastore, 1) := by decide +kernel
theorem dX10_comes_44 : decode cX10_comes 44 = .ok (.iinc 4 1, 3) := by decide +kernel
theorem dX10_comes_47 : decode cX10_comes 47 = .ok (.goto (-44), 3) := by decide +kernel
theorem dX10_comes_50 : decode cX10_comes 50 = .ok (.aload_n 0, 1) := by decide +kernel
theorem dX10_comes_51 : decode cX10_comes 51 = .ok (.getfield 7, 3) := by decide +kernel
theorem dX10_comes_54 : decode cX10_comes 54 = .ok (.bipush 35, 2) := by decide +kernel
theorem dX10_comes_56 : decode cX10_comes 56 = .ok (.dup2, 1) := by decide +kernel
theorem dX10_comes_57 : decode cX10_comes 57 = .ok (.iaload, 1) := by decide +kernel
theorem dX10_comes_58 : decode cX10_comes 58 = .ok (.aload_n 0, 1) := by decide +kernel
theorem dX10_comes_59 : decode cX10_comes 59 = .ok (.getfield 7, 3) := by decide +kernel
theorem dX10_comes_62 : decode cX10_comes 62 = .ok (.bipush 35, 2) := by decide +kernel
theorem dX10_comes_64 : decode cX10_comes 64 = .ok (.iaload, 1) := by decide +kernel
theorem dX10_comes_65 : decode cX10_comes 65 = .ok (.bipush 40, 2) := by decide +kernel
theorem dX10_comes_67 : decode cX10_comes 67 = .ok (.if_icmp .ne 7, 3) := by decide +kernel
theorem dX10_comes_70 : decode cX10_comes 70 = .ok (.iconst 1, 1) := by decide +kernel
theorem dX10_comes_71 : decode cX10_comes 71 = .ok (.goto 4, 3) := by decide +kernel
theorem dX10_comes_74 : decode cX10_comes 74 = .ok (.iconst 0, 1) := by decide +kernel
theorem dX10_comes_75 : decode cX10_comes 75 = .ok (.isub, 1) := by decide +kernel
theorem dX10_comes_76 : decode cX10_comes 76 = .ok (.iastore, 1) := by decide +kernel
theorem dX10_comes_77 : decode cX10_comes 77 = .ok (.bipush 36, 2) := by decide +kernel
theorem dX10_comes_79 : decode cX10_comes 79 = .ok (.iconst 3, 1) := by decide +kernel
theorem dX10_comes_80 : decode cX10_comes 80 = .ok (.aload_n 0, 1) := by decide +kernel
theorem dX10_comes_81 : decode cX10_comes 81 = .ok (.getfield 7, 3) := by decide +kernel
theorem dX10_comes_84 : decode cX10_comes 84 = .ok (.bipush 35, 2) := by decide +kernel
theorem dX10_comes_86 : decode cX10_comes 86 = .ok (.iaload, 1) := by decide +kernel
theorem dX10_comes_87 : decode cX10_comes 87 = .ok (.imul, 1) := by decide +kernel
theorem dX10_comes_88 : decode cX10_comes 88 = .ok (.iadd, 1) := by decide +kernel
theorem dX10_comes_89 : decode cX10_comes 89 = .ok (.istore 4, 2) := by decide +kernel
theorem dX10_comes_91 : decode cX10_comes 91 = .ok (.aload_n 0, 1) := by decide +kernel
theorem dX10_comes_92 : decode cX10_comes 92 = .ok (.getfield 7, 3) := by decide +kernel
theorem dX10_comes_95 : decode cX10_comes 95 = .ok (.iload 4, 2) := by decide +kernel
theorem dX10_comes_97 : decode cX10_comes 97 = .ok (.aload_n 0, 1) := by decide +kernel
theorem dX10_comes_98 : decode cX10_comes 98 = .ok (.getfield 7, 3) := by decide +kernel
theorem dX10_comes_101 : decode cX10_comes 101 = .ok (.bipush 30, 2) := by decide +kernel
theorem dX10_comes_103 : decode cX10_comes 103 = .ok (.iaload, 1) := by decide +kernel
theorem dX10_comes_104 : decode cX10_comes 104 = .ok (.iastore, 1) := by decide +kernel
theorem dX10_comes_105 : decode cX10_comes 105 = .ok (.aload_n 0, 1) := by decide +kernel
theorem dX10_comes_106 : decode cX10_comes 106 = .ok (.getfield 7, 3) := by decide +kernel
theorem dX10_comes_109 : decode cX10_comes 109 = .ok (.iload 4, 2) := by decide +kernel
theorem dX10_comes_111 : decode cX10_comes 111 = .ok (.iconst 1, 1) := by decide +kernel
theorem dX10_comes_112 : decode cX10_comes 112 = .ok (.iadd, 1) := by decide +kernel
theorem dX10_comes_113 : decode cX10_comes 113 = .ok (.aload_n 0, 1) := by decide +kernel
theorem dX10_comes_114 : decode cX10_comes 114 = .ok (.getfield 7, 3) := by decide +kernel
theorem dX10_comes_117 : decode cX10_comes 117 = .ok (.bipush 31, 2) := by decide +kernel
theorem dX10_comes_119 : decode cX10_comes 119 = .ok (.iaload, 1) := by decide +kernel
theorem dX10_comes_120 : decode cX10_comes 120 = .ok (.iastore, 1) := by decide +kernel
theorem dX10_comes_121 : decode cX10_comes 121 = .ok (.aload_n 0, 1) := by decide +kernel
theorem dX10_comes_122 : decode cX10_comes 122 = .ok (.getfield 7, 3) := by decide +kernel
theorem dX10_comes_125 : decode cX10_comes 125 = .ok (.iload 4, 2) := by decide +kernel
theorem dX10_comes_127 : decode cX10_comes 127 = .ok (.iconst 2, 1) := by decide +kernel
theorem dX10_comes_128 : decode cX10_comes 128 = .ok (.iadd, 1) := by decide +kernel
theorem dX10_comes_129 : decode cX10_comes 129 = .ok (.aload_n 0, 1) := by decide +kernel
theorem dX10_comes_130 : decode cX10_comes 130 = .ok (.getfield 7, 3) := by decide +kernel
theorem dX10_comes_133 : decode cX10_comes 133 = .ok (.bipush 34, 2) := by decide +kernel
theorem dX10_comes_135 : decode cX10_comes 135 = .ok (.iaload, 1) := by decide +kernel
theorem dX10_comes_136 : decode cX10_comes 136 = .ok (.iastore, 1) := by decide +kernel
theorem dX10_comes_137 : decode cX10_comes 137 = .ok (.aload_n 0, 1) := by decide +kernel
theorem dX10_comes_138 : decode cX10_comes 138 = .ok (.getfield 7, 3) := by decide +kernel
theorem dX10_comes_141 : decode cX10_comes 141 = .ok (.bipush 35, 2) := by decide +kernel
theorem dX10_comes_143 : decode cX10_comes 143 = .ok (.dup2, 1) := by decide +kernel
theorem dX10_comes_144 : decode cX10_comes 144 = .ok (.iaload, 1) := by decide +kernel
theorem dX10_comes_145 : decode cX10_comes 145 = .ok (.iconst 1, 1) := by decide +kernel
theorem dX10_comes_146 : decode cX10_comes 146 = .ok (.iadd, 1) := by decide +kernel
theorem dX10_comes_147 : decode cX10_comes 147 = .ok (.iastore, 1) := by decide +kernel
theorem dX10_comes_148 : decode cX10_comes 148 = .ok (.aload_n 0, 1) := by decide +kernel
theorem dX10_comes_149 : decode cX10_comes 149 = .ok (.getfield 7, 3) := by decide +kernel
theorem dX10_comes_152 : decode cX10_comes 152 = .ok (.bipush 30, 2) := by decide +kernel
theorem dX10_comes_154 : decode cX10_comes 154 = .ok (.iload_n 1, 1) := by decide +kernel
theorem dX10_comes_155 : decode cX10_comes 155 = .ok (.iastore, 1) := by decide +kernel
theorem dX10_comes_156 : decode cX10_comes 156 = .ok (.aload_n 0, 1) := by decide +kernel
theorem dX10_comes_157 : decode cX10_comes 157 = .ok (.getfield 7, 3) := by decide +kernel
theorem dX10_comes_160 : decode cX10_comes 160 = .ok (.bipush 31, 2) := by decide +kernel
theorem dX10_comes_162 : decode cX10_comes 162 = .ok (.iload_n 2, 1) := by decide +kernel
theorem dX10_comes_163 : decode cX10_comes 163 = .ok (.iastore, 1) := by decide +kernel
theorem dX10_comes_164 : decode cX10_comes 164 = .ok (.aload_n 0, 1) := by decide +kernel
theorem dX10_comes_165 : decode cX10_comes 165 = .ok (.getfield 7, 3) := by decide +kernel
theorem dX10_comes_168 : decode cX10_comes 168 = .ok (.bipush 34, 2) := by decide +kernel
theorem dX10_comes_170 : decode cX10_comes 170 = .ok (.iload_n 3, 1) := by decide +kernel
theorem dX10_comes_171 : decode cX10_comes 171 = .ok (.iastore, 1) := by decide +kernel
theorem dX10_comes_172 : decode cX10_comes 172 = .ok (.aload_n 0, 1) := by decide +kernel
theorem dX10_comes_173 : decode cX10_comes 173 = .ok (.getfield 7, 3) := by decide +kernel
theorem dX10_comes_176 : decode cX10_comes 176 = .ok (.bipush 33, 2) := by decide +kernel
theorem dX10_comes_178 : decode cX10_comes 178 = .ok (.iconst 0, 1) := by decide +kernel
theorem dX10_comes_179 : decode cX10_comes 179 = .ok (.iastore, 1) := by decide +kernel
theorem dX10_comes_180 : decode cX10_comes 180 = .ok (.return_, 1) := by decide +kernel
theorem dX10_forwards_0 : decode cX10_forwards 0 = .ok (.aload_n 0, 1) := by decide +kernel
theorem dX10_forwards_1 : decode cX10_forwards 1 = .ok (.getfield 7, 3) := by decide +kernel
theorem dX10_forwards_4 : decode cX10_forwards 4 = .ok (.bipush 31, 2) := by decide +kernel
theorem dX10_forwards_6 : decode cX10_forwards 6 = .ok (.iaload, 1) := by decide +kernel
theorem dX10_forwards_7 : decode cX10_forwards 7 = .ok (.aload_n 0, 1) := by decide +kernel
theorem dX10_forwards_8 : decode cX10_forwards 8 = .ok (.aload_n 0, 1) := by decide +kernel
theorem dX10_forwards_9 : decode cX10_forwards 9 = .ok (.getfield 7, 3) := by decide +kernel
theorem dX10_forwards_12 : decode cX10_forwards 12 = .ok (.bipush 30, 2) := by decide +kernel
theorem dX10_forwards_14 : decode cX10_forwards 14 = .ok (.iaload, 1) := by decide +kernel
theorem dX10_forwards_15 : decode cX10_forwards 15 = .ok (.invokevirtual 48, 3) := by decide +kernel
theorem dX10_forwards_18 : decode cX10_forwards 18 = .ok (.if_icmp .ge 33, 3) := by decide +kernel
theorem dX10_forwards_21 : decode cX10_forwards 21 = .ok (.aload_n 0, 1) := by decide +kernel
theorem dX10_forwards_22 : decode cX10_forwards 22 = .ok (.aload_n 0, 1) := by decide +kernel
theorem dX10_forwards_23 : decode cX10_forwards 23 = .ok (.getfield 7, 3) := by decide +kernel
theorem dX10_forwards_26 : decode cX10_forwards 26 = .ok (.bipush 30, 2) := by decide +kernel
theorem dX10_forwards_28 : decode cX10_forwards 28 = .ok (.iaload, 1) := by decide +kernel
theorem dX10_forwards_29 : decode cX10_forwards 29 = .ok (.aload_n 0, 1) := by decide +kernel
theorem dX10_forwards_30 : decode cX10_forwards 30 = .ok (.getfield 7, 3) := by decide +kernel
theorem dX10_forwards_33 : decode cX10_forwards 33 = .ok (.bipush 31, 2) := by decide +kernel
theorem dX10_forwards_35 : decode cX10_forwards 35 = .ok (.iaload, 1) := by decide +kernel
theorem dX10_forwards_36 : decode cX10_forwards 36 = .ok (.iconst 1, 1) := by decide +kernel
theorem dX10_forwards_37 : decode cX10_forwards 37 = .ok (.iadd, 1) := by decide +kernel
theorem dX10_forwards_38 : decode cX10_forwards 38 = .ok (.aload_n 0, 1) := by decide +kernel
theorem dX10_forwards_39 : decode cX10_forwards 39 = .ok (.getfield 7, 3) := by decide +kernel
theorem dX10_forwards_42 : decode cX10_forwards 42 = .ok (.bipush 34, 2) := by decide +kernel
theorem dX10_forwards_44 : decode cX10_forwards 44 = .ok (.iaload, 1) := by decide +kernel
theorem dX10_forwards_45 : decode cX10_forwards 45 = .ok (.invokevirtual 54, 3) := by decide +kernel
theorem dX10_forwards_48 : decode cX10_forwards 48 = .ok (.goto 20, 3) := by decide +kernel
theorem dX10_forwards_51 : decode cX10_forwards 51 = .ok (.aload_n 0, 1) := by decide +kernel
theorem dX10_forwards_52 : decode cX10_forwards 52 = .ok (.aload_n 0, 1) := by decide +kernel
theorem dX10_forwards_53 : decode cX10_forwards 53 = .ok (.aload_n 0, 1) := by decide +kernel
theorem dX10_forwards_54 : decode cX10_forwards 54 = .ok (.getfield 7, 3) := by decide +kernel
theorem dX10_forwards_57 : decode cX10_forwards 57 = .ok (.bipush 30, 2) := by decide +kernel
theorem dX10_forwards_59 : decode cX10_forwards 59 = .ok (.iaload, 1) := by decide +kernel
theorem dX10_forwards_60 : decode cX10_forwards 60 = .ok (.invokevirtual 51, 3) := by decide +kernel
theorem dX10_forwards_63 : decode cX10_forwards 63 = .ok (.iconst 0, 1) := by decide +kernel
theorem dX10_forwards_64 : decode cX10_forwards 64 = .ok (.iconst 0, 1) := by decide +kernel
theorem dX10_forwards_65 : decode cX10_forwards 65 = .ok (.invokevirtual 54, 3) := by decide +kernel
theorem dX10_forwards_68 : decode cX10_forwards 68 = .ok (.aload_n 0, 1) := by decide +kernel
theorem dX10_forwards_69 : decode cX10_forwards 69 = .ok (.getfield 7, 3) := by decide +kernel
theorem dX10_forwards_72 : decode cX10_forwards 72 = .ok (.bipush 31, 2) := by decide +kernel
theorem dX10_forwards_74 : decode cX10_forwards 74 = .ok (.iaload, 1) := by decide +kernel
theorem dX10_forwards_75 : decode cX10_forwards 75 = .ok (.ireturn, 1) := by decide +kernel
theorem dX10_backPlace_0 : decode cX10_backPlace 0 = .ok (.aload_n 0, 1) := by decide +kernel
theorem dX10_backPlace_1 : decode cX10_backPlace 1 = .ok (.getfield 7, 3) := by decide +kernel
theorem dX10_backPlace_4 : decode cX10_backPlace 4 = .ok (.bipush 35, 2) := by decide +kernel
theorem dX10_backPlace_6 : decode cX10_backPlace 6 = .ok (.iaload, 1) := by decide +kernel
theorem dX10_backPlace_7 : decode cX10_backPlace 7 = .ok (.iconst 1, 1) := by decide +kernel
theorem dX10_backPlace_8 : decode cX10_backPlace 8 = .ok (.isub, 1) := by decide +kernel
theorem dX10_backPlace_9 : decode cX10_backPlace 9 = .ok (.istore_n 1, 1) := by decide +kernel
theorem dX10_backPlace_10 : decode cX10_backPlace 10 = .ok (.iload_n 1, 1) := by decide +kernel
theorem dX10_backPlace_11 : decode cX10_backPlace 11 = .ok (.ifCond .lt 56, 3) := by decide +kernel
theorem dX10_backPlace_14 : decode cX10_backPlace 14 = .ok (.aload_n 0, 1) := by decide +kernel
theorem dX10_backPlace_15 : decode cX10_backPlace 15 = .ok (.getfield 7, 3) := by decide +kernel
theorem dX10_backPlace_18 : decode cX10_backPlace 18 = .ok (.bipush 36, 2) := by decide +kernel
theorem dX10_backPlace_20 : decode cX10_backPlace 20 = .ok (.iconst 3, 1) := by decide +kernel
theorem dX10_backPlace_21 : decode cX10_backPlace 21 = .ok (.iload_n 1, 1) := by decide +kernel
theorem dX10_backPlace_22 : decode cX10_backPlace 22 = .ok (.imul, 1) := by decide +kernel
theorem dX10_backPlace_23 : decode cX10_backPlace 23 = .ok (.iadd, 1) := by decide +kernel
theorem dX10_backPlace_24 : decode cX10_backPlace 24 = .ok (.iaload, 1) := by decide +kernel
theorem dX10_backPlace_25 : decode cX10_backPlace 25 = .ok (.istore_n 2, 1) := by decide +kernel
theorem dX10_backPlace_26 : decode cX10_backPlace 26 = .ok (.aload_n 0, 1) := by decide +kernel
theorem dX10_backPlace_27 : decode cX10_backPlace 27 = .ok (.iload_n 2, 1) := by decide +kernel
theorem dX10_backPlace_28 : decode cX10_backPlace 28 = .ok (.invokevirtual 30, 3) := by decide +kernel
theorem dX10_backPlace_31 : decode cX10_backPlace 31 = .ok (.ifCond .eq 30, 3) := by decide +kernel
theorem dX10_backPlace_34 : decode cX10_backPlace 34 = .ok (.aload_n 0, 1) := by decide +kernel
theorem dX10_backPlace_35 : decode cX10_backPlace 35 = .ok (.iload_n 2, 1) := by decide +kernel
theorem dX10_backPlace_36 : decode cX10_backPlace 36 = .ok (.invokevirtual 34, 3) := by decide +kernel
theorem dX10_backPlace_39 : decode cX10_backPlace 39 = .ok (.ifCond .ne 20, 3) := by decide +kernel
theorem dX10_backPlace_42 : decode cX10_backPlace 42 = .ok (.aload_n 0, 1) := by decide +kernel
theorem dX10_backPlace_43 : decode cX10_backPlace 43 = .ok (.getfield 7, 3) := by decide +kernel
theorem dX10_backPlace_46 : decode cX10_backPlace 46 = .ok (.bipush 36, 2) := by decide +kernel
theorem dX10_backPlace_48 : decode cX10_backPlace 48 = .ok (.iconst 3, 1) := by decide +kernel
theorem dX10_backPlace_49 : decode cX10_backPlace 49 = .ok (.iload_n 1, 1) := by decide +kernel
theorem dX10_backPlace_50 : decode cX10_backPlace 50 = .ok (.imul, 1) := by decide +kernel
theorem dX10_backPlace_51 : decode cX10_backPlace 51 = .ok (.iadd, 1) := by decide +kernel
theorem dX10_backPlace_52 : decode cX10_backPlace 52 = .ok (.iconst 2, 1) := by decide +kernel
theorem dX10_backPlace_53 : decode cX10_backPlace 53 = .ok (.iadd, 1) := by decide +kernel
theorem dX10_backPlace_54 : decode cX10_backPlace 54 = .ok (.iaload, 1) := by decide +kernel
theorem dX10_backPlace_55 : decode cX10_backPlace 55 = .ok (.iconst 1, 1) := by decide +kernel
theorem dX10_backPlace_56 : decode cX10_backPlace 56 = .ok (.if_icmp .ne 5, 3) := by decide +kernel
theorem dX10_backPlace_59 : decode cX10_backPlace 59 = .ok (.iload_n 1, 1) := by decide +kernel
theorem dX10_backPlace_60 : decode cX10_backPlace 60 = .ok (.ireturn, 1) := by decide +kernel
theorem dX10_backPlace_61 : decode cX10_backPlace 61 = .ok (.iinc 1 (-1), 3) := by decide +kernel
theorem dX10_backPlace_64 : decode cX10_backPlace 64 = .ok (.goto (-54), 3) := by decide +kernel
theorem dX10_backPlace_67 : decode cX10_backPlace 67 = .ok (.bipush (-6), 2) := by decide +kernel
theorem dX10_backPlace_69 : decode cX10_backPlace 69 = .ok (.ireturn, 1) := by decide +kernel
theorem dX10_backs_0 : decode cX10_backs 0 = .ok (.aload_n 0, 1) := by decide +kernel
theorem dX10_backs_1 : decode cX10_backs 1 = .ok (.invokevirtual 58, 3) := by decide +kernel
theorem dX10_backs_4 : decode cX10_backs 4 = .ok (.istore_n 1, 1) := by decide +kernel
theorem dX10_backs_5 : decode cX10_backs 5 = .ok (.bipush 36, 2) := by decide +kernel
theorem dX10_backs_7 : decode cX10_backs 7 = .ok (.iconst 3, 1) := by decide +kernel
theorem dX10_backs_8 : decode cX10_backs 8 = .ok (.iload_n 1, 1) := by decide +kernel
theorem dX10_backs_9 : decode cX10_backs 9 = .ok (.imul, 1) := by decide +kernel
theorem dX10_backs_10 : decode cX10_backs 10 = .ok (.iadd, 1) := by decide +kernel
theorem dX10_backs_11 : decode cX10_backs 11 = .ok (.istore_n 2, 1) := by decide +kernel
theorem dX10_backs_12 : decode cX10_backs 12 = .ok (.aload_n 0, 1) := by decide +kernel
theorem dX10_backs_13 : decode cX10_backs 13 = .ok (.getfield 7, 3) := by decide +kernel
theorem dX10_backs_16 : decode cX10_backs 16 = .ok (.bipush 35, 2) := by decide +kernel
theorem dX10_backs_18 : decode cX10_backs 18 = .ok (.iload_n 1, 1) := by decide +kernel
theorem dX10_backs_19 : decode cX10_backs 19 = .ok (.iastore, 1) := by decide +kernel
theorem dX10_backs_20 : decode cX10_backs 20 = .ok (.aload_n 0, 1) := by decide +kernel
theorem dX10_backs_21 : decode cX10_backs 21 = .ok (.getfield 7, 3) := by decide +kernel
theorem dX10_backs_24 : decode cX10_backs 24 = .ok (.bipush 30, 2) := by decide +kernel
theorem dX10_backs_26 : decode cX10_backs 26 = .ok (.aload_n 0, 1) := by decide +kernel
theorem dX10_backs_27 : decode cX10_backs 27 = .ok (.getfield 7, 3) := by decide +kernel
theorem dX10_backs_30 : decode cX10_backs 30 = .ok (.iload_n 2, 1) := by decide +kernel
theorem dX10_backs_31 : decode cX10_backs 31 = .ok (.iaload, 1) := by decide +kernel
theorem dX10_backs_32 : decode cX10_backs 32 = .ok (.iastore, 1) := by decide +kernel
theorem dX10_backs_33 : decode cX10_backs 33 = .ok (.aload_n 0, 1) := by decide +kernel
theorem dX10_backs_34 : decode cX10_backs 34 = .ok (.getfield 7, 3) := by decide +kernel
theorem dX10_backs_37 : decode cX10_backs 37 = .ok (.bipush 31, 2) := by decide +kernel
theorem dX10_backs_39 : decode cX10_backs 39 = .ok (.aload_n 0, 1) := by decide +kernel
theorem dX10_backs_40 : decode cX10_backs 40 = .ok (.getfield 7, 3) := by decide +kernel
theorem dX10_backs_43 : decode cX10_backs 43 = .ok (.iload_n 2, 1) := by decide +kernel
theorem dX10_backs_44 : decode cX10_backs 44 = .ok (.iconst 1, 1) := by decide +kernel
theorem dX10_backs_45 : decode cX10_backs 45 = .ok (.iadd, 1) := by decide +kernel
theorem dX10_backs_46 : decode cX10_backs 46 = .ok (.iaload, 1) := by decide +kernel
theorem dX10_backs_47 : decode cX10_backs 47 = .ok (.aload_n 0, 1) := by decide +kernel
theorem dX10_backs_48 : decode cX10_backs 48 = .ok (.aload_n 0, 1) := by decide +kernel
theorem dX10_backs_49 : decode cX10_backs 49 = .ok (.getfield 7, 3) := by decide +kernel
theorem dX10_backs_52 : decode cX10_backs 52 = .ok (.iload_n 2, 1) := by decide +kernel
theorem dX10_backs_53 : decode cX10_backs 53 = .ok (.iaload, 1) := by decide +kernel
theorem dX10_backs_54 : decode cX10_backs 54 = .ok (.invokevirtual 48, 3) := by decide +kernel
theorem dX10_backs_57 : decode cX10_backs 57 = .ok (.if_icmp .ge 14, 3) := by decide +kernel
theorem dX10_backs_60 : decode cX10_backs 60 = .ok (.aload_n 0, 1) := by decide +kernel
theorem dX10_backs_61 : decode cX10_backs 61 = .ok (.getfield 7, 3) := by decide +kernel
theorem dX10_backs_64 : decode cX10_backs 64 = .ok (.iload_n 2, 1) := by decide +kernel
theorem dX10_backs_65 : decode cX10_backs 65 = .ok (.iconst 1, 1) := by decide +kernel
theorem dX10_backs_66 : decode cX10_backs 66 = .ok (.iadd, 1) := by decide +kernel
theorem dX10_backs_67 : decode cX10_backs 67 = .ok (.iaload, 1) := by decide +kernel
theorem dX10_backs_68 : decode cX10_backs 68 = .ok (.goto 13, 3) := by decide +kernel
theorem dX10_backs_71 : decode cX10_backs 71 = .ok (.aload_n 0, 1) := by decide +kernel
theorem dX10_backs_72 : decode cX10_backs 72 = .ok (.aload_n 0, 1) := by decide +kernel
theorem dX10_backs_73 : decode cX10_backs 73 = .ok (.getfield 7, 3) := by decide +kernel
theorem dX10_backs_76 : decode cX10_backs 76 = .ok (.iload_n 2, 1) := by decide +kernel
theorem dX10_backs_77 : decode cX10_backs 77 = .ok (.iaload, 1) := by decide +kernel
theorem dX10_backs_78 : decode cX10_backs 78 = .ok (.invokevirtual 48, 3) := by decide +kernel
theorem dX10_backs_81 : decode cX10_backs 81 = .ok (.iastore, 1) := by decide +kernel
theorem dX10_backs_82 : decode cX10_backs 82 = .ok (.aload_n 0, 1) := by decide +kernel
theorem dX10_backs_83 : decode cX10_backs 83 = .ok (.getfield 7, 3) := by decide +kernel
theorem dX10_backs_86 : decode cX10_backs 86 = .ok (.bipush 34, 2) := by decide +kernel
theorem dX10_backs_88 : decode cX10_backs 88 = .ok (.aload_n 0, 1) := by decide +kernel
theorem dX10_backs_89 : decode cX10_backs 89 = .ok (.getfield 7, 3) := by decide +kernel
theorem dX10_backs_92 : decode cX10_backs 92 = .ok (.iload_n 2, 1) := by decide +kernel
theorem dX10_backs_93 : decode cX10_backs 93 = .ok (.iconst 2, 1) := by decide +kernel
theorem dX10_backs_94 : decode cX10_backs 94 = .ok (.iadd, 1) := by decide +kernel
theorem dX10_backs_95 : decode cX10_backs 95 = .ok (.iaload, 1) := by decide +kernel
theorem dX10_backs_96 : decode cX10_backs 96 = .ok (.iastore, 1) := by decide +kernel
theorem dX10_backs_97 : decode cX10_backs 97 = .ok (.aload_n 0, 1) := by decide +kernel
theorem dX10_backs_98 : decode cX10_backs 98 = .ok (.getfield 7, 3) := by decide +kernel
theorem dX10_backs_101 : decode cX10_backs 101 = .ok (.bipush 33, 2) := by decide +kernel
theorem dX10_backs_103 : decode cX10_backs 103 = .ok (.iconst 0, 1) := by decide +kernel
theorem dX10_backs_104 : decode cX10_backs 104 = .ok (.iastore, 1) := by decide +kernel
theorem dX10_backs_105 : decode cX10_backs 105 = .ok (.aload_n 0, 1) := by decide +kernel
theorem dX10_backs_106 : decode cX10_backs 106 = .ok (.getfield 7, 3) := by decide +kernel
theorem dX10_backs_109 : decode cX10_backs 109 = .ok (.bipush 31, 2) := by decide +kernel
theorem dX10_backs_111 : decode cX10_backs 111 = .ok (.iaload, 1) := by decide +kernel
theorem dX10_backs_112 : decode cX10_backs 112 = .ok (.ireturn, 1) := by decide +kernel
theorem dX10_canPress_0 : decode cX10_canPress 0 = .ok (.aload_n 0, 1) := by decide +kernel
theorem dX10_canPress_1 : decode cX10_canPress 1 = .ok (.aload_n 0, 1) := by decide +kernel
theorem dX10_canPress_2 : decode cX10_canPress 2 = .ok (.getfield 7, 3) := by decide +kernel
theorem dX10_canPress_5 : decode cX10_canPress 5 = .ok (.bipush 30, 2) := by decide +kernel
theorem dX10_canPress_7 : decode cX10_canPress 7 = .ok (.iaload, 1) := by decide +kernel
theorem dX10_canPress_8 : decode cX10_canPress 8 = .ok (.bipush 22, 2) := by decide +kernel
theorem dX10_canPress_10 : decode cX10_canPress 10 = .ok (.iload_n 1, 1) := by decide +kernel
theorem dX10_canPress_11 : decode cX10_canPress 11 = .ok (.iadd, 1) := by decide +kernel
theorem dX10_canPress_12 : decode cX10_canPress 12 = .ok (.invokevirtual 26, 3) := by decide +kernel
theorem dX10_canPress_15 : decode cX10_canPress 15 = .ok (.bipush (-6), 2) := by decide +kernel
theorem dX10_canPress_17 : decode cX10_canPress 17 = .ok (.if_icmp .eq 7, 3) := by decide +kernel
theorem dX10_canPress_20 : decode cX10_canPress 20 = .ok (.iconst 1, 1) := by decide +kernel
theorem dX10_canPress_21 : decode cX10_canPress 21 = .ok (.goto 4, 3) := by decide +kernel
theorem dX10_canPress_24 : decode cX10_canPress 24 = .ok (.iconst 0, 1) := by decide +kernel
theorem dX10_canPress_25 : decode cX10_canPress 25 = .ok (.ireturn, 1) := by decide +kernel
theorem dX10_presses_0 : decode cX10_presses 0 = .ok (.aload_n 0, 1) := by decide +kernel
theorem dX10_presses_1 : decode cX10_presses 1 = .ok (.aload_n 0, 1) := by decide +kernel
theorem dX10_presses_2 : decode cX10_presses 2 = .ok (.aload_n 0, 1) := by decide +kernel
theorem dX10_presses_3 : decode cX10_presses 3 = .ok (.getfield 7, 3) := by decide +kernel
theorem dX10_presses_6 : decode cX10_presses 6 = .ok (.bipush 30, 2) := by decide +kernel
theorem dX10_presses_8 : decode cX10_presses 8 = .ok (.iaload, 1) := by decide +kernel
theorem dX10_presses_9 : decode cX10_presses 9 = .ok (.bipush 22, 2) := by decide +kernel
theorem dX10_presses_11 : decode cX10_presses 11 = .ok (.iload_n 1, 1) := by decide +kernel
theorem dX10_presses_12 : decode cX10_presses 12 = .ok (.iadd, 1) := by decide +kernel
theorem dX10_presses_13 : decode cX10_presses 13 = .ok (.invokevirtual 26, 3) := by decide +kernel
theorem dX10_presses_16 : decode cX10_presses 16 = .ok (.iconst 0, 1) := by decide +kernel
theorem dX10_presses_17 : decode cX10_presses 17 = .ok (.iconst 1, 1) := by decide +kernel
theorem dX10_presses_18 : decode cX10_presses 18 = .ok (.invokevirtual 54, 3) := by decide +kernel
theorem dX10_presses_21 : decode cX10_presses 21 = .ok (.aload_n 0, 1) := by decide +kernel
theorem dX10_presses_22 : decode cX10_presses 22 = .ok (.getfield 7, 3) := by decide +kernel
theorem dX10_presses_25 : decode cX10_presses 25 = .ok (.bipush 30, 2) := by decide +kernel
theorem dX10_presses_27 : decode cX10_presses 27 = .ok (.iaload, 1) := by decide +kernel
theorem dX10_presses_28 : decode cX10_presses 28 = .ok (.ireturn, 1) := by decide +kernel
theorem dX10_ticks_0 : decode cX10_ticks 0 = .ok (.iconst 0, 1) := by decide +kernel
theorem dX10_ticks_1 : decode cX10_ticks 1 = .ok (.istore_n 2, 1) := by decide +kernel
theorem dX10_ticks_2 : decode cX10_ticks 2 = .ok (.iconst 0, 1) := by decide +kernel
theorem dX10_ticks_3 : decode cX10_ticks 3 = .ok (.istore_n 3, 1) := by decide +kernel
theorem dX10_ticks_4 : decode cX10_ticks 4 = .ok (.iload_n 3, 1) := by decide +kernel
theorem dX10_ticks_5 : decode cX10_ticks 5 = .ok (.iload_n 1, 1) := by decide +kernel
theorem dX10_ticks_6 : decode cX10_ticks 6 = .ok (.if_icmp .ge 91, 3) := by decide +kernel
theorem dX10_ticks_9 : decode cX10_ticks 9 = .ok (.aload_n 0, 1) := by decide +kernel
theorem dX10_ticks_10 : decode cX10_ticks 10 = .ok (.invokevirtual 44, 3) := by decide +kernel
theorem dX10_ticks_13 : decode cX10_ticks 13 = .ok (.ifCond .ne 84, 3) := by decide +kernel
theorem dX10_ticks_16 : decode cX10_ticks 16 = .ok (.aload_n 0, 1) := by decide +kernel
theorem dX10_ticks_17 : decode cX10_ticks 17 = .ok (.getfield 7, 3) := by decide +kernel
theorem dX10_ticks_20 : decode cX10_ticks 20 = .ok (.bipush 32, 2) := by decide +kernel
theorem dX10_ticks_22 : decode cX10_ticks 22 = .ok (.dup2, 1) := by decide +kernel
theorem dX10_ticks_23 : decode cX10_ticks 23 = .ok (.iaload, 1) := by decide +kernel
theorem dX10_ticks_24 : decode cX10_ticks 24 = .ok (.iconst 1, 1) := by decide +kernel
theorem dX10_ticks_25 : decode cX10_ticks 25 = .ok (.iadd, 1) := by decide +kernel
theorem dX10_ticks_26 : decode cX10_ticks 26 = .ok (.iastore, 1) := by decide +kernel
theorem dX10_ticks_27 : decode cX10_ticks 27 = .ok (.aload_n 0, 1) := by decide +kernel
theorem dX10_ticks_28 : decode cX10_ticks 28 = .ok (.getfield 7, 3) := by decide +kernel
theorem dX10_ticks_31 : decode cX10_ticks 31 = .ok (.bipush 33, 2) := by decide +kernel
theorem dX10_ticks_33 : decode cX10_ticks 33 = .ok (.dup2, 1) := by decide +kernel
theorem dX10_ticks_34 : decode cX10_ticks 34 = .ok (.iaload, 1) := by decide +kernel
theorem dX10_ticks_35 : decode cX10_ticks 35 = .ok (.iconst 1, 1) := by decide +kernel
theorem dX10_ticks_36 : decode cX10_ticks 36 = .ok (.iadd, 1) := by decide +kernel
theorem dX10_ticks_37 : decode cX10_ticks 37 = .ok (.iastore, 1) := by decide +kernel
theorem dX10_ticks_38 : decode cX10_ticks 38 = .ok (.aload_n 0, 1) := by decide +kernel
theorem dX10_ticks_39 : decode cX10_ticks 39 = .ok (.aload_n 0, 1) := by decide +kernel
theorem dX10_ticks_40 : decode cX10_ticks 40 = .ok (.getfield 7, 3) := by decide +kernel
theorem dX10_ticks_43 : decode cX10_ticks 43 = .ok (.bipush 30, 2) := by decide +kernel
theorem dX10_ticks_45 : decode cX10_ticks 45 = .ok (.iaload, 1) := by decide +kernel
theorem dX10_ticks_46 : decode cX10_ticks 46 = .ok (.iconst 2, 1) := by decide +kernel
theorem dX10_ticks_47 : decode cX10_ticks 47 = .ok (.invokevirtual 26, 3) := by decide +kernel
theorem dX10_ticks_50 : decode cX10_ticks 50 = .ok (.istore 4, 2) := by decide +kernel
theorem dX10_ticks_52 : decode cX10_ticks 52 = .ok (.aload_n 0, 1) := by decide +kernel
theorem dX10_ticks_53 : decode cX10_ticks 53 = .ok (.invokevirtual 44, 3) := by decide +kernel
theorem dX10_ticks_56 : decode cX10_ticks 56 = .ok (.ifCond .ne 35, 3) := by decide +kernel
theorem dX10_ticks_59 : decode cX10_ticks 59 = .ok (.iload 4, 2) := by decide +kernel
theorem dX10_ticks_61 : decode cX10_ticks 61 = .ok (.ifCond .le 30, 3) := by decide +kernel
theorem dX10_ticks_64 : decode cX10_ticks 64 = .ok (.aload_n 0, 1) := by decide +kernel
theorem dX10_ticks_65 : decode cX10_ticks 65 = .ok (.getfield 7, 3) := by decide +kernel
theorem dX10_ticks_68 : decode cX10_ticks 68 = .ok (.bipush 33, 2) := by decide +kernel
theorem dX10_ticks_70 : decode cX10_ticks 70 = .ok (.iaload, 1) := by decide +kernel
theorem dX10_ticks_71 : decode cX10_ticks 71 = .ok (.iload 4, 2) := by decide +kernel
theorem dX10_ticks_73 : decode cX10_ticks 73 = .ok (.if_icmp .lt 18, 3) := by decide +kernel
theorem dX10_ticks_76 : decode cX10_ticks 76 = .ok (.aload_n 0, 1) := by decide +kernel
theorem dX10_ticks_77 : decode cX10_ticks 77 = .ok (.invokevirtual 62, 3) := by decide +kernel
theorem dX10_ticks_80 : decode cX10_ticks 80 = .ok (.ifCond .eq 11, 3) := by decide +kernel
theorem dX10_ticks_83 : decode cX10_ticks 83 = .ok (.aload_n 0, 1) := by decide +kernel
theorem dX10_ticks_84 : decode cX10_ticks 84 = .ok (.invokevirtual 65, 3) := by decide +kernel
theorem dX10_ticks_87 : decode cX10_ticks 87 = .ok (.pop, 1) := by decide +kernel
theorem dX10_ticks_88 : decode cX10_ticks 88 = .ok (.iinc 2 1, 3) := by decide +kernel
theorem dX10_ticks_91 : decode cX10_ticks 91 = .ok (.iinc 3 1, 3) := by decide +kernel
theorem dX10_ticks_94 : decode cX10_ticks 94 = .ok (.goto (-90), 3) := by decide +kernel
theorem dX10_ticks_97 : decode cX10_ticks 97 = .ok (.iload_n 2, 1) := by decide +kernel
theorem dX10_ticks_98 : decode cX10_ticks 98 = .ok (.ireturn, 1) := by decide +kernel
theorem dX10_copies_0 : decode cX10_copies 0 = .ok (.iconst 0, 1) := by decide +kernel
theorem dX10_copies_1 : decode cX10_copies 1 = .ok (.istore_n 3, 1) := by decide +kernel
theorem dX10_copies_2 : decode cX10_copies 2 = .ok (.iload_n 3, 1) := by decide +kernel
theorem dX10_copies_3 : decode cX10_copies 3 = .ok (.sipush 476, 3) := by decide +kernel
theorem dX10_copies_6 : decode cX10_copies 6 = .ok (.if_icmp .ge 33, 3) := by decide +kernel
theorem dX10_copies_9 : decode cX10_copies 9 = .ok (.aload_n 0, 1) := by decide +kernel
theorem dX10_copies_10 : decode cX10_copies 10 = .ok (.getfield 7, 3) := by decide +kernel
theorem dX10_copies_13 : decode cX10_copies 13 = .ok (.sipush 476, 3) := by decide +kernel
theorem dX10_copies_16 : decode cX10_copies 16 = .ok (.iload_n 2, 1) := by decide +kernel
theorem dX10_copies_17 : decode cX10_copies 17 = .ok (.imul, 1) := by decide +kernel
theorem dX10_copies_18 : decode cX10_copies 18 = .ok (.iload_n 3, 1) := by decide +kernel
theorem dX10_copies_19 : decode cX10_copies 19 = .ok (.iadd, 1) := by decide +kernel
theorem dX10_copies_20 : decode cX10_copies 20 = .ok (.aload_n 0, 1) := by decide +kernel
theorem dX10_copies_21 : decode cX10_copies 21 = .ok (.getfield 7, 3) := by decide +kernel
theorem dX10_copies_24 : decode cX10_copies 24 = .ok (.sipush 476, 3) := by decide +kernel
theorem dX10_copies_27 : decode cX10_copies 27 = .ok (.iload_n 1, 1) := by decide +kernel
theorem dX10_copies_28 : decode cX10_copies 28 = .ok (.imul, 1) := by decide +kernel
theorem dX10_copies_29 : decode cX10_copies 29 = .ok (.iload_n 3, 1) := by decide +kernel
theorem dX10_copies_30 : decode cX10_copies 30 = .ok (.iadd, 1) := by decide +kernel
theorem dX10_copies_31 : decode cX10_copies 31 = .ok (.iaload, 1) := by decide +kernel
theorem dX10_copies_32 : decode cX10_copies 32 = .ok (.iastore, 1) := by decide +kernel
theorem dX10_copies_33 : decode cX10_copies 33 = .ok (.iinc 3 1, 3) := by decide +kernel
theorem dX10_copies_36 : decode cX10_copies 36 = .ok (.goto (-34), 3) := by decide +kernel
theorem dX10_copies_39 : decode cX10_copies 39 = .ok (.return_, 1) := by decide +kernel
theorem dX10_save_0 : decode cX10_save 0 = .ok (.iconst 1, 1) := by decide +kernel
theorem dX10_save_1 : decode cX10_save 1 = .ok (.istore_n 1, 1) := by decide +kernel
theorem dX10_save_2 : decode cX10_save 2 = .ok (.iload_n 1, 1) := by decide +kernel
theorem dX10_save_3 : decode cX10_save 3 = .ok (.iconst 4, 1) := by decide +kernel
theorem dX10_save_4 : decode cX10_save 4 = .ok (.if_icmp .ge 25, 3) := by decide +kernel
theorem dX10_save_7 : decode cX10_save 7 = .ok (.aload_n 0, 1) := by decide +kernel
theorem dX10_save_8 : decode cX10_save 8 = .ok (.getfield 68, 3) := by decide +kernel
theorem dX10_save_11 : decode cX10_save 11 = .ok (.iconst 4, 1) := by decide +kernel
theorem dX10_save_12 : decode cX10_save 12 = .ok (.if_icmp .ne 17, 3) := by decide +kernel
theorem dX10_save_15 : decode cX10_save 15 = .ok (.aload_n 0, 1) := by decide +kernel
theorem dX10_save_16 : decode cX10_save 16 = .ok (.iload_n 1, 1) := by decide +kernel
theorem dX10_save_17 : decode cX10_save 17 = .ok (.iconst 1, 1) := by decide +kernel
theorem dX10_save_18 : decode cX10_save 18 = .ok (.iadd, 1) := by decide +kernel
theorem dX10_save_19 : decode cX10_save 19 = .ok (.iload_n 1, 1) := by decide +kernel
theorem dX10_save_20 : decode cX10_save 20 = .ok (.invokevirtual 72, 3) := by decide +kernel
theorem dX10_save_23 : decode cX10_save 23 = .ok (.iinc 1 1, 3) := by decide +kernel
theorem dX10_save_26 : decode cX10_save 26 = .ok (.goto (-24), 3) := by decide +kernel
theorem dX10_save_29 : decode cX10_save 29 = .ok (.aload_n 0, 1) := by decide +kernel
theorem dX10_save_30 : decode cX10_save 30 = .ok (.dup, 1) := by decide +kernel
theorem dX10_save_31 : decode cX10_save 31 = .ok (.getfield 68, 3) := by decide +kernel
theorem dX10_save_34 : decode cX10_save 34 = .ok (.aload_n 0, 1) := by decide +kernel
theorem dX10_save_35 : decode cX10_save 35 = .ok (.getfield 68, 3) := by decide +kernel
theorem dX10_save_38 : decode cX10_save 38 = .ok (.iconst 4, 1) := by decide +kernel
theorem dX10_save_39 : decode cX10_save 39 = .ok (.if_icmp .ge 7, 3) := by decide +kernel
theorem dX10_save_42 : decode cX10_save 42 = .ok (.iconst 1, 1) := by decide +kernel
theorem dX10_save_43 : decode cX10_save 43 = .ok (.goto 4, 3) := by decide +kernel
theorem dX10_save_46 : decode cX10_save 46 = .ok (.iconst 0, 1) := by decide +kernel
theorem dX10_save_47 : decode cX10_save 47 = .ok (.iadd, 1) := by decide +kernel
theorem dX10_save_48 : decode cX10_save 48 = .ok (.putfield 68, 3) := by decide +kernel
theorem dX10_save_51 : decode cX10_save 51 = .ok (.aload_n 0, 1) := by decide +kernel
theorem dX10_save_52 : decode cX10_save 52 = .ok (.iconst 0, 1) := by decide +kernel
theorem dX10_save_53 : decode cX10_save 53 = .ok (.aload_n 0, 1) := by decide +kernel
theorem dX10_save_54 : decode cX10_save 54 = .ok (.getfield 68, 3) := by decide +kernel
theorem dX10_save_57 : decode cX10_save 57 = .ok (.invokevirtual 72, 3) := by decide +kernel
theorem dX10_save_60 : decode cX10_save 60 = .ok (.return_, 1) := by decide +kernel
theorem dX10_addSlide_0 : decode cX10_addSlide 0 = .ok (.aload_n 0, 1) := by decide +kernel
theorem dX10_addSlide_1 : decode cX10_addSlide 1 = .ok (.getfield 7, 3) := by decide +kernel
theorem dX10_addSlide_4 : decode cX10_addSlide 4 = .ok (.iconst 0, 1) := by decide +kernel
theorem dX10_addSlide_5 : decode cX10_addSlide 5 = .ok (.iaload, 1) := by decide +kernel
theorem dX10_addSlide_6 : decode cX10_addSlide 6 = .ok (.bipush 10, 2) := by decide +kernel
theorem dX10_addSlide_8 : decode cX10_addSlide 8 = .ok (.if_icmp .ne 6, 3) := by decide +kernel
theorem dX10_addSlide_11 : decode cX10_addSlide 11 = .ok (.bipush (-4), 2) := by decide +kernel
theorem dX10_addSlide_13 : decode cX10_addSlide 13 = .ok (.ireturn, 1) := by decide +kernel
theorem dX10_addSlide_14 : decode cX10_addSlide 14 = .ok (.aload_n 0, 1) := by decide +kernel
theorem dX10_addSlide_15 : decode cX10_addSlide 15 = .ok (.invokevirtual 76, 3) := by decide +kernel
theorem dX10_addSlide_18 : decode cX10_addSlide 18 = .ok (.iconst 0, 1) := by decide +kernel
theorem dX10_addSlide_19 : decode cX10_addSlide 19 = .ok (.istore_n 1, 1) := by decide +kernel
theorem dX10_addSlide_20 : decode cX10_addSlide 20 = .ok (.aload_n 0, 1) := by decide +kernel
theorem dX10_addSlide_21 : decode cX10_addSlide 21 = .ok (.iload_n 1, 1) := by decide +kernel
theorem dX10_addSlide_22 : decode cX10_addSlide 22 = .ok (.iconst 0, 1) := by decide +kernel
theorem dX10_addSlide_23 : decode cX10_addSlide 23 = .ok (.invokevirtual 26, 3) := by decide +kernel
theorem dX10_addSlide_26 : decode cX10_addSlide 26 = .ok (.iconst 1, 1) := by decide +kernel
theorem dX10_addSlide_27 : decode cX10_addSlide 27 = .ok (.if_icmp .ne 9, 3) := by decide +kernel
theorem dX10_addSlide_30 : decode cX10_addSlide 30 = .ok (.iinc 1 1, 3) := by decide +kernel
theorem dX10_addSlide_33 : decode cX10_addSlide 33 = .ok (.goto (-13), 3) := by decide +kernel
theorem dX10_addSlide_36 : decode cX10_addSlide 36 = .ok (.iconst 0, 1) := by decide +kernel
theorem dX10_addSlide_37 : decode cX10_addSlide 37 = .ok (.istore_n 2, 1) := by decide +kernel
theorem dX10_addSlide_38 : decode cX10_addSlide 38 = .ok (.iload_n 2, 1) := by decide +kernel
theorem dX10_addSlide_39 : decode cX10_addSlide 39 = .ok (.bipush 32, 2) := by decide +kernel
theorem dX10_addSlide_41 : decode cX10_addSlide 41 = .ok (.if_icmp .ge 27, 3) := by decide +kernel
theorem dX10_addSlide_44 : decode cX10_addSlide 44 = .ok (.aload_n 0, 1) := by decide +kernel
theorem dX10_addSlide_45 : decode cX10_addSlide 45 = .ok (.iload_n 1, 1) := by decide +kernel
theorem dX10_addSlide_46 : decode cX10_addSlide 46 = .ok (.iload_n 2, 1) := by decide +kernel
theorem dX10_addSlide_47 : decode cX10_addSlide 47 = .ok (.iload_n 2, 1) := by decide +kernel
theorem dX10_addSlide_48 : decode cX10_addSlide 48 = .ok (.bipush 22, 2) := by decide +kernel
theorem dX10_addSlide_50 : decode cX10_addSlide 50 = .ok (.if_icmp .lt 8, 3) := by decide +kernel
theorem dX10_addSlide_53 : decode cX10_addSlide 53 = .ok (.bipush (-6), 2) := by decide +kernel
theorem dX10_addSlide_55 : decode cX10_addSlide 55 = .ok (.goto 4, 3) := by decide +kernel
theorem dX10_addSlide_58 : decode cX10_addSlide 58 = .ok (.iconst 0, 1) := by decide +kernel
theorem dX10_addSlide_59 : decode cX10_addSlide 59 = .ok (.invokevirtual 79, 3) := by decide +kernel
theorem dX10_addSlide_62 : decode cX10_addSlide 62 = .ok (.iinc 2 1, 3) := by decide +kernel
theorem dX10_addSlide_65 : decode cX10_addSlide 65 = .ok (.goto (-27), 3) := by decide +kernel
theorem dX10_addSlide_68 : decode cX10_addSlide 68 = .ok (.aload_n 0, 1) := by decide +kernel
theorem dX10_addSlide_69 : decode cX10_addSlide 69 = .ok (.iload_n 1, 1) := by decide +kernel
theorem dX10_addSlide_70 : decode cX10_addSlide 70 = .ok (.iconst 0, 1) := by decide +kernel
theorem dX10_addSlide_71 : decode cX10_addSlide 71 = .ok (.iconst 1, 1) := by decide +kernel
theorem dX10_addSlide_72 : decode cX10_addSlide 72 = .ok (.invokevirtual 79, 3) := by decide +kernel
theorem dX10_addSlide_75 : decode cX10_addSlide 75 = .ok (.aload_n 0, 1) := by decide +kernel
theorem dX10_addSlide_76 : decode cX10_addSlide 76 = .ok (.getfield 7, 3) := by decide +kernel
theorem dX10_addSlide_79 : decode cX10_addSlide 79 = .ok (.iconst 1, 1) := by decide +kernel
theorem dX10_addSlide_80 : decode cX10_addSlide 80 = .ok (.aload_n 0, 1) := by decide +kernel
theorem dX10_addSlide_81 : decode cX10_addSlide 81 = .ok (.getfield 7, 3) := by decide +kernel
theorem dX10_addSlide_84 : decode cX10_addSlide 84 = .ok (.iconst 0, 1) := by decide +kernel
theorem dX10_addSlide_85 : decode cX10_addSlide 85 = .ok (.iaload, 1) := by decide +kernel
theorem dX10_addSlide_86 : decode cX10_addSlide 86 = .ok (.iadd, 1) := by decide +kernel
theorem dX10_addSlide_87 : decode cX10_addSlide 87 = .ok (.iload_n 1, 1) := by decide +kernel
theorem dX10_addSlide_88 : decode cX10_addSlide 88 = .ok (.iastore, 1) := by decide +kernel
theorem dX10_addSlide_89 : decode cX10_addSlide 89 = .ok (.aload_n 0, 1) := by decide +kernel
theorem dX10_addSlide_90 : decode cX10_addSlide 90 = .ok (.getfield 7, 3) := by decide +kernel
theorem dX10_addSlide_93 : decode cX10_addSlide 93 = .ok (.iconst 0, 1) := by decide +kernel
theorem dX10_addSlide_94 : decode cX10_addSlide 94 = .ok (.dup2, 1) := by decide +kernel
theorem dX10_addSlide_95 : decode cX10_addSlide 95 = .ok (.iaload, 1) := by decide +kernel
theorem dX10_addSlide_96 : decode cX10_addSlide 96 = .ok (.iconst 1, 1) := by decide +kernel
theorem dX10_addSlide_97 : decode cX10_addSlide 97 = .ok (.iadd, 1) := by decide +kernel
theorem dX10_addSlide_98 : decode cX10_addSlide 98 = .ok (.iastore, 1) := by decide +kernel
theorem dX10_addSlide_99 : decode cX10_addSlide 99 = .ok (.iload_n 1, 1) := by decide +kernel
theorem dX10_addSlide_100 : decode cX10_addSlide 100 = .ok (.ireturn, 1) := by decide +kernel
theorem dX10_takesOut_0 : decode cX10_takesOut 0 = .ok (.aload_n 0, 1) := by decide +kernel
theorem dX10_takesOut_1 : decode cX10_takesOut 1 = .ok (.iload_n 1, 1) := by decide +kernel
theorem dX10_takesOut_2 : decode cX10_takesOut 2 = .ok (.invokevirtual 37, 3) := by decide +kernel
theorem dX10_takesOut_5 : decode cX10_takesOut 5 = .ok (.istore_n 2, 1) := by decide +kernel
theorem dX10_takesOut_6 : decode cX10_takesOut 6 = .ok (.aload_n 0, 1) := by decide +kernel
theorem dX10_takesOut_7 : decode cX10_takesOut 7 = .ok (.getfield 7, 3) := by decide +kernel
theorem dX10_takesOut_10 : decode cX10_takesOut 10 = .ok (.iconst 0, 1) := by decide +kernel
theorem dX10_takesOut_11 : decode cX10_takesOut 11 = .ok (.dup2, 1) := by decide +kernel
theorem dX10_takesOut_12 : decode cX10_takesOut 12 = .ok (.iaload, 1) := by decide +kernel
theorem dX10_takesOut_13 : decode cX10_takesOut 13 = .ok (.iconst 1, 1) := by decide +kernel
theorem dX10_takesOut_14 : decode cX10_takesOut 14 = .ok (.isub, 1) := by decide +kernel
theorem dX10_takesOut_15 : decode cX10_takesOut 15 = .ok (.iastore, 1) := by decide +kernel
theorem dX10_takesOut_16 : decode cX10_takesOut 16 = .ok (.iload_n 2, 1) := by decide +kernel
theorem dX10_takesOut_17 : decode cX10_takesOut 17 = .ok (.istore_n 3, 1) := by decide +kernel
theorem dX10_takesOut_18 : decode cX10_takesOut 18 = .ok (.iload_n 3, 1) := by decide +kernel
theorem dX10_takesOut_19 : decode cX10_takesOut 19 = .ok (.aload_n 0, 1) := by decide +kernel
theorem dX10_takesOut_20 : decode cX10_takesOut 20 = .ok (.getfield 7, 3) := by decide +kernel
theorem dX10_takesOut_23 : decode cX10_takesOut 23 = .ok (.iconst 0, 1) := by decide +kernel
theorem dX10_takesOut_24 : decode cX10_takesOut 24 = .ok (.iaload, 1) := by decide +kernel
theorem dX10_takesOut_25 : decode cX10_takesOut 25 = .ok (.if_icmp .ge 27, 3) := by decide +kernel
theorem dX10_takesOut_28 : decode cX10_takesOut 28 = .ok (.aload_n 0, 1) := by decide +kernel
theorem dX10_takesOut_29 : decode cX10_takesOut 29 = .ok (.getfield 7, 3) := by decide +kernel
theorem dX10_takesOut_32 : decode cX10_takesOut 32 = .ok (.iconst 1, 1) := by decide +kernel
theorem dX10_takesOut_33 : decode cX10_takesOut 33 = .ok (.iload_n 3, 1) := by decide +kernel
theorem dX10_takesOut_34 : decode cX10_takesOut 34 = .ok (.iadd, 1) := by decide +kernel
theorem dX10_takesOut_35 : decode cX10_takesOut 35 = .ok (.aload_n 0, 1) := by decide +kernel
theorem dX10_takesOut_36 : decode cX10_takesOut 36 = .ok (.getfield 7, 3) := by decide +kernel
theorem dX10_takesOut_39 : decode cX10_takesOut 39 = .ok (.iconst 1, 1) := by decide +kernel
theorem dX10_takesOut_40 : decode cX10_takesOut 40 = .ok (.iload_n 3, 1) := by decide +kernel
theorem dX10_takesOut_41 : decode cX10_takesOut 41 = .ok (.iadd, 1) := by decide +kernel
theorem dX10_takesOut_42 : decode cX10_takesOut 42 = .ok (.iconst 1, 1) := by decide +kernel
theorem dX10_takesOut_43 : decode cX10_takesOut 43 = .ok (.iadd, 1) := by decide +kernel
theorem dX10_takesOut_44 : decode cX10_takesOut 44 = .ok (.iaload, 1) := by decide +kernel
theorem dX10_takesOut_45 : decode cX10_takesOut 45 = .ok (.iastore, 1) := by decide +kernel
theorem dX10_takesOut_46 : decode cX10_takesOut 46 = .ok (.iinc 3 1, 3) := by decide +kernel
theorem dX10_takesOut_49 : decode cX10_takesOut 49 = .ok (.goto (-31), 3) := by decide +kernel
theorem dX10_takesOut_52 : decode cX10_takesOut 52 = .ok (.iload_n 2, 1) := by decide +kernel
theorem dX10_takesOut_53 : decode cX10_takesOut 53 = .ok (.ireturn, 1) := by decide +kernel
theorem dX10_removeSlide_0 : decode cX10_removeSlide 0 = .ok (.aload_n 0, 1) := by decide +kernel
theorem dX10_removeSlide_1 : decode cX10_removeSlide 1 = .ok (.iload_n 1, 1) := by decide +kernel
theorem dX10_removeSlide_2 : decode cX10_removeSlide 2 = .ok (.invokevirtual 30, 3) := by decide +kernel
theorem dX10_removeSlide_5 : decode cX10_removeSlide 5 = .ok (.ifCond .ne 5, 3) := by decide +kernel
theorem dX10_removeSlide_8 : decode cX10_removeSlide 8 = .ok (.iconst (-1), 1) := by decide +kernel
theorem dX10_removeSlide_9 : decode cX10_removeSlide 9 = .ok (.ireturn, 1) := by decide +kernel
theorem dX10_removeSlide_10 : decode cX10_removeSlide 10 = .ok (.aload_n 0, 1) := by decide +kernel
theorem dX10_removeSlide_11 : decode cX10_removeSlide 11 = .ok (.getfield 7, 3) := by decide +kernel
theorem dX10_removeSlide_14 : decode cX10_removeSlide 14 = .ok (.bipush 29, 2) := by decide +kernel
theorem dX10_removeSlide_16 : decode cX10_removeSlide 16 = .ok (.iaload, 1) := by decide +kernel
theorem dX10_removeSlide_17 : decode cX10_removeSlide 17 = .ok (.iconst 1, 1) := by decide +kernel
theorem dX10_removeSlide_18 : decode cX10_removeSlide 18 = .ok (.if_icmp .ne 17, 3) := by decide +kernel
theorem dX10_removeSlide_21 : decode cX10_removeSlide 21 = .ok (.aload_n 0, 1) := by decide +kernel
theorem dX10_removeSlide_22 : decode cX10_removeSlide 22 = .ok (.getfield 7, 3) := by decide +kernel
theorem dX10_removeSlide_25 : decode cX10_removeSlide 25 = .ok (.bipush 30, 2) := by decide +kernel
theorem dX10_removeSlide_27 : decode cX10_removeSlide 27 = .ok (.iaload, 1) := by decide +kernel
theorem dX10_removeSlide_28 : decode cX10_removeSlide 28 = .ok (.iload_n 1, 1) := by decide +kernel
theorem dX10_removeSlide_29 : decode cX10_removeSlide 29 = .ok (.if_icmp .ne 6, 3) := by decide +kernel
theorem dX10_removeSlide_32 : decode cX10_removeSlide 32 = .ok (.bipush (-5), 2) := by decide +kernel
theorem dX10_removeSlide_34 : decode cX10_removeSlide 34 = .ok (.ireturn, 1) := by decide +kernel
theorem dX10_removeSlide_35 : decode cX10_removeSlide 35 = .ok (.aload_n 0, 1) := by decide +kernel
theorem dX10_removeSlide_36 : decode cX10_removeSlide 36 = .ok (.invokevirtual 76, 3) := by decide +kernel
theorem dX10_removeSlide_39 : decode cX10_removeSlide 39 = .ok (.aload_n 0, 1) := by decide +kernel
theorem dX10_removeSlide_40 : decode cX10_removeSlide 40 = .ok (.iload_n 1, 1) := by decide +kernel
theorem dX10_removeSlide_41 : decode cX10_removeSlide 41 = .ok (.invokevirtual 82, 3) := by decide +kernel
theorem dX10_removeSlide_44 : decode cX10_removeSlide 44 = .ok (.pop, 1) := by decide +kernel
theorem dX10_removeSlide_45 : decode cX10_removeSlide 45 = .ok (.aload_n 0, 1) := by decide +kernel
theorem dX10_removeSlide_46 : decode cX10_removeSlide 46 = .ok (.iload_n 1, 1) := by decide +kernel
theorem dX10_removeSlide_47 : decode cX10_removeSlide 47 = .ok (.iconst 0, 1) := by decide +kernel
theorem dX10_removeSlide_48 : decode cX10_removeSlide 48 = .ok (.iconst 0, 1) := by decide +kernel
theorem dX10_removeSlide_49 : decode cX10_removeSlide 49 = .ok (.invokevirtual 79, 3) := by decide +kernel
theorem dX10_removeSlide_52 : decode cX10_removeSlide 52 = .ok (.iconst 0, 1) := by decide +kernel
theorem dX10_removeSlide_53 : decode cX10_removeSlide 53 = .ok (.istore_n 2, 1) := by decide +kernel
theorem dX10_removeSlide_54 : decode cX10_removeSlide 54 = .ok (.iload_n 2, 1) := by decide +kernel
theorem dX10_removeSlide_55 : decode cX10_removeSlide 55 = .ok (.bipush 100, 2) := by decide +kernel
theorem dX10_removeSlide_57 : decode cX10_removeSlide 57 = .ok (.if_icmp .ge 45, 3) := by decide +kernel
theorem dX10_removeSlide_60 : decode cX10_removeSlide 60 = .ok (.aload_n 0, 1) := by decide +kernel
theorem dX10_removeSlide_61 : decode cX10_removeSlide 61 = .ok (.iload_n 2, 1) := by decide +kernel
theorem dX10_removeSlide_62 : decode cX10_removeSlide 62 = .ok (.bipush 10, 2) := by decide +kernel
theorem dX10_removeSlide_64 : decode cX10_removeSlide 64 = .ok (.idiv, 1) := by decide +kernel
theorem dX10_removeSlide_65 : decode cX10_removeSlide 65 = .ok (.bipush 22, 2) := by decide +kernel
theorem dX10_removeSlide_67 : decode cX10_removeSlide 67 = .ok (.iload_n 2, 1) := by decide +kernel
theorem dX10_removeSlide_68 : decode cX10_removeSlide 68 = .ok (.bipush 10, 2) := by decide +kernel
theorem dX10_removeSlide_70 : decode cX10_removeSlide 70 = .ok (.irem, 1) := by decide +kernel
theorem dX10_removeSlide_71 : decode cX10_removeSlide 71 = .ok (.iadd, 1) := by decide +kernel
theorem dX10_removeSlide_72 : decode cX10_removeSlide 72 = .ok (.invokevirtual 26, 3) := by decide +kernel
theorem dX10_removeSlide_75 : decode cX10_removeSlide 75 = .ok (.iload_n 1, 1) := by decide +kernel
theorem dX10_removeSlide_76 : decode cX10_removeSlide 76 = .ok (.if_icmp .ne 20, 3) := by decide +kernel
theorem dX10_removeSlide_79 : decode cX10_removeSlide 79 = .ok (.aload_n 0, 1) := by decide +kernel
theorem dX10_removeSlide_80 : decode cX10_removeSlide 80 = .ok (.iload_n 2, 1) := by decide +kernel
theorem dX10_removeSlide_81 : decode cX10_removeSlide 81 = .ok (.bipush 10, 2) := by decide +kernel
theorem dX10_removeSlide_83 : decode cX10_removeSlide 83 = .ok (.idiv, 1) := by decide +kernel
theorem dX10_removeSlide_84 : decode cX10_removeSlide 84 = .ok (.bipush 22, 2) := by decide +kernel
theorem dX10_removeSlide_86 : decode cX10_removeSlide 86 = .ok (.iload_n 2, 1) := by decide +kernel
theorem dX10_removeSlide_87 : decode cX10_removeSlide 87 = .ok (.bipush 10, 2) := by decide +kernel
theorem dX10_removeSlide_89 : decode cX10_removeSlide 89 = .ok (.irem, 1) := by decide +kernel
theorem dX10_removeSlide_90 : decode cX10_removeSlide 90 = .ok (.iadd, 1) := by decide +kernel
theorem dX10_removeSlide_91 : decode cX10_removeSlide 91 = .ok (.bipush (-6), 2) := by decide +kernel
theorem dX10_removeSlide_93 : decode cX10_removeSlide 93 = .ok (.invokevirtual 79, 3) := by decide +kernel
theorem dX10_removeSlide_96 : decode cX10_removeSlide 96 = .ok (.iinc 2 1, 3) := by decide +kernel
theorem dX10_removeSlide_99 : decode cX10_removeSlide 99 = .ok (.goto (-45), 3) := by decide +kernel
theorem dX10_removeSlide_102 : decode cX10_removeSlide 102 = .ok (.aload_n 0, 1) := by decide +kernel
theorem dX10_removeSlide_103 : decode cX10_removeSlide 103 = .ok (.getfield 7, 3) := by decide +kernel
theorem dX10_removeSlide_106 : decode cX10_removeSlide 106 = .ok (.iconst 0, 1) := by decide +kernel
theorem dX10_removeSlide_107 : decode cX10_removeSlide 107 = .ok (.iaload, 1) := by decide +kernel
theorem dX10_removeSlide_108 : decode cX10_removeSlide 108 = .ok (.ireturn, 1) := by decide +kernel
theorem dX10_moveSlide_0 : decode cX10_moveSlide 0 = .ok (.aload_n 0, 1) := by decide +kernel
theorem dX10_moveSlide_1 : decode cX10_moveSlide 1 = .ok (.iload_n 1, 1) := by decide +kernel
theorem dX10_moveSlide_2 : decode cX10_moveSlide 2 = .ok (.invokevirtual 30, 3) := by decide +kernel
theorem dX10_moveSlide_5 : decode cX10_moveSlide 5 = .ok (.ifCond .ne 5, 3) := by decide +kernel
theorem dX10_moveSlide_8 : decode cX10_moveSlide 8 = .ok (.iconst (-1), 1) := by decide +kernel
theorem dX10_moveSlide_9 : decode cX10_moveSlide 9 = .ok (.ireturn, 1) := by decide +kernel
theorem dX10_moveSlide_10 : decode cX10_moveSlide 10 = .ok (.iload_n 2, 1) := by decide +kernel
theorem dX10_moveSlide_11 : decode cX10_moveSlide 11 = .ok (.iconst 0, 1) := by decide +kernel
theorem dX10_moveSlide_12 : decode cX10_moveSlide 12 = .ok (.aload_n 0, 1) := by decide +kernel
theorem dX10_moveSlide_13 : decode cX10_moveSlide 13 = .ok (.getfield 7, 3) := by decide +kernel
theorem dX10_moveSlide_16 : decode cX10_moveSlide 16 = .ok (.iconst 0, 1) := by decide +kernel
theorem dX10_moveSlide_17 : decode cX10_moveSlide 17 = .ok (.iaload, 1) := by decide +kernel
theorem dX10_moveSlide_18 : decode cX10_moveSlide 18 = .ok (.iconst 1, 1) := by decide +kernel
theorem dX10_moveSlide_19 : decode cX10_moveSlide 19 = .ok (.isub, 1) := by decide +kernel
theorem dX10_moveSlide_20 : decode cX10_moveSlide 20 = .ok (.invokestatic 22, 3) := by decide +kernel
theorem dX10_moveSlide_23 : decode cX10_moveSlide 23 = .ok (.ifCond .ne 6, 3) := by decide +kernel
theorem dX10_moveSlide_26 : decode cX10_moveSlide 26 = .ok (.bipush (-2), 2) := by decide +kernel
theorem dX10_moveSlide_28 : decode cX10_moveSlide 28 = .ok (.ireturn, 1) := by decide +kernel
theorem dX10_moveSlide_29 : decode cX10_moveSlide 29 = .ok (.aload_n 0, 1) := by decide +kernel
theorem dX10_moveSlide_30 : decode cX10_moveSlide 30 = .ok (.invokevirtual 76, 3) := by decide +kernel
theorem dX10_moveSlide_33 : decode cX10_moveSlide 33 = .ok (.aload_n 0, 1) := by decide +kernel
theorem dX10_moveSlide_34 : decode cX10_moveSlide 34 = .ok (.iload_n 1, 1) := by decide +kernel
theorem dX10_moveSlide_35 : decode cX10_moveSlide 35 = .ok (.invokevirtual 82, 3) := by decide +kernel
theorem dX10_moveSlide_38 : decode cX10_moveSlide 38 = .ok (.istore_n 3, 1) := by decide +kernel
theorem dX10_moveSlide_39 : decode cX10_moveSlide 39 = .ok (.aload_n 0, 1) := by decide +kernel
theorem dX10_moveSlide_40 : decode cX10_moveSlide 40 = .ok (.getfield 7, 3) := by decide +kernel
theorem dX10_moveSlide_43 : decode cX10_moveSlide 43 = .ok (.iconst 0, 1) := by decide +kernel
theorem dX10_moveSlide_44 : decode cX10_moveSlide 44 = .ok (.iaload, 1) := by decide +kernel
theorem dX10_moveSlide_45 : decode cX10_moveSlide 45 = .ok (.istore 4, 2) := by decide +kernel
theorem dX10_moveSlide_47 : decode cX10_moveSlide 47 = .ok (.iload 4, 2) := by decide +kernel
theorem dX10_moveSlide_49 : decode cX10_moveSlide 49 = .ok (.iload_n 2, 1) := by decide +kernel
theorem dX10_moveSlide_50 : decode cX10_moveSlide 50 = .ok (.if_icmp .le 29, 3) := by decide +kernel
theorem dX10_moveSlide_53 : decode cX10_moveSlide 53 = .ok (.aload_n 0, 1) := by decide +kernel
theorem dX10_moveSlide_54 : decode cX10_moveSlide 54 = .ok (.getfield 7, 3) := by decide +kernel
theorem dX10_moveSlide_57 : decode cX10_moveSlide 57 = .ok (.iconst 1, 1) := by decide +kernel
theorem dX10_moveSlide_58 : decode cX10_moveSlide 58 = .ok (.iload 4, 2) := by decide +kernel
theorem dX10_moveSlide_60 : decode cX10_moveSlide 60 = .ok (.iadd, 1) := by decide +kernel
theorem dX10_moveSlide_61 : decode cX10_moveSlide 61 = .ok (.aload_n 0, 1) := by decide +kernel
theorem dX10_moveSlide_62 : decode cX10_moveSlide 62 = .ok (.getfield 7, 3) := by decide +kernel
theorem dX10_moveSlide_65 : decode cX10_moveSlide 65 = .ok (.iconst 1, 1) := by decide +kernel
theorem dX10_moveSlide_66 : decode cX10_moveSlide 66 = .ok (.iload 4, 2) := by decide +kernel
theorem dX10_moveSlide_68 : decode cX10_moveSlide 68 = .ok (.iadd, 1) := by decide +kernel
theorem dX10_moveSlide_69 : decode cX10_moveSlide 69 = .ok (.iconst 1, 1) := by decide +kernel
theorem dX10_moveSlide_70 : decode cX10_moveSlide 70 = .ok (.isub, 1) := by decide +kernel
theorem dX10_moveSlide_71 : decode cX10_moveSlide 71 = .ok (.iaload, 1) := by decide +kernel
theorem dX10_moveSlide_72 : decode cX10_moveSlide 72 = .ok (.iastore, 1) := by decide +kernel
theorem dX10_moveSlide_73 : decode cX10_moveSlide 73 = .ok (.iinc 4 (-1), 3) := by decide +kernel
theorem dX10_moveSlide_76 : decode cX10_moveSlide 76 = .ok (.goto (-29), 3) := by decide +kernel
theorem dX10_moveSlide_79 : decode cX10_moveSlide 79 = .ok (.aload_n 0, 1) := by decide +kernel
theorem dX10_moveSlide_80 : decode cX10_moveSlide 80 = .ok (.getfield 7, 3) := by decide +kernel
theorem dX10_moveSlide_83 : decode cX10_moveSlide 83 = .ok (.iconst 1, 1) := by decide +kernel
theorem dX10_moveSlide_84 : decode cX10_moveSlide 84 = .ok (.iload_n 2, 1) := by decide +kernel
theorem dX10_moveSlide_85 : decode cX10_moveSlide 85 = .ok (.iadd, 1) := by decide +kernel
theorem dX10_moveSlide_86 : decode cX10_moveSlide 86 = .ok (.iload_n 1, 1) := by decide +kernel
theorem dX10_moveSlide_87 : decode cX10_moveSlide 87 = .ok (.iastore, 1) := by decide +kernel
theorem dX10_moveSlide_88 : decode cX10_moveSlide 88 = .ok (.aload_n 0, 1) := by decide +kernel
theorem dX10_moveSlide_89 : decode cX10_moveSlide 89 = .ok (.getfield 7, 3) := by decide +kernel
theorem dX10_moveSlide_92 : decode cX10_moveSlide 92 = .ok (.iconst 0, 1) := by decide +kernel
theorem dX10_moveSlide_93 : decode cX10_moveSlide 93 = .ok (.dup2, 1) := by decide +kernel
theorem dX10_moveSlide_94 : decode cX10_moveSlide 94 = .ok (.iaload, 1) := by decide +kernel
theorem dX10_moveSlide_95 : decode cX10_moveSlide 95 = .ok (.iconst 1, 1) := by decide +kernel
theorem dX10_moveSlide_96 : decode cX10_moveSlide 96 = .ok (.iadd, 1) := by decide +kernel
theorem dX10_moveSlide_97 : decode cX10_moveSlide 97 = .ok (.iastore, 1) := by decide +kernel
theorem dX10_moveSlide_98 : decode cX10_moveSlide 98 = .ok (.iload_n 3, 1) := by decide +kernel
theorem dX10_moveSlide_99 : decode cX10_moveSlide 99 = .ok (.ireturn, 1) := by decide +kernel
theorem dX10_hide_0 : decode cX10_hide 0 = .ok (.aload_n 0, 1) := by decide +kernel
theorem dX10_hide_1 : decode cX10_hide 1 = .ok (.iload_n 1, 1) := by decide +kernel
theorem dX10_hide_2 : decode cX10_hide 2 = .ok (.invokevirtual 30, 3) := by decide +kernel
theorem dX10_hide_5 : decode cX10_hide 5 = .ok (.ifCond .ne 5, 3) := by decide +kernel
theorem dX10_hide_8 : decode cX10_hide 8 = .ok (.iconst (-1), 1) := by decide +kernel
theorem dX10_hide_9 : decode cX10_hide 9 = .ok (.ireturn, 1) := by decide +kernel
theorem dX10_hide_10 : decode cX10_hide 10 = .ok (.aload_n 0, 1) := by decide +kernel
theorem dX10_hide_11 : decode cX10_hide 11 = .ok (.invokevirtual 76, 3) := by decide +kernel
theorem dX10_hide_14 : decode cX10_hide 14 = .ok (.aload_n 0, 1) := by decide +kernel
theorem dX10_hide_15 : decode cX10_hide 15 = .ok (.iload_n 1, 1) := by decide +kernel
theorem dX10_hide_16 : decode cX10_hide 16 = .ok (.iconst 1, 1) := by decide +kernel
theorem dX10_hide_17 : decode cX10_hide 17 = .ok (.iload_n 2, 1) := by decide +kernel
theorem dX10_hide_18 : decode cX10_hide 18 = .ok (.ifCond .eq 7, 3) := by decide +kernel
theorem dX10_hide_21 : decode cX10_hide 21 = .ok (.iconst 1, 1) := by decide +kernel
theorem dX10_hide_22 : decode cX10_hide 22 = .ok (.goto 4, 3) := by decide +kernel
theorem dX10_hide_25 : decode cX10_hide 25 = .ok (.iconst 0, 1) := by decide +kernel
theorem dX10_hide_26 : decode cX10_hide 26 = .ok (.invokevirtual 79, 3) := by decide +kernel
theorem dX10_hide_29 : decode cX10_hide 29 = .ok (.iconst 0, 1) := by decide +kernel
theorem dX10_hide_30 : decode cX10_hide 30 = .ok (.istore_n 3, 1) := by decide +kernel
theorem dX10_hide_31 : decode cX10_hide 31 = .ok (.iconst 0, 1) := by decide +kernel
theorem dX10_hide_32 : decode cX10_hide 32 = .ok (.istore 4, 2) := by decide +kernel
theorem dX10_hide_34 : decode cX10_hide 34 = .ok (.iload 4, 2) := by decide +kernel
theorem dX10_hide_36 : decode cX10_hide 36 = .ok (.aload_n 0, 1) := by decide +kernel
theorem dX10_hide_37 : decode cX10_hide 37 = .ok (.getfield 7, 3) := by decide +kernel
theorem dX10_hide_40 : decode cX10_hide 40 = .ok (.iconst 0, 1) := by decide +kernel
theorem dX10_hide_41 : decode cX10_hide 41 = .ok (.iaload, 1) := by decide +kernel
theorem dX10_hide_42 : decode cX10_hide 42 = .ok (.if_icmp .ge 26, 3) := by decide +kernel
theorem dX10_hide_45 : decode cX10_hide 45 = .ok (.iload_n 3, 1) := by decide +kernel
theorem dX10_hide_46 : decode cX10_hide 46 = .ok (.aload_n 0, 1) := by decide +kernel
theorem dX10_hide_47 : decode cX10_hide 47 = .ok (.aload_n 0, 1) := by decide +kernel
theorem dX10_hide_48 : decode cX10_hide 48 = .ok (.getfield 7, 3) := by decide +kernel
theorem dX10_hide_51 : decode cX10_hide 51 = .ok (.iconst 1, 1) := by decide +kernel
theorem dX10_hide_52 : decode cX10_hide 52 = .ok (.iload 4, 2) := by decide +kernel
theorem dX10_hide_54 : decode cX10_hide 54 = .ok (.iadd, 1) := by decide +kernel
theorem dX10_hide_55 : decode cX10_hide 55 = .ok (.iaload, 1) := by decide +kernel
theorem dX10_hide_56 : decode cX10_hide 56 = .ok (.iconst 1, 1) := by decide +kernel
theorem dX10_hide_57 : decode cX10_hide 57 = .ok (.invokevirtual 26, 3) := by decide +kernel
theorem dX10_hide_60 : decode cX10_hide 60 = .ok (.iadd, 1) := by decide +kernel
theorem dX10_hide_61 : decode cX10_hide 61 = .ok (.istore_n 3, 1) := by decide +kernel
theorem dX10_hide_62 : decode cX10_hide 62 = .ok (.iinc 4 1, 3) := by decide +kernel
theorem dX10_hide_65 : decode cX10_hide 65 = .ok (.goto (-31), 3) := by decide +kernel
theorem dX10_hide_68 : decode cX10_hide 68 = .ok (.iload_n 3, 1) := by decide +kernel
theorem dX10_hide_69 : decode cX10_hide 69 = .ok (.ireturn, 1) := by decide +kernel
theorem dX10_setPause_0 : decode cX10_setPause 0 = .ok (.aload_n 0, 1) := by decide +kernel
theorem dX10_setPause_1 : decode cX10_setPause 1 = .ok (.iload_n 1, 1) := by decide +kernel
theorem dX10_setPause_2 : decode cX10_setPause 2 = .ok (.invokevirtual 30, 3) := by decide +kernel
theorem dX10_setPause_5 : decode cX10_setPause 5 = .ok (.ifCond .ne 5, 3) := by decide +kernel
theorem dX10_setPause_8 : decode cX10_setPause 8 = .ok (.iconst (-1), 1) := by decide +kernel
theorem dX10_setPause_9 : decode cX10_setPause 9 = .ok (.ireturn, 1) := by decide +kernel
theorem dX10_setPause_10 : decode cX10_setPause 10 = .ok (.iload_n 2, 1) := by decide +kernel
theorem dX10_setPause_11 : decode cX10_setPause 11 = .ok (.iconst 0, 1) := by decide +kernel
theorem dX10_setPause_12 : decode cX10_setPause 12 = .ok (.bipush 60, 2) := by decide +kernel
theorem dX10_setPause_14 : decode cX10_setPause 14 = .ok (.invokestatic 22, 3) := by decide +kernel
theorem dX10_setPause_17 : decode cX10_setPause 17 = .ok (.ifCond .ne 6, 3) := by decide +kernel
theorem dX10_setPause_20 : decode cX10_setPause 20 = .ok (.bipush (-2), 2) := by decide +kernel
theorem dX10_setPause_22 : decode cX10_setPause 22 = .ok (.ireturn, 1) := by decide +kernel
theorem dX10_setPause_23 : decode cX10_setPause 23 = .ok (.aload_n 0, 1) := by decide +kernel
theorem dX10_setPause_24 : decode cX10_setPause 24 = .ok (.invokevirtual 76, 3) := by decide +kernel
theorem dX10_setPause_27 : decode cX10_setPause 27 = .ok (.aload_n 0, 1) := by decide +kernel
theorem dX10_setPause_28 : decode cX10_setPause 28 = .ok (.iload_n 1, 1) := by decide +kernel
theorem dX10_setPause_29 : decode cX10_setPause 29 = .ok (.iconst 2, 1) := by decide +kernel
theorem dX10_setPause_30 : decode cX10_setPause 30 = .ok (.invokevirtual 26, 3) := by decide +kernel
theorem dX10_setPause_33 : decode cX10_setPause 33 = .ok (.istore_n 3, 1) := by decide +kernel
theorem dX10_setPause_34 : decode cX10_setPause 34 = .ok (.aload_n 0, 1) := by decide +kernel
theorem dX10_setPause_35 : decode cX10_setPause 35 = .ok (.iload_n 1, 1) := by decide +kernel
theorem dX10_setPause_36 : decode cX10_setPause 36 = .ok (.iconst 2, 1) := by decide +kernel
theorem dX10_setPause_37 : decode cX10_setPause 37 = .ok (.iload_n 2, 1) := by decide +kernel
theorem dX10_setPause_38 : decode cX10_setPause 38 = .ok (.invokevirtual 79, 3) := by decide +kernel
theorem dX10_setPause_41 : decode cX10_setPause 41 = .ok (.iload_n 3, 1) := by decide +kernel
theorem dX10_setPause_42 : decode cX10_setPause 42 = .ok (.ireturn, 1) := by decide +kernel
theorem dX10_addItem_0 : decode cX10_addItem 0 = .ok (.aload_n 0, 1) := by decide +kernel
theorem dX10_addItem_1 : decode cX10_addItem 1 = .ok (.iload_n 1, 1) := by decide +kernel
theorem dX10_addItem_2 : decode cX10_addItem 2 = .ok (.invokevirtual 30, 3) := by decide +kernel
theorem dX10_addItem_5 : decode cX10_addItem 5 = .ok (.ifCond .ne 5, 3) := by decide +kernel
theorem dX10_addItem_8 : decode cX10_addItem 8 = .ok (.iconst (-1), 1) := by decide +kernel
theorem dX10_addItem_9 : decode cX10_addItem 9 = .ok (.ireturn, 1) := by decide +kernel
theorem dX10_addItem_10 : decode cX10_addItem 10 = .ok (.iload_n 3, 1) := by decide +kernel
theorem dX10_addItem_11 : decode cX10_addItem 11 = .ok (.iconst (-1), 1) := by decide +kernel
theorem dX10_addItem_12 : decode cX10_addItem 12 = .ok (.if_icmp .eq 13, 3) := by decide +kernel
theorem dX10_addItem_15 : decode cX10_addItem 15 = .ok (.iload_n 3, 1) := by decide +kernel
theorem dX10_addItem_16 : decode cX10_addItem 16 = .ok (.iload_n 2, 1) := by decide +kernel
theorem dX10_addItem_17 : decode cX10_addItem 17 = .ok (.bipush 9, 2) := by decide +kernel
theorem dX10_addItem_19 : decode cX10_addItem 19 = .ok (.invokestatic 22, 3) := by decide +kernel
theorem dX10_addItem_22 : decode cX10_addItem 22 = .ok (.ifCond .eq 7, 3) := by decide +kernel
theorem dX10_addItem_25 : decode cX10_addItem 25 = .ok (.iconst 1, 1) := by decide +kernel
theorem dX10_addItem_26 : decode cX10_addItem 26 = .ok (.goto 4, 3) := by decide +kernel
theorem dX10_addItem_29 : decode cX10_addItem 29 = .ok (.iconst 0, 1) := by decide +kernel
theorem dX10_addItem_30 : decode cX10_addItem 30 = .ok (.istore 5, 2) := by decide +kernel
theorem dX10_addItem_32 : decode cX10_addItem 32 = .ok (.iload_n 2, 1) := by decide +kernel
theorem dX10_addItem_33 : decode cX10_addItem 33 = .ok (.iconst 0, 1) := by decide +kernel
theorem dX10_addItem_34 : decode cX10_addItem 34 = .ok (.bipush 9, 2) := by decide +kernel
theorem dX10_addItem_36 : decode cX10_addItem 36 = .ok (.invokestatic 22, 3) := by decide +kernel
theorem dX10_addItem_39 : decode cX10_addItem 39 = .ok (.ifCond .eq 19, 3) := by decide +kernel
theorem dX10_addItem_42 : decode cX10_addItem 42 = .ok (.iload 5, 2) := by decide +kernel
theorem dX10_addItem_44 : decode cX10_addItem 44 = .ok (.ifCond .eq 14, 3) := by decide +kernel
theorem dX10_addItem_47 : decode cX10_addItem 47 = .ok (.iload 4, 2) := by decide +kernel
theorem dX10_addItem_49 : decode cX10_addItem 49 = .ok (.iconst 0, 1) := by decide +kernel
theorem dX10_addItem_50 : decode cX10_addItem 50 = .ok (.bipush 99, 2) := by decide +kernel
theorem dX10_addItem_52 : decode cX10_addItem 52 = .ok (.invokestatic 22, 3) := by decide +kernel
theorem dX10_addItem_55 : decode cX10_addItem 55 = .ok (.ifCond .ne 6, 3) := by decide +kernel
theorem dX10_addItem_58 : decode cX10_addItem 58 = .ok (.bipush (-2), 2) := by decide +kernel
theorem dX10_addItem_60 : decode cX10_addItem 60 = .ok (.ireturn, 1) := by decide +kernel
theorem dX10_addItem_61 : decode cX10_addItem 61 = .ok (.aload_n 0, 1) := by decide +kernel
theorem dX10_addItem_62 : decode cX10_addItem 62 = .ok (.iload_n 1, 1) := by decide +kernel
theorem dX10_addItem_63 : decode cX10_addItem 63 = .ok (.iconst 3, 1) := by decide +kernel
theorem dX10_addItem_64 : decode cX10_addItem 64 = .ok (.invokevirtual 26, 3) := by decide +kernel
theorem dX10_addItem_67 : decode cX10_addItem 67 = .ok (.bipush 6, 2) := by decide +kernel
theorem dX10_addItem_69 : decode cX10_addItem 69 = .ok (.if_icmp .ne 6, 3) := by decide +kernel
theorem dX10_addItem_72 : decode cX10_addItem 72 = .ok (.bipush (-4), 2) := by decide +kernel
theorem dX10_addItem_74 : decode cX10_addItem 74 = .ok (.ireturn, 1) := by decide +kernel
theorem dX10_addItem_75 : decode cX10_addItem 75 = .ok (.aload_n 0, 1) := by decide +kernel
theorem dX10_addItem_76 : decode cX10_addItem 76 = .ok (.invokevirtual 76, 3) := by decide +kernel
theorem dX10_addItem_79 : decode cX10_addItem 79 = .ok (.aload_n 0, 1) := by decide +kernel
theorem dX10_addItem_80 : decode cX10_addItem 80 = .ok (.iload_n 1, 1) := by decide +kernel
theorem dX10_addItem_81 : decode cX10_addItem 81 = .ok (.iconst 3, 1) := by decide +kernel
theorem dX10_addItem_82 : decode cX10_addItem 82 = .ok (.invokevirtual 26, 3) := by decide +kernel
theorem dX10_addItem_85 : decode cX10_addItem 85 = .ok (.istore 6, 2) := by decide +kernel
theorem dX10_addItem_87 : decode cX10_addItem 87 = .ok (.aload_n 0, 1) := by decide +kernel
theorem dX10_addItem_88 : decode cX10_addItem 88 = .ok (.iload_n 1, 1) := by decide +kernel
theorem dX10_addItem_89 : decode cX10_addItem 89 = .ok (.iconst 4, 1) := by decide +kernel
theorem dX10_addItem_90 : decode cX10_addItem 90 = .ok (.iconst 3, 1) := by decide +kernel
theorem dX10_addItem_91 : decode cX10_addItem 91 = .ok (.iload 6, 2) := by decide +kernel
theorem dX10_addItem_93 : decode cX10_addItem 93 = .ok (.imul, 1) := by decide +kernel
theorem dX10_addItem_94 : decode cX10_addItem 94 = .ok (.iadd, 1) := by decide +kernel
theorem dX10_addItem_95 : decode cX10_addItem 95 = .ok (.iload_n 2, 1) := by decide +kernel
theorem dX10_addItem_96 : decode cX10_addItem 96 = .ok (.invokevirtual 79, 3) := by decide +kernel
theorem dX10_addItem_99 : decode cX10_addItem 99 = .ok (.aload_n 0, 1) := by decide +kernel
theorem dX10_addItem_100 : decode cX10_addItem 100 = .ok (.iload_n 1, 1) := by decide +kernel
theorem dX10_addItem_101 : decode cX10_addItem 101 = .ok (.iconst 4, 1) := by decide +kernel
theorem dX10_addItem_102 : decode cX10_addItem 102 = .ok (.iconst 3, 1) := by decide +kernel
theorem dX10_addItem_103 : decode cX10_addItem 103 = .ok (.iload 6, 2) := by decide +kernel
theorem dX10_addItem_105 : decode cX10_addItem 105 = .ok (.imul, 1) := by decide +kernel
theorem dX10_addItem_106 : decode cX10_addItem 106 = .ok (.iadd, 1) := by decide +kernel
theorem dX10_addItem_107 : decode cX10_addItem 107 = .ok (.iconst 1, 1) := by decide +kernel
theorem dX10_addItem_108 : decode cX10_addItem 108 = .ok (.iadd, 1) := by decide +kernel
theorem dX10_addItem_109 : decode cX10_addItem 109 = .ok (.iload_n 3, 1) := by decide +kernel
theorem dX10_addItem_110 : decode cX10_addItem 110 = .ok (.invokevirtual 79, 3) := by decide +kernel
theorem dX10_addItem_113 : decode cX10_addItem 113 = .ok (.aload_n 0, 1) := by decide +kernel
theorem dX10_addItem_114 : decode cX10_addItem 114 = .ok (.iload_n 1, 1) := by decide +kernel
theorem dX10_addItem_115 : decode cX10_addItem 115 = .ok (.iconst 4, 1) := by decide +kernel
theorem dX10_addItem_116 : decode cX10_addItem 116 = .ok (.iconst 3, 1) := by decide +kernel
theorem dX10_addItem_117 : decode cX10_addItem 117 = .ok (.iload 6, 2) := by decide +kernel
theorem dX10_addItem_119 : decode cX10_addItem 119 = .ok (.imul, 1) := by decide +kernel
theorem dX10_addItem_120 : decode cX10_addItem 120 = .ok (.iadd, 1) := by decide +kernel
theorem dX10_addItem_121 : decode cX10_addItem 121 = .ok (.iconst 2, 1) := by decide +kernel
theorem dX10_addItem_122 : decode cX10_addItem 122 = .ok (.iadd, 1) := by decide +kernel
theorem dX10_addItem_123 : decode cX10_addItem 123 = .ok (.iload 4, 2) := by decide +kernel
theorem dX10_addItem_125 : decode cX10_addItem 125 = .ok (.invokevirtual 79, 3) := by decide +kernel
theorem dX10_addItem_128 : decode cX10_addItem 128 = .ok (.aload_n 0, 1) := by decide +kernel
theorem dX10_addItem_129 : decode cX10_addItem 129 = .ok (.iload_n 1, 1) := by decide +kernel
theorem dX10_addItem_130 : decode cX10_addItem 130 = .ok (.iconst 3, 1) := by decide +kernel
theorem dX10_addItem_131 : decode cX10_addItem 131 = .ok (.iload 6, 2) := by decide +kernel
theorem dX10_addItem_133 : decode cX10_addItem 133 = .ok (.iconst 1, 1) := by decide +kernel
theorem dX10_addItem_134 : decode cX10_addItem 134 = .ok (.iadd, 1) := by decide +kernel
theorem dX10_addItem_135 : decode cX10_addItem 135 = .ok (.invokevirtual 79, 3) := by decide +kernel
theorem dX10_addItem_138 : decode cX10_addItem 138 = .ok (.iload 6, 2) := by decide +kernel
theorem dX10_addItem_140 : decode cX10_addItem 140 = .ok (.ireturn, 1) := by decide +kernel
theorem dX10_removeItem_0 : decode cX10_removeItem 0 = .ok (.aload_n 0, 1) := by decide +kernel
theorem dX10_removeItem_1 : decode cX10_removeItem 1 = .ok (.iload_n 1, 1) := by decide +kernel
theorem dX10_removeItem_2 : decode cX10_removeItem 2 = .ok (.iload_n 2, 1) := by decide +kernel
theorem dX10_removeItem_3 : decode cX10_removeItem 3 = .ok (.invokevirtual 85, 3) := by decide +kernel
theorem dX10_removeItem_6 : decode cX10_removeItem 6 = .ok (.ifCond .ne 5, 3) := by decide +kernel
theorem dX10_removeItem_9 : decode cX10_removeItem 9 = .ok (.iconst (-1), 1) := by decide +kernel
theorem dX10_removeItem_10 : decode cX10_removeItem 10 = .ok (.ireturn, 1) := by decide +kernel
theorem dX10_removeItem_11 : decode cX10_removeItem 11 = .ok (.aload_n 0, 1) := by decide +kernel
theorem dX10_removeItem_12 : decode cX10_removeItem 12 = .ok (.invokevirtual 76, 3) := by decide +kernel
theorem dX10_removeItem_15 : decode cX10_removeItem 15 = .ok (.aload_n 0, 1) := by decide +kernel
theorem dX10_removeItem_16 : decode cX10_removeItem 16 = .ok (.iload_n 1, 1) := by decide +kernel
theorem dX10_removeItem_17 : decode cX10_removeItem 17 = .ok (.iconst 3, 1) := by decide +kernel
theorem dX10_removeItem_18 : decode cX10_removeItem 18 = .ok (.invokevirtual 26, 3) := by decide +kernel
theorem dX10_removeItem_21 : decode cX10_removeItem 21 = .ok (.iconst 1, 1) := by decide +kernel
theorem dX10_removeItem_22 : decode cX10_removeItem 22 = .ok (.isub, 1) := by decide +kernel
theorem dX10_removeItem_23 : decode cX10_removeItem 23 = .ok (.istore_n 3, 1) := by decide +kernel
theorem dX10_removeItem_24 : decode cX10_removeItem 24 = .ok (.iconst 3, 1) := by decide +kernel
theorem dX10_removeItem_25 : decode cX10_removeItem 25 = .ok (.iload_n 2, 1) := by decide +kernel
theorem dX10_removeItem_26 : decode cX10_removeItem 26 = .ok (.imul, 1) := by decide +kernel
theorem dX10_removeItem_27 : decode cX10_removeItem 27 = .ok (.istore 4, 2) := by decide +kernel
theorem dX10_removeItem_29 : decode cX10_removeItem 29 = .ok (.iload 4, 2) := by decide +kernel
theorem dX10_removeItem_31 : decode cX10_removeItem 31 = .ok (.iconst 3, 1) := by decide +kernel
theorem dX10_removeItem_32 : decode cX10_removeItem 32 = .ok (.iload_n 3, 1) := by decide +kernel
theorem dX10_removeItem_33 : decode cX10_removeItem 33 = .ok (.imul, 1) := by decide +kernel
theorem dX10_removeItem_34 : decode cX10_removeItem 34 = .ok (.if_icmp .ge 29, 3) := by decide +kernel
theorem dX10_removeItem_37 : decode cX10_removeItem 37 = .ok (.aload_n 0, 1) := by decide +kernel
theorem dX10_removeItem_38 : decode cX10_removeItem 38 = .ok (.iload_n 1, 1) := by decide +kernel
theorem dX10_removeItem_39 : decode cX10_removeItem 39 = .ok (.iconst 4, 1) := by decide +kernel
theorem dX10_removeItem_40 : decode cX10_removeItem 40 = .ok (.iload 4, 2) := by decide +kernel
theorem dX10_removeItem_42 : decode cX10_removeItem 42 = .ok (.iadd, 1) := by decide +kernel
theorem dX10_removeItem_43 : decode cX10_removeItem 43 = .ok (.aload_n 0, 1) := by decide +kernel
theorem dX10_removeItem_44 : decode cX10_removeItem 44 = .ok (.iload_n 1, 1) := by decide +kernel
theorem dX10_removeItem_45 : decode cX10_removeItem 45 = .ok (.iconst 4, 1) := by decide +kernel
theorem dX10_removeItem_46 : decode cX10_removeItem 46 = .ok (.iload 4, 2) := by decide +kernel
theorem dX10_removeItem_48 : decode cX10_removeItem 48 = .ok (.iadd, 1) := by decide +kernel
theorem dX10_removeItem_49 : decode cX10_removeItem 49 = .ok (.iconst 3, 1) := by decide +kernel
theorem dX10_removeItem_50 : decode cX10_removeItem 50 = .ok (.iadd, 1) := by decide +kernel
theorem dX10_removeItem_51 : decode cX10_removeItem 51 = .ok (.invokevirtual 26, 3) := by decide +kernel
theorem dX10_removeItem_54 : decode cX10_removeItem 54 = .ok (.invokevirtual 79, 3) := by decide +kernel
theorem dX10_removeItem_57 : decode cX10_removeItem 57 = .ok (.iinc 4 1, 3) := by decide +kernel
theorem dX10_removeItem_60 : decode cX10_removeItem 60 = .ok (.goto (-31), 3) := by decide +kernel
theorem dX10_removeItem_63 : decode cX10_removeItem 63 = .ok (.aload_n 0, 1) := by decide +kernel
theorem dX10_removeItem_64 : decode cX10_removeItem 64 = .ok (.iload_n 1, 1) := by decide +kernel
theorem dX10_removeItem_65 : decode cX10_removeItem 65 = .ok (.iconst 3, 1) := by decide +kernel
theorem dX10_removeItem_66 : decode cX10_removeItem 66 = .ok (.iload_n 3, 1) := by decide +kernel
theorem dX10_removeItem_67 : decode cX10_removeItem 67 = .ok (.invokevirtual 79, 3) := by decide +kernel
theorem dX10_removeItem_70 : decode cX10_removeItem 70 = .ok (.aload_n 0, 1) := by decide +kernel
theorem dX10_removeItem_71 : decode cX10_removeItem 71 = .ok (.getfield 7, 3) := by decide +kernel
theorem dX10_removeItem_74 : decode cX10_removeItem 74 = .ok (.bipush 29, 2) := by decide +kernel
theorem dX10_removeItem_76 : decode cX10_removeItem 76 = .ok (.iaload, 1) := by decide +kernel
theorem dX10_removeItem_77 : decode cX10_removeItem 77 = .ok (.iconst 1, 1) := by decide +kernel
theorem dX10_removeItem_78 : decode cX10_removeItem 78 = .ok (.if_icmp .ne 41, 3) := by decide +kernel
theorem dX10_removeItem_81 : decode cX10_removeItem 81 = .ok (.aload_n 0, 1) := by decide +kernel
theorem dX10_removeItem_82 : decode cX10_removeItem 82 = .ok (.getfield 7, 3) := by decide +kernel
theorem dX10_removeItem_85 : decode cX10_removeItem 85 = .ok (.bipush 30, 2) := by decide +kernel
theorem dX10_removeItem_87 : decode cX10_removeItem 87 = .ok (.iaload, 1) := by decide +kernel
theorem dX10_removeItem_88 : decode cX10_removeItem 88 = .ok (.iload_n 1, 1) := by decide +kernel
theorem dX10_removeItem_89 : decode cX10_removeItem 89 = .ok (.if_icmp .ne 30, 3) := by decide +kernel
theorem dX10_removeItem_92 : decode cX10_removeItem 92 = .ok (.aload_n 0, 1) := by decide +kernel
theorem dX10_removeItem_93 : decode cX10_removeItem 93 = .ok (.getfield 7, 3) := by decide +kernel
theorem dX10_removeItem_96 : decode cX10_removeItem 96 = .ok (.bipush 31, 2) := by decide +kernel
theorem dX10_removeItem_98 : decode cX10_removeItem 98 = .ok (.iaload, 1) := by decide +kernel
theorem dX10_removeItem_99 : decode cX10_removeItem 99 = .ok (.aload_n 0, 1) := by decide +kernel
theorem dX10_removeItem_100 : decode cX10_removeItem 100 = .ok (.iload_n 1, 1) := by decide +kernel
theorem dX10_removeItem_101 : decode cX10_removeItem 101 = .ok (.invokevirtual 48, 3) := by decide +kernel
theorem dX10_removeItem_104 : decode cX10_removeItem 104 = .ok (.if_icmp .le 15, 3) := by decide +kernel
theorem dX10_removeItem_107 : decode cX10_removeItem 107 = .ok (.aload_n 0, 1) := by decide +kernel
theorem dX10_removeItem_108 : decode cX10_removeItem 108 = .ok (.getfield 7, 3) := by decide +kernel
theorem dX10_removeItem_111 : decode cX10_removeItem 111 = .ok (.bipush 31, 2) := by decide +kernel
theorem dX10_removeItem_113 : decode cX10_removeItem 113 = .ok (.aload_n 0, 1) := by decide +kernel
theorem dX10_removeItem_114 : decode cX10_removeItem 114 = .ok (.iload_n 1, 1) := by decide +kernel
theorem dX10_removeItem_115 : decode cX10_removeItem 115 = .ok (.invokevirtual 48, 3) := by decide +kernel
theorem dX10_removeItem_118 : decode cX10_removeItem 118 = .ok (.iastore, 1) := by decide +kernel
theorem dX10_removeItem_119 : decode cX10_removeItem 119 = .ok (.iload_n 3, 1) := by decide +kernel
theorem dX10_removeItem_120 : decode cX10_removeItem 120 = .ok (.ireturn, 1) := by decide +kernel
theorem dX10_link_0 : decode cX10_link 0 = .ok (.aload_n 0, 1) := by decide +kernel
theorem dX10_link_1 : decode cX10_link 1 = .ok (.iload_n 1, 1) := by decide +kernel
theorem dX10_link_2 : decode cX10_link 2 = .ok (.invokevirtual 30, 3) := by decide +kernel
theorem dX10_link_5 : decode cX10_link 5 = .ok (.ifCond .eq 11, 3) := by decide +kernel
theorem dX10_link_8 : decode cX10_link 8 = .ok (.aload_n 0, 1) := by decide +kernel
theorem dX10_link_9 : decode cX10_link 9 = .ok (.iload_n 3, 1) := by decide +kernel
theorem dX10_link_10 : decode cX10_link 10 = .ok (.invokevirtual 30, 3) := by decide +kernel
theorem dX10_link_13 : decode cX10_link 13 = .ok (.ifCond .ne 5, 3) := by decide +kernel
theorem dX10_link_16 : decode cX10_link 16 = .ok (.iconst (-1), 1) := by decide +kernel
theorem dX10_link_17 : decode cX10_link 17 = .ok (.ireturn, 1) := by decide +kernel
theorem dX10_link_18 : decode cX10_link 18 = .ok (.aload_n 0, 1) := by decide +kernel
theorem dX10_link_19 : decode cX10_link 19 = .ok (.iload_n 2, 1) := by decide +kernel
theorem dX10_link_20 : decode cX10_link 20 = .ok (.invokevirtual 89, 3) := by decide +kernel
theorem dX10_link_23 : decode cX10_link 23 = .ok (.ifCond .ne 6, 3) := by decide +kernel
theorem dX10_link_26 : decode cX10_link 26 = .ok (.bipush (-2), 2) := by decide +kernel
theorem dX10_link_28 : decode cX10_link 28 = .ok (.ireturn, 1) := by decide +kernel
theorem dX10_link_29 : decode cX10_link 29 = .ok (.aload_n 0, 1) := by decide +kernel
theorem dX10_link_30 : decode cX10_link 30 = .ok (.iload_n 1, 1) := by decide +kernel
theorem dX10_link_31 : decode cX10_link 31 = .ok (.bipush 22, 2) := by decide +kernel
theorem dX10_link_33 : decode cX10_link 33 = .ok (.iload_n 2, 1) := by decide +kernel
theorem dX10_link_34 : decode cX10_link 34 = .ok (.iadd, 1) := by decide +kernel
theorem dX10_link_35 : decode cX10_link 35 = .ok (.invokevirtual 26, 3) := by decide +kernel
theorem dX10_link_38 : decode cX10_link 38 = .ok (.bipush (-6), 2) := by decide +kernel
theorem dX10_link_40 : decode cX10_link 40 = .ok (.if_icmp .ne 15, 3) := by decide +kernel
theorem dX10_link_43 : decode cX10_link 43 = .ok (.aload_n 0, 1) := by decide +kernel
theorem dX10_link_44 : decode cX10_link 44 = .ok (.iload_n 1, 1) := by decide +kernel
theorem dX10_link_45 : decode cX10_link 45 = .ok (.invokevirtual 92, 3) := by decide +kernel
theorem dX10_link_48 : decode cX10_link 48 = .ok (.iconst 3, 1) := by decide +kernel
theorem dX10_link_49 : decode cX10_link 49 = .ok (.if_icmp .ne 6, 3) := by decide +kernel
theorem dX10_link_52 : decode cX10_link 52 = .ok (.bipush (-4), 2) := by decide +kernel
theorem dX10_link_54 : decode cX10_link 54 = .ok (.ireturn, 1) := by decide +kernel
theorem dX10_link_55 : decode cX10_link 55 = .ok (.aload_n 0, 1) := by decide +kernel
theorem dX10_link_56 : decode cX10_link 56 = .ok (.invokevirtual 76, 3) := by decide +kernel
theorem dX10_link_59 : decode cX10_link 59 = .ok (.aload_n 0, 1) := by decide +kernel
theorem dX10_link_60 : decode cX10_link 60 = .ok (.iload_n 1, 1) := by decide +kernel
theorem dX10_link_61 : decode cX10_link 61 = .ok (.bipush 22, 2) := by decide +kernel
theorem dX10_link_63 : decode cX10_link 63 = .ok (.iload_n 2, 1) := by decide +kernel
theorem dX10_link_64 : decode cX10_link 64 = .ok (.iadd, 1) := by decide +kernel
theorem dX10_link_65 : decode cX10_link 65 = .ok (.iload_n 3, 1) := by decide +kernel
theorem dX10_link_66 : decode cX10_link 66 = .ok (.invokevirtual 79, 3) := by decide +kernel
theorem dX10_link_69 : decode cX10_link 69 = .ok (.aload_n 0, 1) := by decide +kernel
theorem dX10_link_70 : decode cX10_link 70 = .ok (.iload_n 1, 1) := by decide +kernel
theorem dX10_link_71 : decode cX10_link 71 = .ok (.invokevirtual 92, 3) := by decide +kernel
theorem dX10_link_74 : decode cX10_link 74 = .ok (.ireturn, 1) := by decide +kernel
theorem dX10_unlink_0 : decode cX10_unlink 0 = .ok (.aload_n 0, 1) := by decide +kernel
theorem dX10_unlink_1 : decode cX10_unlink 1 = .ok (.iload_n 1, 1) := by decide +kernel
theorem dX10_unlink_2 : decode cX10_unlink 2 = .ok (.invokevirtual 30, 3) := by decide +kernel
theorem dX10_unlink_5 : decode cX10_unlink 5 = .ok (.ifCond .eq 25, 3) := by decide +kernel
theorem dX10_unlink_8 : decode cX10_unlink 8 = .ok (.aload_n 0, 1) := by decide +kernel
theorem dX10_unlink_9 : decode cX10_unlink 9 = .ok (.iload_n 2, 1) := by decide +kernel
theorem dX10_unlink_10 : decode cX10_unlink 10 = .ok (.invokevirtual 89, 3) := by decide +kernel
theorem dX10_unlink_13 : decode cX10_unlink 13 = .ok (.ifCond .eq 17, 3) := by decide +kernel
theorem dX10_unlink_16 : decode cX10_unlink 16 = .ok (.aload_n 0, 1) := by decide +kernel
theorem dX10_unlink_17 : decode cX10_unlink 17 = .ok (.iload_n 1, 1) := by decide +kernel
theorem dX10_unlink_18 : decode cX10_unlink 18 = .ok (.bipush 22, 2) := by decide +kernel
theorem dX10_unlink_20 : decode cX10_unlink 20 = .ok (.iload_n 2, 1) := by decide +kernel
theorem dX10_unlink_21 : decode cX10_unlink 21 = .ok (.iadd, 1) := by decide +kernel
theorem dX10_unlink_22 : decode cX10_unlink 22 = .ok (.invokevirtual 26, 3) := by decide +kernel
theorem dX10_unlink_25 : decode cX10_unlink 25 = .ok (.bipush (-6), 2) := by decide +kernel
theorem dX10_unlink_27 : decode cX10_unlink 27 = .ok (.if_icmp .ne 5, 3) := by decide +kernel
theorem dX10_unlink_30 : decode cX10_unlink 30 = .ok (.iconst (-1), 1) := by decide +kernel
theorem dX10_unlink_31 : decode cX10_unlink 31 = .ok (.ireturn, 1) := by decide +kernel
theorem dX10_unlink_32 : decode cX10_unlink 32 = .ok (.aload_n 0, 1) := by decide +kernel
theorem dX10_unlink_33 : decode cX10_unlink 33 = .ok (.invokevirtual 76, 3) := by decide +kernel
theorem dX10_unlink_36 : decode cX10_unlink 36 = .ok (.aload_n 0, 1) := by decide +kernel
theorem dX10_unlink_37 : decode cX10_unlink 37 = .ok (.iload_n 1, 1) := by decide +kernel
theorem dX10_unlink_38 : decode cX10_unlink 38 = .ok (.bipush 22, 2) := by decide +kernel
theorem dX10_unlink_40 : decode cX10_unlink 40 = .ok (.iload_n 2, 1) := by decide +kernel
theorem dX10_unlink_41 : decode cX10_unlink 41 = .ok (.iadd, 1) := by decide +kernel
theorem dX10_unlink_42 : decode cX10_unlink 42 = .ok (.bipush (-6), 2) := by decide +kernel
theorem dX10_unlink_44 : decode cX10_unlink 44 = .ok (.invokevirtual 79, 3) := by decide +kernel
theorem dX10_unlink_47 : decode cX10_unlink 47 = .ok (.aload_n 0, 1) := by decide +kernel
theorem dX10_unlink_48 : decode cX10_unlink 48 = .ok (.iload_n 1, 1) := by decide +kernel
theorem dX10_unlink_49 : decode cX10_unlink 49 = .ok (.invokevirtual 92, 3) := by decide +kernel
theorem dX10_unlink_52 : decode cX10_unlink 52 = .ok (.ireturn, 1) := by decide +kernel
theorem dX10_notePlace_0 : decode cX10_notePlace 0 = .ok (.iconst 0, 1) := by decide +kernel
theorem dX10_notePlace_1 : decode cX10_notePlace 1 = .ok (.istore_n 2, 1) := by decide +kernel
theorem dX10_notePlace_2 : decode cX10_notePlace 2 = .ok (.iload_n 2, 1) := by decide +kernel
theorem dX10_notePlace_3 : decode cX10_notePlace 3 = .ok (.aload_n 0, 1) := by decide +kernel
theorem dX10_notePlace_4 : decode cX10_notePlace 4 = .ok (.getfield 7, 3) := by decide +kernel
theorem dX10_notePlace_7 : decode cX10_notePlace 7 = .ok (.bipush 11, 2) := by decide +kernel
theorem dX10_notePlace_9 : decode cX10_notePlace 9 = .ok (.iaload, 1) := by decide +kernel
theorem dX10_notePlace_10 : decode cX10_notePlace 10 = .ok (.if_icmp .ge 26, 3) := by decide +kernel
theorem dX10_notePlace_13 : decode cX10_notePlace 13 = .ok (.aload_n 0, 1) := by decide +kernel
theorem dX10_notePlace_14 : decode cX10_notePlace 14 = .ok (.getfield 7, 3) := by decide +kernel
theorem dX10_notePlace_17 : decode cX10_notePlace 17 = .ok (.bipush 12, 2) := by decide +kernel
theorem dX10_notePlace_19 : decode cX10_notePlace 19 = .ok (.iconst 2, 1) := by decide +kernel
theorem dX10_notePlace_20 : decode cX10_notePlace 20 = .ok (.iload_n 2, 1) := by decide +kernel
theorem dX10_notePlace_21 : decode cX10_notePlace 21 = .ok (.imul, 1) := by decide +kernel
theorem dX10_notePlace_22 : decode cX10_notePlace 22 = .ok (.iadd, 1) := by decide +kernel
theorem dX10_notePlace_23 : decode cX10_notePlace 23 = .ok (.iaload, 1) := by decide +kernel
theorem dX10_notePlace_24 : decode cX10_notePlace 24 = .ok (.iload_n 1, 1) := by decide +kernel
theorem dX10_notePlace_25 : decode cX10_notePlace 25 = .ok (.if_icmp .ne 5, 3) := by decide +kernel
theorem dX10_notePlace_28 : decode cX10_notePlace 28 = .ok (.iload_n 2, 1) := by decide +kernel
theorem dX10_notePlace_29 : decode cX10_notePlace 29 = .ok (.ireturn, 1) := by decide +kernel
theorem dX10_notePlace_30 : decode cX10_notePlace 30 = .ok (.iinc 2 1, 3) := by decide +kernel
theorem dX10_notePlace_33 : decode cX10_notePlace 33 = .ok (.goto (-31), 3) := by decide +kernel
theorem dX10_notePlace_36 : decode cX10_notePlace 36 = .ok (.bipush (-6), 2) := by decide +kernel
theorem dX10_notePlace_38 : decode cX10_notePlace 38 = .ok (.ireturn, 1) := by decide +kernel
theorem dX10_note_0 : decode cX10_note 0 = .ok (.iload_n 1, 1) := by decide +kernel
theorem dX10_note_1 : decode cX10_note 1 = .ok (.iconst 0, 1) := by decide +kernel
theorem dX10_note_2 : decode cX10_note 2 = .ok (.sipush 9999, 3) := by decide +kernel
theorem dX10_note_5 : decode cX10_note 5 = .ok (.invokestatic 22, 3) := by decide +kernel
theorem dX10_note_8 : decode cX10_note 8 = .ok (.ifCond .eq 13, 3) := by decide +kernel
theorem dX10_note_11 : decode cX10_note 11 = .ok (.iload_n 2, 1) := by decide +kernel
theorem dX10_note_12 : decode cX10_note 12 = .ok (.iconst (-1), 1) := by decide +kernel
theorem dX10_note_13 : decode cX10_note 13 = .ok (.bipush 99, 2) := by decide +kernel
theorem dX10_note_15 : decode cX10_note 15 = .ok (.invokestatic 22, 3) := by decide +kernel
theorem dX10_note_18 : decode cX10_note 18 = .ok (.ifCond .ne 6, 3) := by decide +kernel
theorem dX10_note_21 : decode cX10_note 21 = .ok (.bipush (-2), 2) := by decide +kernel
theorem dX10_note_23 : decode cX10_note 23 = .ok (.ireturn, 1) := by decide +kernel
theorem dX10_note_24 : decode cX10_note 24 = .ok (.aload_n 0, 1) := by decide +kernel
theorem dX10_note_25 : decode cX10_note 25 = .ok (.iload_n 1, 1) := by decide +kernel
theorem dX10_note_26 : decode cX10_note 26 = .ok (.invokevirtual 95, 3) := by decide +kernel
theorem dX10_note_29 : decode cX10_note 29 = .ok (.istore_n 3, 1) := by decide +kernel
theorem dX10_note_30 : decode cX10_note 30 = .ok (.iload_n 2, 1) := by decide +kernel
theorem dX10_note_31 : decode cX10_note 31 = .ok (.iconst (-1), 1) := by decide +kernel
theorem dX10_note_32 : decode cX10_note 32 = .ok (.if_icmp .ne 11, 3) := by decide +kernel
theorem dX10_note_35 : decode cX10_note 35 = .ok (.iload_n 3, 1) := by decide +kernel
theorem dX10_note_36 : decode cX10_note 36 = .ok (.bipush (-6), 2) := by decide +kernel
theorem dX10_note_38 : decode cX10_note 38 = .ok (.if_icmp .ne 5, 3) := by decide +kernel
theorem dX10_note_41 : decode cX10_note 41 = .ok (.iconst (-1), 1) := by decide +kernel
theorem dX10_note_42 : decode cX10_note 42 = .ok (.ireturn, 1) := by decide +kernel
theorem dX10_note_43 : decode cX10_note 43 = .ok (.iload_n 3, 1) := by decide +kernel
theorem dX10_note_44 : decode cX10_note 44 = .ok (.bipush (-6), 2) := by decide +kernel
theorem dX10_note_46 : decode cX10_note 46 = .ok (.if_icmp .ne 18, 3) := by decide +kernel
theorem dX10_note_49 : decode cX10_note 49 = .ok (.aload_n 0, 1) := by decide +kernel
theorem dX10_note_50 : decode cX10_note 50 = .ok (.getfield 7, 3) := by decide +kernel
theorem dX10_note_53 : decode cX10_note 53 = .ok (.bipush 11, 2) := by decide +kernel
theorem dX10_note_55 : decode cX10_note 55 = .ok (.iaload, 1) := by decide +kernel
theorem dX10_note_56 : decode cX10_note 56 = .ok (.bipush 8, 2) := by decide +kernel
theorem dX10_note_58 : decode cX10_note 58 = .ok (.if_icmp .ne 6, 3) := by decide +kernel
theorem dX10_note_61 : decode cX10_note 61 = .ok (.bipush (-4), 2) := by decide +kernel
theorem dX10_note_63 : decode cX10_note 63 = .ok (.ireturn, 1) := by decide +kernel
theorem dX10_note_64 : decode cX10_note 64 = .ok (.aload_n 0, 1) := by decide +kernel
theorem dX10_note_65 : decode cX10_note 65 = .ok (.invokevirtual 76, 3) := by decide +kernel
theorem dX10_note_68 : decode cX10_note 68 = .ok (.iload_n 2, 1) := by decide +kernel
theorem dX10_note_69 : decode cX10_note 69 = .ok (.iconst (-1), 1) := by decide +kernel
theorem dX10_note_70 : decode cX10_note 70 = .ok (.if_icmp .ne 82, 3) := by decide +kernel
theorem dX10_note_73 : decode cX10_note 73 = .ok (.aload_n 0, 1) := by decide +kernel
theorem dX10_note_74 : decode cX10_note 74 = .ok (.getfield 7, 3) := by decide +kernel
theorem dX10_note_77 : decode cX10_note 77 = .ok (.bipush 11, 2) := by decide +kernel
theorem dX10_note_79 : decode cX10_note 79 = .ok (.dup2, 1) := by decide +kernel
theorem dX10_note_80 : decode cX10_note 80 = .ok (.iaload, 1) := by decide +kernel
theorem dX10_note_81 : decode cX10_note 81 = .ok (.iconst 1, 1) := by decide +kernel
theorem dX10_note_82 : decode cX10_note 82 = .ok (.isub, 1) := by decide +kernel
theorem dX10_note_83 : decode cX10_note 83 = .ok (.iastore, 1) := by decide +kernel
theorem dX10_note_84 : decode cX10_note 84 = .ok (.aload_n 0, 1) := by decide +kernel
theorem dX10_note_85 : decode cX10_note 85 = .ok (.getfield 7, 3) := by decide +kernel
theorem dX10_note_88 : decode cX10_note 88 = .ok (.bipush 12, 2) := by decide +kernel
theorem dX10_note_90 : decode cX10_note 90 = .ok (.iconst 2, 1) := by decide +kernel
theorem dX10_note_91 : decode cX10_note 91 = .ok (.iload_n 3, 1) := by decide +kernel
theorem dX10_note_92 : decode cX10_note 92 = .ok (.imul, 1) := by decide +kernel
theorem dX10_note_93 : decode cX10_note 93 = .ok (.iadd, 1) := by decide +kernel
theorem dX10_note_94 : decode cX10_note 94 = .ok (.aload_n 0, 1) := by decide +kernel
theorem dX10_note_95 : decode cX10_note 95 = .ok (.getfield 7, 3) := by decide +kernel
theorem dX10_note_98 : decode cX10_note 98 = .ok (.bipush 12, 2) := by decide +kernel
theorem dX10_note_100 : decode cX10_note 100 = .ok (.iconst 2, 1) := by decide +kernel
theorem dX10_note_101 : decode cX10_note 101 = .ok (.aload_n 0, 1) := by decide +kernel
theorem dX10_note_102 : decode cX10_note 102 = .ok (.getfield 7, 3) := by decide +kernel
theorem dX10_note_105 : decode cX10_note 105 = .ok (.bipush 11, 2) := by decide +kernel
theorem dX10_note_107 : decode cX10_note 107 = .ok (.iaload, 1) := by decide +kernel
theorem dX10_note_108 : decode cX10_note 108 = .ok (.imul, 1) := by decide +kernel
theorem dX10_note_109 : decode cX10_note 109 = .ok (.iadd, 1) := by decide +kernel
theorem dX10_note_110 : decode cX10_note 110 = .ok (.iaload, 1) := by decide +kernel
theorem dX10_note_111 : decode cX10_note 111 = .ok (.iastore, 1) := by decide +kernel
theorem dX10_note_112 : decode cX10_note 112 = .ok (.aload_n 0, 1) := by decide +kernel
theorem dX10_note_113 : decode cX10_note 113 = .ok (.getfield 7, 3) := by decide +kernel
theorem dX10_note_116 : decode cX10_note 116 = .ok (.bipush 12, 2) := by decide +kernel
theorem dX10_note_118 : decode cX10_note 118 = .ok (.iconst 2, 1) := by decide +kernel
theorem dX10_note_119 : decode cX10_note 119 = .ok (.iload_n 3, 1) := by decide +kernel
theorem dX10_note_120 : decode cX10_note 120 = .ok (.imul, 1) := by decide +kernel
theorem dX10_note_121 : decode cX10_note 121 = .ok (.iadd, 1) := by decide +kernel
theorem dX10_note_122 : decode cX10_note 122 = .ok (.iconst 1, 1) := by decide +kernel
theorem dX10_note_123 : decode cX10_note 123 = .ok (.iadd, 1) := by decide +kernel
theorem dX10_note_124 : decode cX10_note 124 = .ok (.aload_n 0, 1) := by decide +kernel
theorem dX10_note_125 : decode cX10_note 125 = .ok (.getfield 7, 3) := by decide +kernel
theorem dX10_note_128 : decode cX10_note 128 = .ok (.bipush 12, 2) := by decide +kernel
theorem dX10_note_130 : decode cX10_note 130 = .ok (.iconst 2, 1) := by decide +kernel
theorem dX10_note_131 : decode cX10_note 131 = .ok (.aload_n 0, 1) := by decide +kernel
theorem dX10_note_132 : decode cX10_note 132 = .ok (.getfield 7, 3) := by decide +kernel
theorem dX10_note_135 : decode cX10_note 135 = .ok (.bipush 11, 2) := by decide +kernel
theorem dX10_note_137 : decode cX10_note 137 = .ok (.iaload, 1) := by decide +kernel
theorem dX10_note_138 : decode cX10_note 138 = .ok (.imul, 1) := by decide +kernel
theorem dX10_note_139 : decode cX10_note 139 = .ok (.iadd, 1) := by decide +kernel
theorem dX10_note_140 : decode cX10_note 140 = .ok (.iconst 1, 1) := by decide +kernel
theorem dX10_note_141 : decode cX10_note 141 = .ok (.iadd, 1) := by decide +kernel
theorem dX10_note_142 : decode cX10_note 142 = .ok (.iaload, 1) := by decide +kernel
theorem dX10_note_143 : decode cX10_note 143 = .ok (.iastore, 1) := by decide +kernel
theorem dX10_note_144 : decode cX10_note 144 = .ok (.aload_n 0, 1) := by decide +kernel
theorem dX10_note_145 : decode cX10_note 145 = .ok (.getfield 7, 3) := by decide +kernel
theorem dX10_note_148 : decode cX10_note 148 = .ok (.bipush 11, 2) := by decide +kernel
theorem dX10_note_150 : decode cX10_note 150 = .ok (.iaload, 1) := by decide +kernel
theorem dX10_note_151 : decode cX10_note 151 = .ok (.ireturn, 1) := by decide +kernel
theorem dX10_note_152 : decode cX10_note 152 = .ok (.iload_n 3, 1) := by decide +kernel
theorem dX10_note_153 : decode cX10_note 153 = .ok (.bipush (-6), 2) := by decide +kernel
theorem dX10_note_155 : decode cX10_note 155 = .ok (.if_icmp .ne 13, 3) := by decide +kernel
theorem dX10_note_158 : decode cX10_note 158 = .ok (.aload_n 0, 1) := by decide +kernel
theorem dX10_note_159 : decode cX10_note 159 = .ok (.getfield 7, 3) := by decide +kernel
theorem dX10_note_162 : decode cX10_note 162 = .ok (.bipush 11, 2) := by decide +kernel
theorem dX10_note_164 : decode cX10_note 164 = .ok (.iaload, 1) := by decide +kernel
theorem dX10_note_165 : decode cX10_note 165 = .ok (.goto 4, 3) := by decide +kernel
theorem dX10_note_168 : decode cX10_note 168 = .ok (.iload_n 3, 1) := by decide +kernel
theorem dX10_note_169 : decode cX10_note 169 = .ok (.istore_n 3, 1) := by decide +kernel
theorem dX10_note_170 : decode cX10_note 170 = .ok (.aload_n 0, 1) := by decide +kernel
theorem dX10_note_171 : decode cX10_note 171 = .ok (.getfield 7, 3) := by decide +kernel
theorem dX10_note_174 : decode cX10_note 174 = .ok (.bipush 11, 2) := by decide +kernel
theorem dX10_note_176 : decode cX10_note 176 = .ok (.dup2, 1) := by decide +kernel
theorem dX10_note_177 : decode cX10_note 177 = .ok (.iaload, 1) := by decide +kernel
theorem dX10_note_178 : decode cX10_note 178 = .ok (.iload_n 3, 1) := by decide +kernel
theorem dX10_note_179 : decode cX10_note 179 = .ok (.aload_n 0, 1) := by decide +kernel
theorem dX10_note_180 : decode cX10_note 180 = .ok (.getfield 7, 3) := by decide +kernel
theorem dX10_note_183 : decode cX10_note 183 = .ok (.bipush 11, 2) := by decide +kernel
theorem dX10_note_185 : decode cX10_note 185 = .ok (.iaload, 1) := by decide +kernel
theorem dX10_note_186 : decode cX10_note 186 = .ok (.if_icmp .ne 7, 3) := by decide +kernel
theorem dX10_note_189 : decode cX10_note 189 = .ok (.iconst 1, 1) := by decide +kernel
theorem dX10_note_190 : decode cX10_note 190 = .ok (.goto 4, 3) := by decide +kernel
theorem dX10_note_193 : decode cX10_note 193 = .ok (.iconst 0, 1) := by decide +kernel
theorem dX10_note_194 : decode cX10_note 194 = .ok (.iadd, 1) := by decide +kernel
theorem dX10_note_195 : decode cX10_note 195 = .ok (.iastore, 1) := by decide +kernel
theorem dX10_note_196 : decode cX10_note 196 = .ok (.aload_n 0, 1) := by decide +kernel
theorem dX10_note_197 : decode cX10_note 197 = .ok (.getfield 7, 3) := by decide +kernel
theorem dX10_note_200 : decode cX10_note 200 = .ok (.bipush 12, 2) := by decide +kernel
theorem dX10_note_202 : decode cX10_note 202 = .ok (.iconst 2, 1) := by decide +kernel
theorem dX10_note_203 : decode cX10_note 203 = .ok (.iload_n 3, 1) := by decide +kernel
theorem dX10_note_204 : decode cX10_note 204 = .ok (.imul, 1) := by decide +kernel
theorem dX10_note_205 : decode cX10_note 205 = .ok (.iadd, 1) := by decide +kernel
theorem dX10_note_206 : decode cX10_note 206 = .ok (.iload_n 1, 1) := by decide +kernel
theorem dX10_note_207 : decode cX10_note 207 = .ok (.iastore, 1) := by decide +kernel
theorem dX10_note_208 : decode cX10_note 208 = .ok (.aload_n 0, 1) := by decide +kernel
theorem dX10_note_209 : decode cX10_note 209 = .ok (.getfield 7, 3) := by decide +kernel
theorem dX10_note_212 : decode cX10_note 212 = .ok (.bipush 12, 2) := by decide +kernel
theorem dX10_note_214 : decode cX10_note 214 = .ok (.iconst 2, 1) := by decide +kernel
theorem dX10_note_215 : decode cX10_note 215 = .ok (.iload_n 3, 1) := by decide +kernel
theorem dX10_note_216 : decode cX10_note 216 = .ok (.imul, 1) := by decide +kernel
theorem dX10_note_217 : decode cX10_note 217 = .ok (.iadd, 1) := by decide +kernel
theorem dX10_note_218 : decode cX10_note 218 = .ok (.iconst 1, 1) := by decide +kernel
theorem dX10_note_219 : decode cX10_note 219 = .ok (.iadd, 1) := by decide +kernel
theorem dX10_note_220 : decode cX10_note 220 = .ok (.iload_n 2, 1) := by decide +kernel
theorem dX10_note_221 : decode cX10_note 221 = .ok (.iastore, 1) := by decide +kernel
theorem dX10_note_222 : decode cX10_note 222 = .ok (.aload_n 0, 1) := by decide +kernel
theorem dX10_note_223 : decode cX10_note 223 = .ok (.getfield 7, 3) := by decide +kernel
theorem dX10_note_226 : decode cX10_note 226 = .ok (.bipush 11, 2) := by decide +kernel
theorem dX10_note_228 : decode cX10_note 228 = .ok (.iaload, 1) := by decide +kernel
theorem dX10_note_229 : decode cX10_note 229 = .ok (.ireturn, 1) := by decide +kernel
theorem dX10_setEnd_0 : decode cX10_setEnd 0 = .ok (.iload_n 1, 1) := by decide +kernel
theorem dX10_setEnd_1 : decode cX10_setEnd 1 = .ok (.iconst 0, 1) := by decide +kernel
theorem dX10_setEnd_2 : decode cX10_setEnd 2 = .ok (.sipush 9999, 3) := by decide +kernel
theorem dX10_setEnd_5 : decode cX10_setEnd 5 = .ok (.invokestatic 22, 3) := by decide +kernel
theorem dX10_setEnd_8 : decode cX10_setEnd 8 = .ok (.ifCond .ne 6, 3) := by decide +kernel
theorem dX10_setEnd_11 : decode cX10_setEnd 11 = .ok (.bipush (-2), 2) := by decide +kernel
theorem dX10_setEnd_13 : decode cX10_setEnd 13 = .ok (.ireturn, 1) := by decide +kernel
theorem dX10_setEnd_14 : decode cX10_setEnd 14 = .ok (.aload_n 0, 1) := by decide +kernel
theorem dX10_setEnd_15 : decode cX10_setEnd 15 = .ok (.invokevirtual 76, 3) := by decide +kernel
theorem dX10_setEnd_18 : decode cX10_setEnd 18 = .ok (.aload_n 0, 1) := by decide +kernel
theorem dX10_setEnd_19 : decode cX10_setEnd 19 = .ok (.getfield 7, 3) := by decide +kernel
theorem dX10_setEnd_22 : decode cX10_setEnd 22 = .ok (.bipush 28, 2) := by decide +kernel
theorem dX10_setEnd_24 : decode cX10_setEnd 24 = .ok (.iaload, 1) := by decide +kernel
theorem dX10_setEnd_25 : decode cX10_setEnd 25 = .ok (.istore_n 2, 1) := by decide +kernel
theorem dX10_setEnd_26 : decode cX10_setEnd 26 = .ok (.aload_n 0, 1) := by decide +kernel
theorem dX10_setEnd_27 : decode cX10_setEnd 27 = .ok (.getfield 7, 3) := by decide +kernel
theorem dX10_setEnd_30 : decode cX10_setEnd 30 = .ok (.bipush 28, 2) := by decide +kernel
theorem dX10_setEnd_32 : decode cX10_setEnd 32 = .ok (.iload_n 1, 1) := by decide +kernel
theorem dX10_setEnd_33 : decode cX10_setEnd 33 = .ok (.iastore, 1) := by decide +kernel
theorem dX10_setEnd_34 : decode cX10_setEnd 34 = .ok (.iload_n 2, 1) := by decide +kernel
theorem dX10_setEnd_35 : decode cX10_setEnd 35 = .ok (.ireturn, 1) := by decide +kernel
theorem dX10_start_0 : decode cX10_start 0 = .ok (.aload_n 0, 1) := by decide +kernel
theorem dX10_start_1 : decode cX10_start 1 = .ok (.iconst 0, 1) := by decide +kernel
theorem dX10_start_2 : decode cX10_start 2 = .ok (.invokevirtual 41, 3) := by decide +kernel
theorem dX10_start_5 : decode cX10_start 5 = .ok (.istore_n 1, 1) := by decide +kernel
theorem dX10_start_6 : decode cX10_start 6 = .ok (.iload_n 1, 1) := by decide +kernel
theorem dX10_start_7 : decode cX10_start 7 = .ok (.bipush (-6), 2) := by decide +kernel
theorem dX10_start_9 : decode cX10_start 9 = .ok (.if_icmp .ne 6, 3) := by decide +kernel
theorem dX10_start_12 : decode cX10_start 12 = .ok (.bipush (-5), 2) := by decide +kernel
theorem dX10_start_14 : decode cX10_start 14 = .ok (.ireturn, 1) := by decide +kernel
theorem dX10_start_15 : decode cX10_start 15 = .ok (.aload_n 0, 1) := by decide +kernel
theorem dX10_start_16 : decode cX10_start 16 = .ok (.invokevirtual 76, 3) := by decide +kernel
theorem dX10_start_19 : decode cX10_start 19 = .ok (.aload_n 0, 1) := by decide +kernel
theorem dX10_start_20 : decode cX10_start 20 = .ok (.getfield 7, 3) := by decide +kernel
theorem dX10_start_23 : decode cX10_start 23 = .ok (.bipush 29, 2) := by decide +kernel
theorem dX10_start_25 : decode cX10_start 25 = .ok (.iconst 1, 1) := by decide +kernel
theorem dX10_start_26 : decode cX10_start 26 = .ok (.iastore, 1) := by decide +kernel
theorem dX10_start_27 : decode cX10_start 27 = .ok (.aload_n 0, 1) := by decide +kernel
theorem dX10_start_28 : decode cX10_start 28 = .ok (.getfield 7, 3) := by decide +kernel
theorem dX10_start_31 : decode cX10_start 31 = .ok (.bipush 30, 2) := by decide +kernel
theorem dX10_start_33 : decode cX10_start 33 = .ok (.iload_n 1, 1) := by decide +kernel
theorem dX10_start_34 : decode cX10_start 34 = .ok (.iastore, 1) := by decide +kernel
theorem dX10_start_35 : decode cX10_start 35 = .ok (.aload_n 0, 1) := by decide +kernel
theorem dX10_start_36 : decode cX10_start 36 = .ok (.getfield 7, 3) := by decide +kernel
theorem dX10_start_39 : decode cX10_start 39 = .ok (.bipush 31, 2) := by decide +kernel
theorem dX10_start_41 : decode cX10_start 41 = .ok (.iconst 0, 1) := by decide +kernel
theorem dX10_start_42 : decode cX10_start 42 = .ok (.iastore, 1) := by decide +kernel
theorem dX10_start_43 : decode cX10_start 43 = .ok (.aload_n 0, 1) := by decide +kernel
theorem dX10_start_44 : decode cX10_start 44 = .ok (.getfield 7, 3) := by decide +kernel
theorem dX10_start_47 : decode cX10_start 47 = .ok (.bipush 32, 2) := by decide +kernel
theorem dX10_start_49 : decode cX10_start 49 = .ok (.iconst 0, 1) := by decide +kernel
theorem dX10_start_50 : decode cX10_start 50 = .ok (.iastore, 1) := by decide +kernel
theorem dX10_start_51 : decode cX10_start 51 = .ok (.aload_n 0, 1) := by decide +kernel
theorem dX10_start_52 : decode cX10_start 52 = .ok (.getfield 7, 3) := by decide +kernel
theorem dX10_start_55 : decode cX10_start 55 = .ok (.bipush 33, 2) := by decide +kernel
theorem dX10_start_57 : decode cX10_start 57 = .ok (.iconst 0, 1) := by decide +kernel
theorem dX10_start_58 : decode cX10_start 58 = .ok (.iastore, 1) := by decide +kernel
theorem dX10_start_59 : decode cX10_start 59 = .ok (.aload_n 0, 1) := by decide +kernel
theorem dX10_start_60 : decode cX10_start 60 = .ok (.getfield 7, 3) := by decide +kernel
theorem dX10_start_63 : decode cX10_start 63 = .ok (.bipush 34, 2) := by decide +kernel
theorem dX10_start_65 : decode cX10_start 65 = .ok (.iconst 0, 1) := by decide +kernel
theorem dX10_start_66 : decode cX10_start 66 = .ok (.iastore, 1) := by decide +kernel
theorem dX10_start_67 : decode cX10_start 67 = .ok (.aload_n 0, 1) := by decide +kernel
theorem dX10_start_68 : decode cX10_start 68 = .ok (.getfield 7, 3) := by decide +kernel
theorem dX10_start_71 : decode cX10_start 71 = .ok (.bipush 35, 2) := by decide +kernel
theorem dX10_start_73 : decode cX10_start 73 = .ok (.iconst 0, 1) := by decide +kernel
theorem dX10_start_74 : decode cX10_start 74 = .ok (.iastore, 1) := by decide +kernel
theorem dX10_start_75 : decode cX10_start 75 = .ok (.iload_n 1, 1) := by decide +kernel
theorem dX10_start_76 : decode cX10_start 76 = .ok (.ireturn, 1) := by decide +kernel
theorem dX10_stop_0 : decode cX10_stop 0 = .ok (.aload_n 0, 1) := by decide +kernel
theorem dX10_stop_1 : decode cX10_stop 1 = .ok (.getfield 7, 3) := by decide +kernel
theorem dX10_stop_4 : decode cX10_stop 4 = .ok (.bipush 29, 2) := by decide +kernel
theorem dX10_stop_6 : decode cX10_stop 6 = .ok (.iaload, 1) := by decide +kernel
theorem dX10_stop_7 : decode cX10_stop 7 = .ok (.ifCond .ne 6, 3) := by decide +kernel
theorem dX10_stop_10 : decode cX10_stop 10 = .ok (.bipush (-5), 2) := by decide +kernel
theorem dX10_stop_12 : decode cX10_stop 12 = .ok (.ireturn, 1) := by decide +kernel
theorem dX10_stop_13 : decode cX10_stop 13 = .ok (.aload_n 0, 1) := by decide +kernel
theorem dX10_stop_14 : decode cX10_stop 14 = .ok (.invokevirtual 76, 3) := by decide +kernel
theorem dX10_stop_17 : decode cX10_stop 17 = .ok (.aload_n 0, 1) := by decide +kernel
theorem dX10_stop_18 : decode cX10_stop 18 = .ok (.getfield 7, 3) := by decide +kernel
theorem dX10_stop_21 : decode cX10_stop 21 = .ok (.bipush 29, 2) := by decide +kernel
theorem dX10_stop_23 : decode cX10_stop 23 = .ok (.iconst 0, 1) := by decide +kernel
theorem dX10_stop_24 : decode cX10_stop 24 = .ok (.iastore, 1) := by decide +kernel
theorem dX10_stop_25 : decode cX10_stop 25 = .ok (.aload_n 0, 1) := by decide +kernel
theorem dX10_stop_26 : decode cX10_stop 26 = .ok (.getfield 7, 3) := by decide +kernel
theorem dX10_stop_29 : decode cX10_stop 29 = .ok (.bipush 32, 2) := by decide +kernel
theorem dX10_stop_31 : decode cX10_stop 31 = .ok (.iaload, 1) := by decide +kernel
theorem dX10_stop_32 : decode cX10_stop 32 = .ok (.ireturn, 1) := by decide +kernel
theorem dX10_forward_0 : decode cX10_forward 0 = .ok (.aload_n 0, 1) := by decide +kernel
theorem dX10_forward_1 : decode cX10_forward 1 = .ok (.invokevirtual 98, 3) := by decide +kernel
theorem dX10_forward_4 : decode cX10_forward 4 = .ok (.ifCond .eq 10, 3) := by decide +kernel
theorem dX10_forward_7 : decode cX10_forward 7 = .ok (.aload_n 0, 1) := by decide +kernel
theorem dX10_forward_8 : decode cX10_forward 8 = .ok (.invokevirtual 62, 3) := by decide +kernel
theorem dX10_forward_11 : decode cX10_forward 11 = .ok (.ifCond .ne 6, 3) := by decide +kernel
theorem dX10_forward_14 : decode cX10_forward 14 = .ok (.bipush (-5), 2) := by decide +kernel
theorem dX10_forward_16 : decode cX10_forward 16 = .ok (.ireturn, 1) := by decide +kernel
theorem dX10_forward_17 : decode cX10_forward 17 = .ok (.aload_n 0, 1) := by decide +kernel
theorem dX10_forward_18 : decode cX10_forward 18 = .ok (.invokevirtual 76, 3) := by decide +kernel
theorem dX10_forward_21 : decode cX10_forward 21 = .ok (.aload_n 0, 1) := by decide +kernel
theorem dX10_forward_22 : decode cX10_forward 22 = .ok (.invokevirtual 65, 3) := by decide +kernel
theorem dX10_forward_25 : decode cX10_forward 25 = .ok (.ireturn, 1) := by decide +kernel
theorem dX10_back_0 : decode cX10_back 0 = .ok (.aload_n 0, 1) := by decide +kernel
theorem dX10_back_1 : decode cX10_back 1 = .ok (.invokevirtual 98, 3) := by decide +kernel
theorem dX10_back_4 : decode cX10_back 4 = .ok (.ifCond .eq 12, 3) := by decide +kernel
theorem dX10_back_7 : decode cX10_back 7 = .ok (.aload_n 0, 1) := by decide +kernel
theorem dX10_back_8 : decode cX10_back 8 = .ok (.invokevirtual 58, 3) := by decide +kernel
theorem dX10_back_11 : decode cX10_back 11 = .ok (.bipush (-6), 2) := by decide +kernel
theorem dX10_back_13 : decode cX10_back 13 = .ok (.if_icmp .ne 6, 3) := by decide +kernel
theorem dX10_back_16 : decode cX10_back 16 = .ok (.bipush (-5), 2) := by decide +kernel
theorem dX10_back_18 : decode cX10_back 18 = .ok (.ireturn, 1) := by decide +kernel
theorem dX10_back_19 : decode cX10_back 19 = .ok (.aload_n 0, 1) := by decide +kernel
theorem dX10_back_20 : decode cX10_back 20 = .ok (.invokevirtual 76, 3) := by decide +kernel
theorem dX10_back_23 : decode cX10_back 23 = .ok (.aload_n 0, 1) := by decide +kernel
theorem dX10_back_24 : decode cX10_back 24 = .ok (.invokevirtual 101, 3) := by decide +kernel
theorem dX10_back_27 : decode cX10_back 27 = .ok (.ireturn, 1) := by decide +kernel
theorem dX10_press_0 : decode cX10_press 0 = .ok (.aload_n 0, 1) := by decide +kernel
theorem dX10_press_1 : decode cX10_press 1 = .ok (.iload_n 1, 1) := by decide +kernel
theorem dX10_press_2 : decode cX10_press 2 = .ok (.invokevirtual 89, 3) := by decide +kernel
theorem dX10_press_5 : decode cX10_press 5 = .ok (.ifCond .ne 6, 3) := by decide +kernel
theorem dX10_press_8 : decode cX10_press 8 = .ok (.bipush (-2), 2) := by decide +kernel
theorem dX10_press_10 : decode cX10_press 10 = .ok (.ireturn, 1) := by decide +kernel
theorem dX10_press_11 : decode cX10_press 11 = .ok (.aload_n 0, 1) := by decide +kernel
theorem dX10_press_12 : decode cX10_press 12 = .ok (.invokevirtual 98, 3) := by decide +kernel
theorem dX10_press_15 : decode cX10_press 15 = .ok (.ifCond .eq 11, 3) := by decide +kernel
theorem dX10_press_18 : decode cX10_press 18 = .ok (.aload_n 0, 1) := by decide +kernel
theorem dX10_press_19 : decode cX10_press 19 = .ok (.iload_n 1, 1) := by decide +kernel
theorem dX10_press_20 : decode cX10_press 20 = .ok (.invokevirtual 104, 3) := by decide +kernel
theorem dX10_press_23 : decode cX10_press 23 = .ok (.ifCond .ne 6, 3) := by decide +kernel
theorem dX10_press_26 : decode cX10_press 26 = .ok (.bipush (-5), 2) := by decide +kernel
theorem dX10_press_28 : decode cX10_press 28 = .ok (.ireturn, 1) := by decide +kernel
theorem dX10_press_29 : decode cX10_press 29 = .ok (.aload_n 0, 1) := by decide +kernel
theorem dX10_press_30 : decode cX10_press 30 = .ok (.invokevirtual 76, 3) := by decide +kernel
theorem dX10_press_33 : decode cX10_press 33 = .ok (.aload_n 0, 1) := by decide +kernel
theorem dX10_press_34 : decode cX10_press 34 = .ok (.iload_n 1, 1) := by decide +kernel
theorem dX10_press_35 : decode cX10_press 35 = .ok (.invokevirtual 107, 3) := by decide +kernel
theorem dX10_press_38 : decode cX10_press 38 = .ok (.ireturn, 1) := by decide +kernel
theorem dX10_tick_0 : decode cX10_tick 0 = .ok (.iload_n 1, 1) := by decide +kernel
theorem dX10_tick_1 : decode cX10_tick 1 = .ok (.iconst 1, 1) := by decide +kernel
theorem dX10_tick_2 : decode cX10_tick 2 = .ok (.bipush 99, 2) := by decide +kernel
theorem dX10_tick_4 : decode cX10_tick 4 = .ok (.invokestatic 22, 3) := by decide +kernel
theorem dX10_tick_7 : decode cX10_tick 7 = .ok (.ifCond .ne 6, 3) := by decide +kernel
theorem dX10_tick_10 : decode cX10_tick 10 = .ok (.bipush (-2), 2) := by decide +kernel
theorem dX10_tick_12 : decode cX10_tick 12 = .ok (.ireturn, 1) := by decide +kernel
theorem dX10_tick_13 : decode cX10_tick 13 = .ok (.aload_n 0, 1) := by decide +kernel
theorem dX10_tick_14 : decode cX10_tick 14 = .ok (.invokevirtual 98, 3) := by decide +kernel
theorem dX10_tick_17 : decode cX10_tick 17 = .ok (.ifCond .ne 6, 3) := by decide +kernel
theorem dX10_tick_20 : decode cX10_tick 20 = .ok (.bipush (-5), 2) := by decide +kernel
theorem dX10_tick_22 : decode cX10_tick 22 = .ok (.ireturn, 1) := by decide +kernel
theorem dX10_tick_23 : decode cX10_tick 23 = .ok (.aload_n 0, 1) := by decide +kernel
theorem dX10_tick_24 : decode cX10_tick 24 = .ok (.invokevirtual 76, 3) := by decide +kernel
theorem dX10_tick_27 : decode cX10_tick 27 = .ok (.aload_n 0, 1) := by decide +kernel
theorem dX10_tick_28 : decode cX10_tick 28 = .ok (.iload_n 1, 1) := by decide +kernel
theorem dX10_tick_29 : decode cX10_tick 29 = .ok (.invokevirtual 110, 3) := by decide +kernel
theorem dX10_tick_32 : decode cX10_tick 32 = .ok (.ireturn, 1) := by decide +kernel
theorem dX10_append_0 : decode cX10_append 0 = .ok (.iload_n 1, 1) := by decide +kernel
theorem dX10_append_1 : decode cX10_append 1 = .ok (.bipush 32, 2) := by decide +kernel
theorem dX10_append_3 : decode cX10_append 3 = .ok (.bipush 126, 2) := by decide +kernel
theorem dX10_append_5 : decode cX10_append 5 = .ok (.invokestatic 22, 3) := by decide +kernel
theorem dX10_append_8 : decode cX10_append 8 = .ok (.ifCond .ne 6, 3) := by decide +kernel
theorem dX10_append_11 : decode cX10_append 11 = .ok (.bipush (-2), 2) := by decide +kernel
theorem dX10_append_13 : decode cX10_append 13 = .ok (.ireturn, 1) := by decide +kernel
theorem dX10_append_14 : decode cX10_append 14 = .ok (.aload_n 0, 1) := by decide +kernel
theorem dX10_append_15 : decode cX10_append 15 = .ok (.getfield 113, 3) := by decide +kernel
theorem dX10_append_18 : decode cX10_append 18 = .ok (.bipush 60, 2) := by decide +kernel
theorem dX10_append_20 : decode cX10_append 20 = .ok (.if_icmp .ne 6, 3) := by decide +kernel
theorem dX10_append_23 : decode cX10_append 23 = .ok (.bipush (-4), 2) := by decide +kernel
theorem dX10_append_25 : decode cX10_append 25 = .ok (.ireturn, 1) := by decide +kernel
theorem dX10_append_26 : decode cX10_append 26 = .ok (.aload_n 0, 1) := by decide +kernel
theorem dX10_append_27 : decode cX10_append 27 = .ok (.getfield 13, 3) := by decide +kernel
theorem dX10_append_30 : decode cX10_append 30 = .ok (.aload_n 0, 1) := by decide +kernel
theorem dX10_append_31 : decode cX10_append 31 = .ok (.getfield 113, 3) := by decide +kernel
theorem dX10_append_34 : decode cX10_append 34 = .ok (.iload_n 1, 1) := by decide +kernel
theorem dX10_append_35 : decode cX10_append 35 = .ok (.iastore, 1) := by decide +kernel
theorem dX10_append_36 : decode cX10_append 36 = .ok (.aload_n 0, 1) := by decide +kernel
theorem dX10_append_37 : decode cX10_append 37 = .ok (.dup, 1) := by decide +kernel
theorem dX10_append_38 : decode cX10_append 38 = .ok (.getfield 113, 3) := by decide +kernel
theorem dX10_append_41 : decode cX10_append 41 = .ok (.iconst 1, 1) := by decide +kernel
theorem dX10_append_42 : decode cX10_append 42 = .ok (.iadd, 1) := by decide +kernel
theorem dX10_append_43 : decode cX10_append 43 = .ok (.putfield 113, 3) := by decide +kernel
theorem dX10_append_46 : decode cX10_append 46 = .ok (.aload_n 0, 1) := by decide +kernel
theorem dX10_append_47 : decode cX10_append 47 = .ok (.getfield 113, 3) := by decide +kernel
theorem dX10_append_50 : decode cX10_append 50 = .ok (.ireturn, 1) := by decide +kernel
theorem dX10_clearText_0 : decode cX10_clearText 0 = .ok (.aload_n 0, 1) := by decide +kernel
theorem dX10_clearText_1 : decode cX10_clearText 1 = .ok (.getfield 113, 3) := by decide +kernel
theorem dX10_clearText_4 : decode cX10_clearText 4 = .ok (.istore_n 1, 1) := by decide +kernel
theorem dX10_clearText_5 : decode cX10_clearText 5 = .ok (.aload_n 0, 1) := by decide +kernel
theorem dX10_clearText_6 : decode cX10_clearText 6 = .ok (.iconst 0, 1) := by decide +kernel
theorem dX10_clearText_7 : decode cX10_clearText 7 = .ok (.putfield 113, 3) := by decide +kernel
theorem dX10_clearText_10 : decode cX10_clearText 10 = .ok (.iload_n 1, 1) := by decide +kernel
theorem dX10_clearText_11 : decode cX10_clearText 11 = .ok (.ireturn, 1) := by decide +kernel
theorem dX10_sign_0 : decode cX10_sign 0 = .ok (.aload_n 0, 1) := by decide +kernel
theorem dX10_sign_1 : decode cX10_sign 1 = .ok (.getfield 116, 3) := by decide +kernel
theorem dX10_sign_4 : decode cX10_sign 4 = .ok (.aload_n 0, 1) := by decide +kernel
theorem dX10_sign_5 : decode cX10_sign 5 = .ok (.getfield 113, 3) := by decide +kernel
theorem dX10_sign_8 : decode cX10_sign 8 = .ok (.if_icmp .ge 15, 3) := by decide +kernel
theorem dX10_sign_11 : decode cX10_sign 11 = .ok (.aload_n 0, 1) := by decide +kernel
theorem dX10_sign_12 : decode cX10_sign 12 = .ok (.getfield 13, 3) := by decide +kernel
theorem dX10_sign_15 : decode cX10_sign 15 = .ok (.aload_n 0, 1) := by decide +kernel
theorem dX10_sign_16 : decode cX10_sign 16 = .ok (.getfield 116, 3) := by decide +kernel
theorem dX10_sign_19 : decode cX10_sign 19 = .ok (.iaload, 1) := by decide +kernel
theorem dX10_sign_20 : decode cX10_sign 20 = .ok (.goto 4, 3) := by decide +kernel
theorem dX10_sign_23 : decode cX10_sign 23 = .ok (.iconst 0, 1) := by decide +kernel
theorem dX10_sign_24 : decode cX10_sign 24 = .ok (.ireturn, 1) := by decide +kernel
theorem dX10_takes_0 : decode cX10_takes 0 = .ok (.aload_n 0, 1) := by decide +kernel
theorem dX10_takes_1 : decode cX10_takes 1 = .ok (.invokevirtual 119, 3) := by decide +kernel
theorem dX10_takes_4 : decode cX10_takes 4 = .ok (.iload_n 1, 1) := by decide +kernel
theorem dX10_takes_5 : decode cX10_takes 5 = .ok (.if_icmp .ne 7, 3) := by decide +kernel
theorem dX10_takes_8 : decode cX10_takes 8 = .ok (.iconst 1, 1) := by decide +kernel
theorem dX10_takes_9 : decode cX10_takes 9 = .ok (.goto 4, 3) := by decide +kernel
theorem dX10_takes_12 : decode cX10_takes 12 = .ok (.iconst 0, 1) := by decide +kernel
theorem dX10_takes_13 : decode cX10_takes 13 = .ok (.istore_n 2, 1) := by decide +kernel
theorem dX10_takes_14 : decode cX10_takes 14 = .ok (.aload_n 0, 1) := by decide +kernel
theorem dX10_takes_15 : decode cX10_takes 15 = .ok (.dup, 1) := by decide +kernel
theorem dX10_takes_16 : decode cX10_takes 16 = .ok (.getfield 116, 3) := by decide +kernel
theorem dX10_takes_19 : decode cX10_takes 19 = .ok (.iload_n 2, 1) := by decide +kernel
theorem dX10_takes_20 : decode cX10_takes 20 = .ok (.ifCond .eq 7, 3) := by decide +kernel
theorem dX10_takes_23 : decode cX10_takes 23 = .ok (.iconst 1, 1) := by decide +kernel
theorem dX10_takes_24 : decode cX10_takes 24 = .ok (.goto 4, 3) := by decide +kernel
theorem dX10_takes_27 : decode cX10_takes 27 = .ok (.iconst 0, 1) := by decide +kernel
theorem dX10_takes_28 : decode cX10_takes 28 = .ok (.iadd, 1) := by decide +kernel
theorem dX10_takes_29 : decode cX10_takes 29 = .ok (.putfield 116, 3) := by decide +kernel
theorem dX10_takes_32 : decode cX10_takes 32 = .ok (.iload_n 2, 1) := by decide +kernel
theorem dX10_takes_33 : decode cX10_takes 33 = .ok (.ireturn, 1) := by decide +kernel
theorem dX10_readsMove_0 : decode cX10_readsMove 0 = .ok (.aload_n 0, 1) := by decide +kernel
theorem dX10_readsMove_1 : decode cX10_readsMove 1 = .ok (.aload_n 0, 1) := by decide +kernel
theorem dX10_readsMove_2 : decode cX10_readsMove 2 = .ok (.invokevirtual 119, 3) := by decide +kernel
theorem dX10_readsMove_5 : decode cX10_readsMove 5 = .ok (.putfield 122, 3) := by decide +kernel
theorem dX10_readsMove_8 : decode cX10_readsMove 8 = .ok (.aload_n 0, 1) := by decide +kernel
theorem dX10_readsMove_9 : decode cX10_readsMove 9 = .ok (.bipush 102, 2) := by decide +kernel
theorem dX10_readsMove_11 : decode cX10_readsMove 11 = .ok (.invokevirtual 125, 3) := by decide +kernel
theorem dX10_readsMove_14 : decode cX10_readsMove 14 = .ok (.ifCond .ne 12, 3) := by decide +kernel
theorem dX10_readsMove_17 : decode cX10_readsMove 17 = .ok (.aload_n 0, 1) := by decide +kernel
theorem dX10_readsMove_18 : decode cX10_readsMove 18 = .ok (.bipush 98, 2) := by decide +kernel
theorem dX10_readsMove_20 : decode cX10_readsMove 20 = .ok (.invokevirtual 125, 3) := by decide +kernel
theorem dX10_readsMove_23 : decode cX10_readsMove 23 = .ok (.ifCond .eq 5, 3) := by decide +kernel
theorem dX10_readsMove_26 : decode cX10_readsMove 26 = .ok (.iconst 1, 1) := by decide +kernel
theorem dX10_readsMove_27 : decode cX10_readsMove 27 = .ok (.ireturn, 1) := by decide +kernel
theorem dX10_readsMove_28 : decode cX10_readsMove 28 = .ok (.aload_n 0, 1) := by decide +kernel
theorem dX10_readsMove_29 : decode cX10_readsMove 29 = .ok (.getfield 122, 3) := by decide +kernel
theorem dX10_readsMove_32 : decode cX10_readsMove 32 = .ok (.bipush 107, 2) := by decide +kernel
theorem dX10_readsMove_34 : decode cX10_readsMove 34 = .ok (.if_icmp .ne 7, 3) := by decide +kernel
theorem dX10_readsMove_37 : decode cX10_readsMove 37 = .ok (.iconst 0, 1) := by decide +kernel
theorem dX10_readsMove_38 : decode cX10_readsMove 38 = .ok (.goto 4, 3) := by decide +kernel
theorem dX10_readsMove_41 : decode cX10_readsMove 41 = .ok (.iconst 1, 1) := by decide +kernel
theorem dX10_readsMove_42 : decode cX10_readsMove 42 = .ok (.istore_n 1, 1) := by decide +kernel
theorem dX10_readsMove_43 : decode cX10_readsMove 43 = .ok (.aload_n 0, 1) := by decide +kernel
theorem dX10_readsMove_44 : decode cX10_readsMove 44 = .ok (.bipush 107, 2) := by decide +kernel
theorem dX10_readsMove_46 : decode cX10_readsMove 46 = .ok (.invokevirtual 125, 3) := by decide +kernel
theorem dX10_readsMove_49 : decode cX10_readsMove 49 = .ok (.ifCond .ne 12, 3) := by decide +kernel
theorem dX10_readsMove_52 : decode cX10_readsMove 52 = .ok (.aload_n 0, 1) := by decide +kernel
theorem dX10_readsMove_53 : decode cX10_readsMove 53 = .ok (.bipush 116, 2) := by decide +kernel
theorem dX10_readsMove_55 : decode cX10_readsMove 55 = .ok (.invokevirtual 125, 3) := by decide +kernel
theorem dX10_readsMove_58 : decode cX10_readsMove 58 = .ok (.ifCond .eq 19, 3) := by decide +kernel
theorem dX10_readsMove_61 : decode cX10_readsMove 61 = .ok (.aload_n 0, 1) := by decide +kernel
theorem dX10_readsMove_62 : decode cX10_readsMove 62 = .ok (.invokevirtual 119, 3) := by decide +kernel
theorem dX10_readsMove_65 : decode cX10_readsMove 65 = .ok (.bipush 48, 2) := by decide +kernel
theorem dX10_readsMove_67 : decode cX10_readsMove 67 = .ok (.iload_n 1, 1) := by decide +kernel
theorem dX10_readsMove_68 : decode cX10_readsMove 68 = .ok (.iadd, 1) := by decide +kernel
theorem dX10_readsMove_69 : decode cX10_readsMove 69 = .ok (.bipush 57, 2) := by decide +kernel
theorem dX10_readsMove_71 : decode cX10_readsMove 71 = .ok (.invokestatic 22, 3) := by decide +kernel
theorem dX10_readsMove_74 : decode cX10_readsMove 74 = .ok (.ifCond .ne 5, 3) := by decide +kernel
theorem dX10_readsMove_77 : decode cX10_readsMove 77 = .ok (.iconst 0, 1) := by decide +kernel
theorem dX10_readsMove_78 : decode cX10_readsMove 78 = .ok (.ireturn, 1) := by decide +kernel
theorem dX10_readsMove_79 : decode cX10_readsMove 79 = .ok (.aload_n 0, 1) := by decide +kernel
theorem dX10_readsMove_80 : decode cX10_readsMove 80 = .ok (.aload_n 0, 1) := by decide +kernel
theorem dX10_readsMove_81 : decode cX10_readsMove 81 = .ok (.invokevirtual 119, 3) := by decide +kernel
theorem dX10_readsMove_84 : decode cX10_readsMove 84 = .ok (.bipush 48, 2) := by decide +kernel
theorem dX10_readsMove_86 : decode cX10_readsMove 86 = .ok (.isub, 1) := by decide +kernel
theorem dX10_readsMove_87 : decode cX10_readsMove 87 = .ok (.putfield 128, 3) := by decide +kernel
theorem dX10_readsMove_90 : decode cX10_readsMove 90 = .ok (.aload_n 0, 1) := by decide +kernel
theorem dX10_readsMove_91 : decode cX10_readsMove 91 = .ok (.dup, 1) := by decide +kernel
theorem dX10_readsMove_92 : decode cX10_readsMove 92 = .ok (.getfield 116, 3) := by decide +kernel
theorem dX10_readsMove_95 : decode cX10_readsMove 95 = .ok (.iconst 1, 1) := by decide +kernel
theorem dX10_readsMove_96 : decode cX10_readsMove 96 = .ok (.iadd, 1) := by decide +kernel
theorem dX10_readsMove_97 : decode cX10_readsMove 97 = .ok (.putfield 116, 3) := by decide +kernel
theorem dX10_readsMove_100 : decode cX10_readsMove 100 = .ok (.aload_n 0, 1) := by decide +kernel
theorem dX10_readsMove_101 : decode cX10_readsMove 101 = .ok (.getfield 122, 3) := by decide +kernel
theorem dX10_readsMove_104 : decode cX10_readsMove 104 = .ok (.bipush 116, 2) := by decide +kernel
theorem dX10_readsMove_106 : decode cX10_readsMove 106 = .ok (.if_icmp .ne 46, 3) := by decide +kernel
theorem dX10_readsMove_109 : decode cX10_readsMove 109 = .ok (.aload_n 0, 1) := by decide +kernel
theorem dX10_readsMove_110 : decode cX10_readsMove 110 = .ok (.invokevirtual 119, 3) := by decide +kernel
theorem dX10_readsMove_113 : decode cX10_readsMove 113 = .ok (.bipush 48, 2) := by decide +kernel
theorem dX10_readsMove_115 : decode cX10_readsMove 115 = .ok (.bipush 57, 2) := by decide +kernel
theorem dX10_readsMove_117 : decode cX10_readsMove 117 = .ok (.invokestatic 22, 3) := by decide +kernel
theorem dX10_readsMove_120 : decode cX10_readsMove 120 = .ok (.ifCond .eq 32, 3) := by decide +kernel
theorem dX10_readsMove_123 : decode cX10_readsMove 123 = .ok (.aload_n 0, 1) := by decide +kernel
theorem dX10_readsMove_124 : decode cX10_readsMove 124 = .ok (.bipush 10, 2) := by decide +kernel
theorem dX10_readsMove_126 : decode cX10_readsMove 126 = .ok (.aload_n 0, 1) := by decide +kernel
theorem dX10_readsMove_127 : decode cX10_readsMove 127 = .ok (.getfield 128, 3) := by decide +kernel
theorem dX10_readsMove_130 : decode cX10_readsMove 130 = .ok (.imul, 1) := by decide +kernel
theorem dX10_readsMove_131 : decode cX10_readsMove 131 = .ok (.aload_n 0, 1) := by decide +kernel
theorem dX10_readsMove_132 : decode cX10_readsMove 132 = .ok (.invokevirtual 119, 3) := by decide +kernel
theorem dX10_readsMove_135 : decode cX10_readsMove 135 = .ok (.iadd, 1) := by decide +kernel
theorem dX10_readsMove_136 : decode cX10_readsMove 136 = .ok (.bipush 48, 2) := by decide +kernel
theorem dX10_readsMove_138 : decode cX10_readsMove 138 = .ok (.isub, 1) := by decide +kernel
theorem dX10_readsMove_139 : decode cX10_readsMove 139 = .ok (.putfield 128, 3) := by decide +kernel
theorem dX10_readsMove_142 : decode cX10_readsMove 142 = .ok (.aload_n 0, 1) := by decide +kernel
theorem dX10_readsMove_143 : decode cX10_readsMove 143 = .ok (.dup, 1) := by decide +kernel
theorem dX10_readsMove_144 : decode cX10_readsMove 144 = .ok (.getfield 116, 3) := by decide +kernel
theorem dX10_readsMove_147 : decode cX10_readsMove 147 = .ok (.iconst 1, 1) := by decide +kernel
theorem dX10_readsMove_148 : decode cX10_readsMove 148 = .ok (.iadd, 1) := by decide +kernel
theorem dX10_readsMove_149 : decode cX10_readsMove 149 = .ok (.putfield 116, 3) := by decide +kernel
theorem dX10_readsMove_152 : decode cX10_readsMove 152 = .ok (.iconst 1, 1) := by decide +kernel
theorem dX10_readsMove_153 : decode cX10_readsMove 153 = .ok (.ireturn, 1) := by decide +kernel
theorem dX10_isText_0 : decode cX10_isText 0 = .ok (.aload_n 0, 1) := by decide +kernel
theorem dX10_isText_1 : decode cX10_isText 1 = .ok (.iconst 0, 1) := by decide +kernel
theorem dX10_isText_2 : decode cX10_isText 2 = .ok (.putfield 116, 3) := by decide +kernel
theorem dX10_isText_5 : decode cX10_isText 5 = .ok (.aload_n 0, 1) := by decide +kernel
theorem dX10_isText_6 : decode cX10_isText 6 = .ok (.invokevirtual 131, 3) := by decide +kernel
theorem dX10_isText_9 : decode cX10_isText 9 = .ok (.ifCond .eq 27, 3) := by decide +kernel
theorem dX10_isText_12 : decode cX10_isText 12 = .ok (.aload_n 0, 1) := by decide +kernel
theorem dX10_isText_13 : decode cX10_isText 13 = .ok (.getfield 116, 3) := by decide +kernel
theorem dX10_isText_16 : decode cX10_isText 16 = .ok (.aload_n 0, 1) := by decide +kernel
theorem dX10_isText_17 : decode cX10_isText 17 = .ok (.getfield 113, 3) := by decide +kernel
theorem dX10_isText_20 : decode cX10_isText 20 = .ok (.if_icmp .ne 5, 3) := by decide +kernel
theorem dX10_isText_23 : decode cX10_isText 23 = .ok (.iconst 1, 1) := by decide +kernel
theorem dX10_isText_24 : decode cX10_isText 24 = .ok (.ireturn, 1) := by decide +kernel
theorem dX10_isText_25 : decode cX10_isText 25 = .ok (.aload_n 0, 1) := by decide +kernel
theorem dX10_isText_26 : decode cX10_isText 26 = .ok (.bipush 59, 2) := by decide +kernel
theorem dX10_isText_28 : decode cX10_isText 28 = .ok (.invokevirtual 125, 3) := by decide +kernel
theorem dX10_isText_31 : decode cX10_isText 31 = .ok (.ifCond .ne (-26), 3) := by decide +kernel
theorem dX10_isText_34 : decode cX10_isText 34 = .ok (.iconst 0, 1) := by decide +kernel
theorem dX10_isText_35 : decode cX10_isText 35 = .ok (.ireturn, 1) := by decide +kernel
theorem dX10_isText_36 : decode cX10_isText 36 = .ok (.iconst 0, 1) := by decide +kernel
theorem dX10_isText_37 : decode cX10_isText 37 = .ok (.ireturn, 1) := by decide +kernel
theorem dX10_fault_0 : decode cX10_fault 0 = .ok (.aload_n 0, 1) := by decide +kernel
theorem dX10_fault_1 : decode cX10_fault 1 = .ok (.invokevirtual 134, 3) := by decide +kernel
theorem dX10_fault_4 : decode cX10_fault 4 = .ok (.ifCond .eq 8, 3) := by decide +kernel
theorem dX10_fault_7 : decode cX10_fault 7 = .ok (.bipush (-6), 2) := by decide +kernel
theorem dX10_fault_9 : decode cX10_fault 9 = .ok (.goto 7, 3) := by decide +kernel
theorem dX10_fault_12 : decode cX10_fault 12 = .ok (.aload_n 0, 1) := by decide +kernel
theorem dX10_fault_13 : decode cX10_fault 13 = .ok (.getfield 116, 3) := by decide +kernel
theorem dX10_fault_16 : decode cX10_fault 16 = .ok (.ireturn, 1) := by decide +kernel
theorem dX10_isMade_0 : decode cX10_isMade 0 = .ok (.aload_n 0, 1) := by decide +kernel
theorem dX10_isMade_1 : decode cX10_isMade 1 = .ok (.invokevirtual 98, 3) := by decide +kernel
theorem dX10_isMade_4 : decode cX10_isMade 4 = .ok (.ifCond .ne 5, 3) := by decide +kernel
theorem dX10_isMade_7 : decode cX10_isMade 7 = .ok (.iconst 0, 1) := by decide +kernel
theorem dX10_isMade_8 : decode cX10_isMade 8 = .ok (.ireturn, 1) := by decide +kernel
theorem dX10_isMade_9 : decode cX10_isMade 9 = .ok (.aload_n 0, 1) := by decide +kernel
theorem dX10_isMade_10 : decode cX10_isMade 10 = .ok (.getfield 122, 3) := by decide +kernel
theorem dX10_isMade_13 : decode cX10_isMade 13 = .ok (.lookupswitch 105 #[(98, 55), (102, 35), (107, 77)], 35) := by decide +kernel
theorem dX10_isMade_48 : decode cX10_isMade 48 = .ok (.aload_n 0, 1) := by decide +kernel
theorem dX10_isMade_49 : decode cX10_isMade 49 = .ok (.invokevirtual 62, 3) := by decide +kernel
theorem dX10_isMade_52 : decode cX10_isMade 52 = .ok (.ifCond .eq 14, 3) := by decide +kernel
theorem dX10_isMade_55 : decode cX10_isMade 55 = .ok (.aload_n 0, 1) := by decide +kernel
theorem dX10_isMade_56 : decode cX10_isMade 56 = .ok (.invokevirtual 65, 3) := by decide +kernel
theorem dX10_isMade_59 : decode cX10_isMade 59 = .ok (.ifCond .lt 7, 3) := by decide +kernel
theorem dX10_isMade_62 : decode cX10_isMade 62 = .ok (.iconst 1, 1) := by decide +kernel
theorem dX10_isMade_63 : decode cX10_isMade 63 = .ok (.goto 4, 3) := by decide +kernel
theorem dX10_isMade_66 : decode cX10_isMade 66 = .ok (.iconst 0, 1) := by decide +kernel
theorem dX10_isMade_67 : decode cX10_isMade 67 = .ok (.ireturn, 1) := by decide +kernel
theorem dX10_isMade_68 : decode cX10_isMade 68 = .ok (.aload_n 0, 1) := by decide +kernel
theorem dX10_isMade_69 : decode cX10_isMade 69 = .ok (.invokevirtual 58, 3) := by decide +kernel
theorem dX10_isMade_72 : decode cX10_isMade 72 = .ok (.bipush (-6), 2) := by decide +kernel
theorem dX10_isMade_74 : decode cX10_isMade 74 = .ok (.if_icmp .eq 14, 3) := by decide +kernel
theorem dX10_isMade_77 : decode cX10_isMade 77 = .ok (.aload_n 0, 1) := by decide +kernel
theorem dX10_isMade_78 : decode cX10_isMade 78 = .ok (.invokevirtual 101, 3) := by decide +kernel
theorem dX10_isMade_81 : decode cX10_isMade 81 = .ok (.ifCond .lt 7, 3) := by decide +kernel
theorem dX10_isMade_84 : decode cX10_isMade 84 = .ok (.iconst 1, 1) := by decide +kernel
theorem dX10_isMade_85 : decode cX10_isMade 85 = .ok (.goto 4, 3) := by decide +kernel
theorem dX10_isMade_88 : decode cX10_isMade 88 = .ok (.iconst 0, 1) := by decide +kernel
theorem dX10_isMade_89 : decode cX10_isMade 89 = .ok (.ireturn, 1) := by decide +kernel
theorem dX10_isMade_90 : decode cX10_isMade 90 = .ok (.aload_n 0, 1) := by decide +kernel
theorem dX10_isMade_91 : decode cX10_isMade 91 = .ok (.aload_n 0, 1) := by decide +kernel
theorem dX10_isMade_92 : decode cX10_isMade 92 = .ok (.getfield 128, 3) := by decide +kernel
theorem dX10_isMade_95 : decode cX10_isMade 95 = .ok (.invokevirtual 104, 3) := by decide +kernel
theorem dX10_isMade_98 : decode cX10_isMade 98 = .ok (.ifCond .eq 18, 3) := by decide +kernel
theorem dX10_isMade_101 : decode cX10_isMade 101 = .ok (.aload_n 0, 1) := by decide +kernel
theorem dX10_isMade_102 : decode cX10_isMade 102 = .ok (.aload_n 0, 1) := by decide +kernel
theorem dX10_isMade_103 : decode cX10_isMade 103 = .ok (.getfield 128, 3) := by decide +kernel
theorem dX10_isMade_106 : decode cX10_isMade 106 = .ok (.invokevirtual 107, 3) := by decide +kernel
theorem dX10_isMade_109 : decode cX10_isMade 109 = .ok (.ifCond .lt 7, 3) := by decide +kernel
theorem dX10_isMade_112 : decode cX10_isMade 112 = .ok (.iconst 1, 1) := by decide +kernel
theorem dX10_isMade_113 : decode cX10_isMade 113 = .ok (.goto 4, 3) := by decide +kernel
theorem dX10_isMade_116 : decode cX10_isMade 116 = .ok (.iconst 0, 1) := by decide +kernel
theorem dX10_isMade_117 : decode cX10_isMade 117 = .ok (.ireturn, 1) := by decide +kernel
theorem dX10_isMade_118 : decode cX10_isMade 118 = .ok (.aload_n 0, 1) := by decide +kernel
theorem dX10_isMade_119 : decode cX10_isMade 119 = .ok (.aload_n 0, 1) := by decide +kernel
theorem dX10_isMade_120 : decode cX10_isMade 120 = .ok (.getfield 128, 3) := by decide +kernel
theorem dX10_isMade_123 : decode cX10_isMade 123 = .ok (.invokevirtual 110, 3) := by decide +kernel
theorem dX10_isMade_126 : decode cX10_isMade 126 = .ok (.ifCond .lt 7, 3) := by decide +kernel
theorem dX10_isMade_129 : decode cX10_isMade 129 = .ok (.iconst 1, 1) := by decide +kernel
theorem dX10_isMade_130 : decode cX10_isMade 130 = .ok (.goto 4, 3) := by decide +kernel
theorem dX10_isMade_133 : decode cX10_isMade 133 = .ok (.iconst 0, 1) := by decide +kernel
theorem dX10_isMade_134 : decode cX10_isMade 134 = .ok (.ireturn, 1) := by decide +kernel
theorem dX10_run_0 : decode cX10_run 0 = .ok (.aload_n 0, 1) := by decide +kernel
theorem dX10_run_1 : decode cX10_run 1 = .ok (.invokevirtual 134, 3) := by decide +kernel
theorem dX10_run_4 : decode cX10_run 4 = .ok (.ifCond .ne 6, 3) := by decide +kernel
theorem dX10_run_7 : decode cX10_run 7 = .ok (.bipush (-3), 2) := by decide +kernel
theorem dX10_run_9 : decode cX10_run 9 = .ok (.ireturn, 1) := by decide +kernel
theorem dX10_run_10 : decode cX10_run 10 = .ok (.aload_n 0, 1) := by decide +kernel
theorem dX10_run_11 : decode cX10_run 11 = .ok (.invokevirtual 76, 3) := by decide +kernel
theorem dX10_run_14 : decode cX10_run 14 = .ok (.aload_n 0, 1) := by decide +kernel
theorem dX10_run_15 : decode cX10_run 15 = .ok (.iconst 0, 1) := by decide +kernel
theorem dX10_run_16 : decode cX10_run 16 = .ok (.putfield 116, 3) := by decide +kernel
theorem dX10_run_19 : decode cX10_run 19 = .ok (.iconst 0, 1) := by decide +kernel
theorem dX10_run_20 : decode cX10_run 20 = .ok (.istore_n 1, 1) := by decide +kernel
theorem dX10_run_21 : decode cX10_run 21 = .ok (.iconst 0, 1) := by decide +kernel
theorem dX10_run_22 : decode cX10_run 22 = .ok (.istore_n 2, 1) := by decide +kernel
theorem dX10_run_23 : decode cX10_run 23 = .ok (.iconst 1, 1) := by decide +kernel
theorem dX10_run_24 : decode cX10_run 24 = .ok (.istore_n 3, 1) := by decide +kernel
theorem dX10_run_25 : decode cX10_run 25 = .ok (.iconst 0, 1) := by decide +kernel
theorem dX10_run_26 : decode cX10_run 26 = .ok (.istore 4, 2) := by decide +kernel
theorem dX10_run_28 : decode cX10_run 28 = .ok (.iload_n 3, 1) := by decide +kernel
theorem dX10_run_29 : decode cX10_run 29 = .ok (.ifCond .eq 63, 3) := by decide +kernel
theorem dX10_run_32 : decode cX10_run 32 = .ok (.aload_n 0, 1) := by decide +kernel
theorem dX10_run_33 : decode cX10_run 33 = .ok (.getfield 116, 3) := by decide +kernel
theorem dX10_run_36 : decode cX10_run 36 = .ok (.istore_n 2, 1) := by decide +kernel
theorem dX10_run_37 : decode cX10_run 37 = .ok (.aload_n 0, 1) := by decide +kernel
theorem dX10_run_38 : decode cX10_run 38 = .ok (.invokevirtual 131, 3) := by decide +kernel
theorem dX10_run_41 : decode cX10_run 41 = .ok (.pop, 1) := by decide +kernel
theorem dX10_run_42 : decode cX10_run 42 = .ok (.aload_n 0, 1) := by decide +kernel
theorem dX10_run_43 : decode cX10_run 43 = .ok (.invokevirtual 137, 3) := by decide +kernel
theorem dX10_run_46 : decode cX10_run 46 = .ok (.ifCond .ne 7, 3) := by decide +kernel
theorem dX10_run_49 : decode cX10_run 49 = .ok (.iconst 1, 1) := by decide +kernel
theorem dX10_run_50 : decode cX10_run 50 = .ok (.goto 4, 3) := by decide +kernel
theorem dX10_run_53 : decode cX10_run 53 = .ok (.iconst 0, 1) := by decide +kernel
theorem dX10_run_54 : decode cX10_run 54 = .ok (.istore 4, 2) := by decide +kernel
theorem dX10_run_56 : decode cX10_run 56 = .ok (.iload_n 1, 1) := by decide +kernel
theorem dX10_run_57 : decode cX10_run 57 = .ok (.iload 4, 2) := by decide +kernel
theorem dX10_run_59 : decode cX10_run 59 = .ok (.ifCond .eq 7, 3) := by decide +kernel
theorem dX10_run_62 : decode cX10_run 62 = .ok (.iconst 0, 1) := by decide +kernel
theorem dX10_run_63 : decode cX10_run 63 = .ok (.goto 4, 3) := by decide +kernel
theorem dX10_run_66 : decode cX10_run 66 = .ok (.iconst 1, 1) := by decide +kernel
theorem dX10_run_67 : decode cX10_run 67 = .ok (.iadd, 1) := by decide +kernel
theorem dX10_run_68 : decode cX10_run 68 = .ok (.istore_n 1, 1) := by decide +kernel
theorem dX10_run_69 : decode cX10_run 69 = .ok (.iload 4, 2) := by decide +kernel
theorem dX10_run_71 : decode cX10_run 71 = .ok (.ifCond .ne 16, 3) := by decide +kernel
theorem dX10_run_74 : decode cX10_run 74 = .ok (.aload_n 0, 1) := by decide +kernel
theorem dX10_run_75 : decode cX10_run 75 = .ok (.bipush 59, 2) := by decide +kernel
theorem dX10_run_77 : decode cX10_run 77 = .ok (.invokevirtual 125, 3) := by decide +kernel
theorem dX10_run_80 : decode cX10_run 80 = .ok (.ifCond .eq 7, 3) := by decide +kernel
theorem dX10_run_83 : decode cX10_run 83 = .ok (.iconst 1, 1) := by decide +kernel
theorem dX10_run_84 : decode cX10_run 84 = .ok (.goto 4, 3) := by decide +kernel
theorem dX10_run_87 : decode cX10_run 87 = .ok (.iconst 0, 1) := by decide +kernel
theorem dX10_run_88 : decode cX10_run 88 = .ok (.istore_n 3, 1) := by decide +kernel
theorem dX10_run_89 : decode cX10_run 89 = .ok (.goto (-61), 3) := by decide +kernel
theorem dX10_run_92 : decode cX10_run 92 = .ok (.aload_n 0, 1) := by decide +kernel
theorem dX10_run_93 : decode cX10_run 93 = .ok (.getfield 16, 3) := by decide +kernel
theorem dX10_run_96 : decode cX10_run 96 = .ok (.iconst 0, 1) := by decide +kernel
theorem dX10_run_97 : decode cX10_run 97 = .ok (.iload 4, 2) := by decide +kernel
theorem dX10_run_99 : decode cX10_run 99 = .ok (.ifCond .eq 7, 3) := by decide +kernel
theorem dX10_run_102 : decode cX10_run 102 = .ok (.iload_n 1, 1) := by decide +kernel
theorem dX10_run_103 : decode cX10_run 103 = .ok (.goto 5, 3) := by decide +kernel
theorem dX10_run_106 : decode cX10_run 106 = .ok (.bipush (-6), 2) := by decide +kernel
theorem dX10_run_108 : decode cX10_run 108 = .ok (.iastore, 1) := by decide +kernel
theorem dX10_run_109 : decode cX10_run 109 = .ok (.aload_n 0, 1) := by decide +kernel
theorem dX10_run_110 : decode cX10_run 110 = .ok (.getfield 16, 3) := by decide +kernel
theorem dX10_run_113 : decode cX10_run 113 = .ok (.iconst 1, 1) := by decide +kernel
theorem dX10_run_114 : decode cX10_run 114 = .ok (.iload 4, 2) := by decide +kernel
theorem dX10_run_116 : decode cX10_run 116 = .ok (.ifCond .eq 7, 3) := by decide +kernel
theorem dX10_run_119 : decode cX10_run 119 = .ok (.iload_n 2, 1) := by decide +kernel
theorem dX10_run_120 : decode cX10_run 120 = .ok (.goto 5, 3) := by decide +kernel
theorem dX10_run_123 : decode cX10_run 123 = .ok (.bipush (-6), 2) := by decide +kernel
theorem dX10_run_125 : decode cX10_run 125 = .ok (.iastore, 1) := by decide +kernel
theorem dX10_run_126 : decode cX10_run 126 = .ok (.aload_n 0, 1) := by decide +kernel
theorem dX10_run_127 : decode cX10_run 127 = .ok (.getfield 16, 3) := by decide +kernel
theorem dX10_run_130 : decode cX10_run 130 = .ok (.iconst 2, 1) := by decide +kernel
theorem dX10_run_131 : decode cX10_run 131 = .ok (.iload 4, 2) := by decide +kernel
theorem dX10_run_133 : decode cX10_run 133 = .ok (.ifCond .eq 24, 3) := by decide +kernel
theorem dX10_run_136 : decode cX10_run 136 = .ok (.aload_n 0, 1) := by decide +kernel
theorem dX10_run_137 : decode cX10_run 137 = .ok (.getfield 7, 3) := by decide +kernel
theorem dX10_run_140 : decode cX10_run 140 = .ok (.bipush 29, 2) := by decide +kernel
theorem dX10_run_142 : decode cX10_run 142 = .ok (.iaload, 1) := by decide +kernel
theorem dX10_run_143 : decode cX10_run 143 = .ok (.iconst 1, 1) := by decide +kernel
theorem dX10_run_144 : decode cX10_run 144 = .ok (.if_icmp .ne 13, 3) := by decide +kernel
theorem dX10_run_147 : decode cX10_run 147 = .ok (.aload_n 0, 1) := by decide +kernel
theorem dX10_run_148 : decode cX10_run 148 = .ok (.getfield 7, 3) := by decide +kernel
theorem dX10_run_151 : decode cX10_run 151 = .ok (.bipush 30, 2) := by decide +kernel
theorem dX10_run_153 : decode cX10_run 153 = .ok (.iaload, 1) := by decide +kernel
theorem dX10_run_154 : decode cX10_run 154 = .ok (.goto 5, 3) := by decide +kernel
theorem dX10_run_157 : decode cX10_run 157 = .ok (.bipush (-6), 2) := by decide +kernel
theorem dX10_run_159 : decode cX10_run 159 = .ok (.iastore, 1) := by decide +kernel
theorem dX10_run_160 : decode cX10_run 160 = .ok (.aload_n 0, 1) := by decide +kernel
theorem dX10_run_161 : decode cX10_run 161 = .ok (.getfield 16, 3) := by decide +kernel
theorem dX10_run_164 : decode cX10_run 164 = .ok (.iconst 3, 1) := by decide +kernel
theorem dX10_run_165 : decode cX10_run 165 = .ok (.iload 4, 2) := by decide +kernel
theorem dX10_run_167 : decode cX10_run 167 = .ok (.ifCond .eq 24, 3) := by decide +kernel
theorem dX10_run_170 : decode cX10_run 170 = .ok (.aload_n 0, 1) := by decide +kernel
theorem dX10_run_171 : decode cX10_run 171 = .ok (.getfield 7, 3) := by decide +kernel
theorem dX10_run_174 : decode cX10_run 174 = .ok (.bipush 29, 2) := by decide +kernel
theorem dX10_run_176 : decode cX10_run 176 = .ok (.iaload, 1) := by decide +kernel
theorem dX10_run_177 : decode cX10_run 177 = .ok (.iconst 1, 1) := by decide +kernel
theorem dX10_run_178 : decode cX10_run 178 = .ok (.if_icmp .ne 13, 3) := by decide +kernel
theorem dX10_run_181 : decode cX10_run 181 = .ok (.aload_n 0, 1) := by decide +kernel
theorem dX10_run_182 : decode cX10_run 182 = .ok (.getfield 7, 3) := by decide +kernel
theorem dX10_run_185 : decode cX10_run 185 = .ok (.bipush 31, 2) := by decide +kernel
theorem dX10_run_187 : decode cX10_run 187 = .ok (.iaload, 1) := by decide +kernel
theorem dX10_run_188 : decode cX10_run 188 = .ok (.goto 5, 3) := by decide +kernel
theorem dX10_run_191 : decode cX10_run 191 = .ok (.bipush (-6), 2) := by decide +kernel
theorem dX10_run_193 : decode cX10_run 193 = .ok (.iastore, 1) := by decide +kernel
theorem dX10_run_194 : decode cX10_run 194 = .ok (.iload_n 1, 1) := by decide +kernel
theorem dX10_run_195 : decode cX10_run 195 = .ok (.ireturn, 1) := by decide +kernel
theorem dX10_why_0 : decode cX10_why 0 = .ok (.iload_n 1, 1) := by decide +kernel
theorem dX10_why_1 : decode cX10_why 1 = .ok (.iconst 0, 1) := by decide +kernel
theorem dX10_why_2 : decode cX10_why 2 = .ok (.iconst 3, 1) := by decide +kernel
theorem dX10_why_3 : decode cX10_why 3 = .ok (.invokestatic 22, 3) := by decide +kernel
theorem dX10_why_6 : decode cX10_why 6 = .ok (.ifCond .eq 12, 3) := by decide +kernel
theorem dX10_why_9 : decode cX10_why 9 = .ok (.aload_n 0, 1) := by decide +kernel
theorem dX10_why_10 : decode cX10_why 10 = .ok (.getfield 16, 3) := by decide +kernel
theorem dX10_why_13 : decode cX10_why 13 = .ok (.iload_n 1, 1) := by decide +kernel
theorem dX10_why_14 : decode cX10_why 14 = .ok (.iaload, 1) := by decide +kernel
theorem dX10_why_15 : decode cX10_why 15 = .ok (.goto 5, 3) := by decide +kernel
theorem dX10_why_18 : decode cX10_why 18 = .ok (.bipush (-2), 2) := by decide +kernel
theorem dX10_why_20 : decode cX10_why 20 = .ok (.ireturn, 1) := by decide +kernel
theorem dX10_undo_0 : decode cX10_undo 0 = .ok (.aload_n 0, 1) := by decide +kernel
theorem dX10_undo_1 : decode cX10_undo 1 = .ok (.getfield 68, 3) := by decide +kernel
theorem dX10_undo_4 : decode cX10_undo 4 = .ok (.ifCond .ne 6, 3) := by decide +kernel
theorem dX10_undo_7 : decode cX10_undo 7 = .ok (.bipush (-6), 2) := by decide +kernel
theorem dX10_undo_9 : decode cX10_undo 9 = .ok (.ireturn, 1) := by decide +kernel
theorem dX10_undo_10 : decode cX10_undo 10 = .ok (.aload_n 0, 1) := by decide +kernel
theorem dX10_undo_11 : decode cX10_undo 11 = .ok (.aload_n 0, 1) := by decide +kernel
theorem dX10_undo_12 : decode cX10_undo 12 = .ok (.getfield 68, 3) := by decide +kernel
theorem dX10_undo_15 : decode cX10_undo 15 = .ok (.iconst 0, 1) := by decide +kernel
theorem dX10_undo_16 : decode cX10_undo 16 = .ok (.invokevirtual 72, 3) := by decide +kernel
theorem dX10_undo_19 : decode cX10_undo 19 = .ok (.aload_n 0, 1) := by decide +kernel
theorem dX10_undo_20 : decode cX10_undo 20 = .ok (.dup, 1) := by decide +kernel
theorem dX10_undo_21 : decode cX10_undo 21 = .ok (.getfield 68, 3) := by decide +kernel
theorem dX10_undo_24 : decode cX10_undo 24 = .ok (.iconst 1, 1) := by decide +kernel
theorem dX10_undo_25 : decode cX10_undo 25 = .ok (.isub, 1) := by decide +kernel
theorem dX10_undo_26 : decode cX10_undo 26 = .ok (.putfield 68, 3) := by decide +kernel
theorem dX10_undo_29 : decode cX10_undo 29 = .ok (.aload_n 0, 1) := by decide +kernel
theorem dX10_undo_30 : decode cX10_undo 30 = .ok (.getfield 68, 3) := by decide +kernel
theorem dX10_undo_33 : decode cX10_undo 33 = .ok (.ireturn, 1) := by decide +kernel
theorem dX10_slides_0 : decode cX10_slides 0 = .ok (.aload_n 0, 1) := by decide +kernel
theorem dX10_slides_1 : decode cX10_slides 1 = .ok (.getfield 7, 3) := by decide +kernel
theorem dX10_slides_4 : decode cX10_slides 4 = .ok (.iconst 0, 1) := by decide +kernel
theorem dX10_slides_5 : decode cX10_slides 5 = .ok (.iaload, 1) := by decide +kernel
theorem dX10_slides_6 : decode cX10_slides 6 = .ok (.ireturn, 1) := by decide +kernel
theorem dX10_slideAt_0 : decode cX10_slideAt 0 = .ok (.iload_n 1, 1) := by decide +kernel
theorem dX10_slideAt_1 : decode cX10_slideAt 1 = .ok (.ifCond .ge 6, 3) := by decide +kernel
theorem dX10_slideAt_4 : decode cX10_slideAt 4 = .ok (.bipush (-2), 2) := by decide +kernel
theorem dX10_slideAt_6 : decode cX10_slideAt 6 = .ok (.ireturn, 1) := by decide +kernel
theorem dX10_slideAt_7 : decode cX10_slideAt 7 = .ok (.iload_n 1, 1) := by decide +kernel
theorem dX10_slideAt_8 : decode cX10_slideAt 8 = .ok (.aload_n 0, 1) := by decide +kernel
theorem dX10_slideAt_9 : decode cX10_slideAt 9 = .ok (.getfield 7, 3) := by decide +kernel
theorem dX10_slideAt_12 : decode cX10_slideAt 12 = .ok (.iconst 0, 1) := by decide +kernel
theorem dX10_slideAt_13 : decode cX10_slideAt 13 = .ok (.iaload, 1) := by decide +kernel
theorem dX10_slideAt_14 : decode cX10_slideAt 14 = .ok (.if_icmp .ge 14, 3) := by decide +kernel
theorem dX10_slideAt_17 : decode cX10_slideAt 17 = .ok (.aload_n 0, 1) := by decide +kernel
theorem dX10_slideAt_18 : decode cX10_slideAt 18 = .ok (.getfield 7, 3) := by decide +kernel
theorem dX10_slideAt_21 : decode cX10_slideAt 21 = .ok (.iconst 1, 1) := by decide +kernel
theorem dX10_slideAt_22 : decode cX10_slideAt 22 = .ok (.iload_n 1, 1) := by decide +kernel
theorem dX10_slideAt_23 : decode cX10_slideAt 23 = .ok (.iadd, 1) := by decide +kernel
theorem dX10_slideAt_24 : decode cX10_slideAt 24 = .ok (.iaload, 1) := by decide +kernel
theorem dX10_slideAt_25 : decode cX10_slideAt 25 = .ok (.goto 5, 3) := by decide +kernel
theorem dX10_slideAt_28 : decode cX10_slideAt 28 = .ok (.bipush (-6), 2) := by decide +kernel
theorem dX10_slideAt_30 : decode cX10_slideAt 30 = .ok (.ireturn, 1) := by decide +kernel
theorem dX10_slide_0 : decode cX10_slide 0 = .ok (.aload_n 0, 1) := by decide +kernel
theorem dX10_slide_1 : decode cX10_slide 1 = .ok (.iload_n 1, 1) := by decide +kernel
theorem dX10_slide_2 : decode cX10_slide 2 = .ok (.invokevirtual 30, 3) := by decide +kernel
theorem dX10_slide_5 : decode cX10_slide 5 = .ok (.ifCond .ne 5, 3) := by decide +kernel
theorem dX10_slide_8 : decode cX10_slide 8 = .ok (.iconst (-1), 1) := by decide +kernel
theorem dX10_slide_9 : decode cX10_slide 9 = .ok (.ireturn, 1) := by decide +kernel
theorem dX10_slide_10 : decode cX10_slide 10 = .ok (.iload_n 2, 1) := by decide +kernel
theorem dX10_slide_11 : decode cX10_slide 11 = .ok (.tableswitch 62 0 5 #[37, 43, 43, 43, 50, 56], 37) := by decide +kernel
theorem dX10_slide_48 : decode cX10_slide 48 = .ok (.aload_n 0, 1) := by decide +kernel
theorem dX10_slide_49 : decode cX10_slide 49 = .ok (.iload_n 1, 1) := by decide +kernel
theorem dX10_slide_50 : decode cX10_slide 50 = .ok (.invokevirtual 37, 3) := by decide +kernel
theorem dX10_slide_53 : decode cX10_slide 53 = .ok (.ireturn, 1) := by decide +kernel
theorem dX10_slide_54 : decode cX10_slide 54 = .ok (.aload_n 0, 1) := by decide +kernel
theorem dX10_slide_55 : decode cX10_slide 55 = .ok (.iload_n 1, 1) := by decide +kernel
theorem dX10_slide_56 : decode cX10_slide 56 = .ok (.iload_n 2, 1) := by decide +kernel
theorem dX10_slide_57 : decode cX10_slide 57 = .ok (.invokevirtual 26, 3) := by decide +kernel
theorem dX10_slide_60 : decode cX10_slide 60 = .ok (.ireturn, 1) := by decide +kernel
theorem dX10_slide_61 : decode cX10_slide 61 = .ok (.aload_n 0, 1) := by decide +kernel
theorem dX10_slide_62 : decode cX10_slide 62 = .ok (.iload_n 1, 1) := by decide +kernel
theorem dX10_slide_63 : decode cX10_slide 63 = .ok (.invokevirtual 48, 3) := by decide +kernel
theorem dX10_slide_66 : decode cX10_slide 66 = .ok (.ireturn, 1) := by decide +kernel
theorem dX10_slide_67 : decode cX10_slide 67 = .ok (.aload_n 0, 1) := by decide +kernel
theorem dX10_slide_68 : decode cX10_slide 68 = .ok (.iload_n 1, 1) := by decide +kernel
theorem dX10_slide_69 : decode cX10_slide 69 = .ok (.invokevirtual 92, 3) := by decide +kernel
theorem dX10_slide_72 : decode cX10_slide 72 = .ok (.ireturn, 1) := by decide +kernel
theorem dX10_slide_73 : decode cX10_slide 73 = .ok (.bipush (-2), 2) := by decide +kernel
theorem dX10_slide_75 : decode cX10_slide 75 = .ok (.ireturn, 1) := by decide +kernel
theorem dX10_item_0 : decode cX10_item 0 = .ok (.aload_n 0, 1) := by decide +kernel
theorem dX10_item_1 : decode cX10_item 1 = .ok (.iload_n 1, 1) := by decide +kernel
theorem dX10_item_2 : decode cX10_item 2 = .ok (.iload_n 2, 1) := by decide +kernel
theorem dX10_item_3 : decode cX10_item 3 = .ok (.invokevirtual 85, 3) := by decide +kernel
theorem dX10_item_6 : decode cX10_item 6 = .ok (.ifCond .ne 5, 3) := by decide +kernel
theorem dX10_item_9 : decode cX10_item 9 = .ok (.iconst (-1), 1) := by decide +kernel
theorem dX10_item_10 : decode cX10_item 10 = .ok (.ireturn, 1) := by decide +kernel
theorem dX10_item_11 : decode cX10_item 11 = .ok (.iload_n 3, 1) := by decide +kernel
theorem dX10_item_12 : decode cX10_item 12 = .ok (.iconst 0, 1) := by decide +kernel
theorem dX10_item_13 : decode cX10_item 13 = .ok (.iconst 2, 1) := by decide +kernel
theorem dX10_item_14 : decode cX10_item 14 = .ok (.invokestatic 22, 3) := by decide +kernel
theorem dX10_item_17 : decode cX10_item 17 = .ok (.ifCond .ne 6, 3) := by decide +kernel
theorem dX10_item_20 : decode cX10_item 20 = .ok (.bipush (-2), 2) := by decide +kernel
theorem dX10_item_22 : decode cX10_item 22 = .ok (.ireturn, 1) := by decide +kernel
theorem dX10_item_23 : decode cX10_item 23 = .ok (.aload_n 0, 1) := by decide +kernel
theorem dX10_item_24 : decode cX10_item 24 = .ok (.iload_n 1, 1) := by decide +kernel
theorem dX10_item_25 : decode cX10_item 25 = .ok (.iconst 4, 1) := by decide +kernel
theorem dX10_item_26 : decode cX10_item 26 = .ok (.iconst 3, 1) := by decide +kernel
theorem dX10_item_27 : decode cX10_item 27 = .ok (.iload_n 2, 1) := by decide +kernel
theorem dX10_item_28 : decode cX10_item 28 = .ok (.imul, 1) := by decide +kernel
theorem dX10_item_29 : decode cX10_item 29 = .ok (.iadd, 1) := by decide +kernel
theorem dX10_item_30 : decode cX10_item 30 = .ok (.iload_n 3, 1) := by decide +kernel
theorem dX10_item_31 : decode cX10_item 31 = .ok (.iadd, 1) := by decide +kernel
theorem dX10_item_32 : decode cX10_item 32 = .ok (.invokevirtual 26, 3) := by decide +kernel
theorem dX10_item_35 : decode cX10_item 35 = .ok (.istore 4, 2) := by decide +kernel
theorem dX10_item_37 : decode cX10_item 37 = .ok (.iload 4, 2) := by decide +kernel
theorem dX10_item_39 : decode cX10_item 39 = .ok (.iconst (-1), 1) := by decide +kernel
theorem dX10_item_40 : decode cX10_item 40 = .ok (.if_icmp .ne 8, 3) := by decide +kernel
theorem dX10_item_43 : decode cX10_item 43 = .ok (.bipush (-6), 2) := by decide +kernel
theorem dX10_item_45 : decode cX10_item 45 = .ok (.goto 5, 3) := by decide +kernel
theorem dX10_item_48 : decode cX10_item 48 = .ok (.iload 4, 2) := by decide +kernel
theorem dX10_item_50 : decode cX10_item 50 = .ok (.ireturn, 1) := by decide +kernel
theorem dX10_target_0 : decode cX10_target 0 = .ok (.aload_n 0, 1) := by decide +kernel
theorem dX10_target_1 : decode cX10_target 1 = .ok (.iload_n 1, 1) := by decide +kernel
theorem dX10_target_2 : decode cX10_target 2 = .ok (.invokevirtual 30, 3) := by decide +kernel
theorem dX10_target_5 : decode cX10_target 5 = .ok (.ifCond .ne 5, 3) := by decide +kernel
theorem dX10_target_8 : decode cX10_target 8 = .ok (.iconst (-1), 1) := by decide +kernel
theorem dX10_target_9 : decode cX10_target 9 = .ok (.ireturn, 1) := by decide +kernel
theorem dX10_target_10 : decode cX10_target 10 = .ok (.aload_n 0, 1) := by decide +kernel
theorem dX10_target_11 : decode cX10_target 11 = .ok (.iload_n 2, 1) := by decide +kernel
theorem dX10_target_12 : decode cX10_target 12 = .ok (.invokevirtual 89, 3) := by decide +kernel
theorem dX10_target_15 : decode cX10_target 15 = .ok (.ifCond .eq 15, 3) := by decide +kernel
theorem dX10_target_18 : decode cX10_target 18 = .ok (.aload_n 0, 1) := by decide +kernel
theorem dX10_target_19 : decode cX10_target 19 = .ok (.iload_n 1, 1) := by decide +kernel
theorem dX10_target_20 : decode cX10_target 20 = .ok (.bipush 22, 2) := by decide +kernel
theorem dX10_target_22 : decode cX10_target 22 = .ok (.iload_n 2, 1) := by decide +kernel
theorem dX10_target_23 : decode cX10_target 23 = .ok (.iadd, 1) := by decide +kernel
theorem dX10_target_24 : decode cX10_target 24 = .ok (.invokevirtual 26, 3) := by decide +kernel
theorem dX10_target_27 : decode cX10_target 27 = .ok (.goto 5, 3) := by decide +kernel
theorem dX10_target_30 : decode cX10_target 30 = .ok (.bipush (-2), 2) := by decide +kernel
theorem dX10_target_32 : decode cX10_target 32 = .ok (.ireturn, 1) := by decide +kernel
theorem dX10_picture_0 : decode cX10_picture 0 = .ok (.aload_n 0, 1) := by decide +kernel
theorem dX10_picture_1 : decode cX10_picture 1 = .ok (.iload_n 1, 1) := by decide +kernel
theorem dX10_picture_2 : decode cX10_picture 2 = .ok (.invokevirtual 30, 3) := by decide +kernel
theorem dX10_picture_5 : decode cX10_picture 5 = .ok (.ifCond .ne 5, 3) := by decide +kernel
theorem dX10_picture_8 : decode cX10_picture 8 = .ok (.iconst (-1), 1) := by decide +kernel
theorem dX10_picture_9 : decode cX10_picture 9 = .ok (.ireturn, 1) := by decide +kernel
theorem dX10_picture_10 : decode cX10_picture 10 = .ok (.iload_n 2, 1) := by decide +kernel
theorem dX10_picture_11 : decode cX10_picture 11 = .ok (.iconst 0, 1) := by decide +kernel
theorem dX10_picture_12 : decode cX10_picture 12 = .ok (.bipush 9, 2) := by decide +kernel
theorem dX10_picture_14 : decode cX10_picture 14 = .ok (.invokestatic 22, 3) := by decide +kernel
theorem dX10_picture_17 : decode cX10_picture 17 = .ok (.ifCond .eq 12, 3) := by decide +kernel
theorem dX10_picture_20 : decode cX10_picture 20 = .ok (.aload_n 0, 1) := by decide +kernel
theorem dX10_picture_21 : decode cX10_picture 21 = .ok (.iload_n 1, 1) := by decide +kernel
theorem dX10_picture_22 : decode cX10_picture 22 = .ok (.iload_n 2, 1) := by decide +kernel
theorem dX10_picture_23 : decode cX10_picture 23 = .ok (.invokevirtual 140, 3) := by decide +kernel
theorem dX10_picture_26 : decode cX10_picture 26 = .ok (.goto 5, 3) := by decide +kernel
theorem dX10_picture_29 : decode cX10_picture 29 = .ok (.bipush (-2), 2) := by decide +kernel
theorem dX10_picture_31 : decode cX10_picture 31 = .ok (.ireturn, 1) := by decide +kernel
theorem dX10_now_0 : decode cX10_now 0 = .ok (.iload_n 1, 1) := by decide +kernel
theorem dX10_now_1 : decode cX10_now 1 = .ok (.iconst 0, 1) := by decide +kernel
theorem dX10_now_2 : decode cX10_now 2 = .ok (.bipush 6, 2) := by decide +kernel
theorem dX10_now_4 : decode cX10_now 4 = .ok (.invokestatic 22, 3) := by decide +kernel
theorem dX10_now_7 : decode cX10_now 7 = .ok (.ifCond .ne 6, 3) := by decide +kernel
theorem dX10_now_10 : decode cX10_now 10 = .ok (.bipush (-2), 2) := by decide +kernel
theorem dX10_now_12 : decode cX10_now 12 = .ok (.ireturn, 1) := by decide +kernel
theorem dX10_now_13 : decode cX10_now 13 = .ok (.aload_n 0, 1) := by decide +kernel
theorem dX10_now_14 : decode cX10_now 14 = .ok (.getfield 7, 3) := by decide +kernel
theorem dX10_now_17 : decode cX10_now 17 = .ok (.bipush 29, 2) := by decide +kernel
theorem dX10_now_19 : decode cX10_now 19 = .ok (.iaload, 1) := by decide +kernel
theorem dX10_now_20 : decode cX10_now 20 = .ok (.ifCond .ne 6, 3) := by decide +kernel
theorem dX10_now_23 : decode cX10_now 23 = .ok (.bipush (-6), 2) := by decide +kernel
theorem dX10_now_25 : decode cX10_now 25 = .ok (.ireturn, 1) := by decide +kernel
theorem dX10_now_26 : decode cX10_now 26 = .ok (.iload_n 1, 1) := by decide +kernel
theorem dX10_now_27 : decode cX10_now 27 = .ok (.tableswitch 54 4 6 #[25, 33, 46], 25) := by decide +kernel
theorem dX10_now_52 : decode cX10_now 52 = .ok (.aload_n 0, 1) := by decide +kernel
theorem dX10_now_53 : decode cX10_now 53 = .ok (.getfield 7, 3) := by decide +kernel
theorem dX10_now_56 : decode cX10_now 56 = .ok (.bipush 35, 2) := by decide +kernel
theorem dX10_now_58 : decode cX10_now 58 = .ok (.iaload, 1) := by decide +kernel
theorem dX10_now_59 : decode cX10_now 59 = .ok (.ireturn, 1) := by decide +kernel
theorem dX10_now_60 : decode cX10_now 60 = .ok (.aload_n 0, 1) := by decide +kernel
theorem dX10_now_61 : decode cX10_now 61 = .ok (.invokevirtual 44, 3) := by decide +kernel
theorem dX10_now_64 : decode cX10_now 64 = .ok (.ifCond .eq 7, 3) := by decide +kernel
theorem dX10_now_67 : decode cX10_now 67 = .ok (.iconst 1, 1) := by decide +kernel
theorem dX10_now_68 : decode cX10_now 68 = .ok (.goto 4, 3) := by decide +kernel
theorem dX10_now_71 : decode cX10_now 71 = .ok (.iconst 0, 1) := by decide +kernel
theorem dX10_now_72 : decode cX10_now 72 = .ok (.ireturn, 1) := by decide +kernel
theorem dX10_now_73 : decode cX10_now 73 = .ok (.aload_n 0, 1) := by decide +kernel
theorem dX10_now_74 : decode cX10_now 74 = .ok (.getfield 7, 3) := by decide +kernel
theorem dX10_now_77 : decode cX10_now 77 = .ok (.bipush 34, 2) := by decide +kernel
theorem dX10_now_79 : decode cX10_now 79 = .ok (.iaload, 1) := by decide +kernel
theorem dX10_now_80 : decode cX10_now 80 = .ok (.ireturn, 1) := by decide +kernel
theorem dX10_now_81 : decode cX10_now 81 = .ok (.aload_n 0, 1) := by decide +kernel
theorem dX10_now_82 : decode cX10_now 82 = .ok (.getfield 7, 3) := by decide +kernel
theorem dX10_now_85 : decode cX10_now 85 = .ok (.bipush 30, 2) := by decide +kernel
theorem dX10_now_87 : decode cX10_now 87 = .ok (.iload_n 1, 1) := by decide +kernel
theorem dX10_now_88 : decode cX10_now 88 = .ok (.iadd, 1) := by decide +kernel
theorem dX10_now_89 : decode cX10_now 89 = .ok (.iaload, 1) := by decide +kernel
theorem dX10_now_90 : decode cX10_now 90 = .ok (.ireturn, 1) := by decide +kernel
theorem dX10_trail_0 : decode cX10_trail 0 = .ok (.iload_n 1, 1) := by decide +kernel
theorem dX10_trail_1 : decode cX10_trail 1 = .ok (.ifCond .lt 12, 3) := by decide +kernel
theorem dX10_trail_4 : decode cX10_trail 4 = .ok (.iload_n 2, 1) := by decide +kernel
theorem dX10_trail_5 : decode cX10_trail 5 = .ok (.iconst 0, 1) := by decide +kernel
theorem dX10_trail_6 : decode cX10_trail 6 = .ok (.iconst 2, 1) := by decide +kernel
theorem dX10_trail_7 : decode cX10_trail 7 = .ok (.invokestatic 22, 3) := by decide +kernel
theorem dX10_trail_10 : decode cX10_trail 10 = .ok (.ifCond .ne 6, 3) := by decide +kernel
theorem dX10_trail_13 : decode cX10_trail 13 = .ok (.bipush (-2), 2) := by decide +kernel
theorem dX10_trail_15 : decode cX10_trail 15 = .ok (.ireturn, 1) := by decide +kernel
theorem dX10_trail_16 : decode cX10_trail 16 = .ok (.aload_n 0, 1) := by decide +kernel
theorem dX10_trail_17 : decode cX10_trail 17 = .ok (.getfield 7, 3) := by decide +kernel
theorem dX10_trail_20 : decode cX10_trail 20 = .ok (.bipush 29, 2) := by decide +kernel
theorem dX10_trail_22 : decode cX10_trail 22 = .ok (.iaload, 1) := by decide +kernel
theorem dX10_trail_23 : decode cX10_trail 23 = .ok (.iconst 1, 1) := by decide +kernel
theorem dX10_trail_24 : decode cX10_trail 24 = .ok (.if_icmp .ne 40, 3) := by decide +kernel
theorem dX10_trail_27 : decode cX10_trail 27 = .ok (.iload_n 1, 1) := by decide +kernel
theorem dX10_trail_28 : decode cX10_trail 28 = .ok (.aload_n 0, 1) := by decide +kernel
theorem dX10_trail_29 : decode cX10_trail 29 = .ok (.getfield 7, 3) := by decide +kernel
theorem dX10_trail_32 : decode cX10_trail 32 = .ok (.bipush 35, 2) := by decide +kernel
theorem dX10_trail_34 : decode cX10_trail 34 = .ok (.iaload, 1) := by decide +kernel
theorem dX10_trail_35 : decode cX10_trail 35 = .ok (.if_icmp .ge 29, 3) := by decide +kernel
theorem dX10_trail_38 : decode cX10_trail 38 = .ok (.aload_n 0, 1) := by decide +kernel
theorem dX10_trail_39 : decode cX10_trail 39 = .ok (.getfield 7, 3) := by decide +kernel
theorem dX10_trail_42 : decode cX10_trail 42 = .ok (.bipush 36, 2) := by decide +kernel
theorem dX10_trail_44 : decode cX10_trail 44 = .ok (.iconst 3, 1) := by decide +kernel
theorem dX10_trail_45 : decode cX10_trail 45 = .ok (.aload_n 0, 1) := by decide +kernel
theorem dX10_trail_46 : decode cX10_trail 46 = .ok (.getfield 7, 3) := by decide +kernel
theorem dX10_trail_49 : decode cX10_trail 49 = .ok (.bipush 35, 2) := by decide +kernel
theorem dX10_trail_51 : decode cX10_trail 51 = .ok (.iaload, 1) := by decide +kernel
theorem dX10_trail_52 : decode cX10_trail 52 = .ok (.iconst 1, 1) := by decide +kernel
theorem dX10_trail_53 : decode cX10_trail 53 = .ok (.isub, 1) := by decide +kernel
theorem dX10_trail_54 : decode cX10_trail 54 = .ok (.iload_n 1, 1) := by decide +kernel
theorem dX10_trail_55 : decode cX10_trail 55 = .ok (.isub, 1) := by decide +kernel
theorem dX10_trail_56 : decode cX10_trail 56 = .ok (.imul, 1) := by decide +kernel
theorem dX10_trail_57 : decode cX10_trail 57 = .ok (.iadd, 1) := by decide +kernel
theorem dX10_trail_58 : decode cX10_trail 58 = .ok (.iload_n 2, 1) := by decide +kernel
theorem dX10_trail_59 : decode cX10_trail 59 = .ok (.iadd, 1) := by decide +kernel
theorem dX10_trail_60 : decode cX10_trail 60 = .ok (.iaload, 1) := by decide +kernel
theorem dX10_trail_61 : decode cX10_trail 61 = .ok (.goto 5, 3) := by decide +kernel
theorem dX10_trail_64 : decode cX10_trail 64 = .ok (.bipush (-6), 2) := by decide +kernel
theorem dX10_trail_66 : decode cX10_trail 66 = .ok (.ireturn, 1) := by decide +kernel
theorem dX10_labels_0 : decode cX10_labels 0 = .ok (.aload_n 0, 1) := by decide +kernel
theorem dX10_labels_1 : decode cX10_labels 1 = .ok (.getfield 7, 3) := by decide +kernel
theorem dX10_labels_4 : decode cX10_labels 4 = .ok (.bipush 29, 2) := by decide +kernel
theorem dX10_labels_6 : decode cX10_labels 6 = .ok (.iaload, 1) := by decide +kernel
theorem dX10_labels_7 : decode cX10_labels 7 = .ok (.ifCond .ne 6, 3) := by decide +kernel
theorem dX10_labels_10 : decode cX10_labels 10 = .ok (.bipush (-6), 2) := by decide +kernel
theorem dX10_labels_12 : decode cX10_labels 12 = .ok (.ireturn, 1) := by decide +kernel
theorem dX10_labels_13 : decode cX10_labels 13 = .ok (.aload_n 0, 1) := by decide +kernel
theorem dX10_labels_14 : decode cX10_labels 14 = .ok (.aload_n 0, 1) := by decide +kernel
theorem dX10_labels_15 : decode cX10_labels 15 = .ok (.getfield 7, 3) := by decide +kernel
theorem dX10_labels_18 : decode cX10_labels 18 = .ok (.bipush 30, 2) := by decide +kernel
theorem dX10_labels_20 : decode cX10_labels 20 = .ok (.iaload, 1) := by decide +kernel
theorem dX10_labels_21 : decode cX10_labels 21 = .ok (.aload_n 0, 1) := by decide +kernel
theorem dX10_labels_22 : decode cX10_labels 22 = .ok (.getfield 7, 3) := by decide +kernel
theorem dX10_labels_25 : decode cX10_labels 25 = .ok (.bipush 31, 2) := by decide +kernel
theorem dX10_labels_27 : decode cX10_labels 27 = .ok (.iaload, 1) := by decide +kernel
theorem dX10_labels_28 : decode cX10_labels 28 = .ok (.invokevirtual 140, 3) := by decide +kernel
theorem dX10_labels_31 : decode cX10_labels 31 = .ok (.istore_n 1, 1) := by decide +kernel
theorem dX10_labels_32 : decode cX10_labels 32 = .ok (.iconst 0, 1) := by decide +kernel
theorem dX10_labels_33 : decode cX10_labels 33 = .ok (.istore_n 2, 1) := by decide +kernel
theorem dX10_labels_34 : decode cX10_labels 34 = .ok (.iconst 0, 1) := by decide +kernel
theorem dX10_labels_35 : decode cX10_labels 35 = .ok (.istore_n 3, 1) := by decide +kernel
theorem dX10_labels_36 : decode cX10_labels 36 = .ok (.iload_n 3, 1) := by decide +kernel
theorem dX10_labels_37 : decode cX10_labels 37 = .ok (.bipush 6, 2) := by decide +kernel
theorem dX10_labels_39 : decode cX10_labels 39 = .ok (.if_icmp .ge 43, 3) := by decide +kernel
theorem dX10_labels_42 : decode cX10_labels 42 = .ok (.iload_n 2, 1) := by decide +kernel
theorem dX10_labels_43 : decode cX10_labels 43 = .ok (.iload_n 1, 1) := by decide +kernel
theorem dX10_labels_44 : decode cX10_labels 44 = .ok (.iload_n 3, 1) := by decide +kernel
theorem dX10_labels_45 : decode cX10_labels 45 = .ok (.ishr, 1) := by decide +kernel
theorem dX10_labels_46 : decode cX10_labels 46 = .ok (.iconst 1, 1) := by decide +kernel
theorem dX10_labels_47 : decode cX10_labels 47 = .ok (.iand, 1) := by decide +kernel
theorem dX10_labels_48 : decode cX10_labels 48 = .ok (.iconst 1, 1) := by decide +kernel
theorem dX10_labels_49 : decode cX10_labels 49 = .ok (.if_icmp .ne 24, 3) := by decide +kernel
theorem dX10_labels_52 : decode cX10_labels 52 = .ok (.aload_n 0, 1) := by decide +kernel
theorem dX10_labels_53 : decode cX10_labels 53 = .ok (.aload_n 0, 1) := by decide +kernel
theorem dX10_labels_54 : decode cX10_labels 54 = .ok (.getfield 7, 3) := by decide +kernel
theorem dX10_labels_57 : decode cX10_labels 57 = .ok (.bipush 30, 2) := by decide +kernel
theorem dX10_labels_59 : decode cX10_labels 59 = .ok (.iaload, 1) := by decide +kernel
theorem dX10_labels_60 : decode cX10_labels 60 = .ok (.iconst 4, 1) := by decide +kernel
theorem dX10_labels_61 : decode cX10_labels 61 = .ok (.iconst 3, 1) := by decide +kernel
theorem dX10_labels_62 : decode cX10_labels 62 = .ok (.iload_n 3, 1) := by decide +kernel
theorem dX10_labels_63 : decode cX10_labels 63 = .ok (.imul, 1) := by decide +kernel
theorem dX10_labels_64 : decode cX10_labels 64 = .ok (.iadd, 1) := by decide +kernel
theorem dX10_labels_65 : decode cX10_labels 65 = .ok (.iconst 2, 1) := by decide +kernel
theorem dX10_labels_66 : decode cX10_labels 66 = .ok (.iadd, 1) := by decide +kernel
theorem dX10_labels_67 : decode cX10_labels 67 = .ok (.invokevirtual 26, 3) := by decide +kernel
theorem dX10_labels_70 : decode cX10_labels 70 = .ok (.goto 4, 3) := by decide +kernel
theorem dX10_labels_73 : decode cX10_labels 73 = .ok (.iconst 0, 1) := by decide +kernel
theorem dX10_labels_74 : decode cX10_labels 74 = .ok (.iadd, 1) := by decide +kernel
theorem dX10_labels_75 : decode cX10_labels 75 = .ok (.istore_n 2, 1) := by decide +kernel
theorem dX10_labels_76 : decode cX10_labels 76 = .ok (.iinc 3 1, 3) := by decide +kernel
theorem dX10_labels_79 : decode cX10_labels 79 = .ok (.goto (-43), 3) := by decide +kernel
theorem dX10_labels_82 : decode cX10_labels 82 = .ok (.iload_n 2, 1) := by decide +kernel
theorem dX10_labels_83 : decode cX10_labels 83 = .ok (.ireturn, 1) := by decide +kernel
theorem dX10_noteNow_0 : decode cX10_noteNow 0 = .ok (.bipush (-6), 2) := by decide +kernel
theorem dX10_noteNow_2 : decode cX10_noteNow 2 = .ok (.istore_n 1, 1) := by decide +kernel
theorem dX10_noteNow_3 : decode cX10_noteNow 3 = .ok (.iconst (-1), 1) := by decide +kernel
theorem dX10_noteNow_4 : decode cX10_noteNow 4 = .ok (.istore_n 2, 1) := by decide +kernel
theorem dX10_noteNow_5 : decode cX10_noteNow 5 = .ok (.iconst 0, 1) := by decide +kernel
theorem dX10_noteNow_6 : decode cX10_noteNow 6 = .ok (.istore_n 3, 1) := by decide +kernel
theorem dX10_noteNow_7 : decode cX10_noteNow 7 = .ok (.iload_n 3, 1) := by decide +kernel
theorem dX10_noteNow_8 : decode cX10_noteNow 8 = .ok (.aload_n 0, 1) := by decide +kernel
theorem dX10_noteNow_9 : decode cX10_noteNow 9 = .ok (.getfield 7, 3) := by decide +kernel
theorem dX10_noteNow_12 : decode cX10_noteNow 12 = .ok (.bipush 11, 2) := by decide +kernel
theorem dX10_noteNow_14 : decode cX10_noteNow 14 = .ok (.iaload, 1) := by decide +kernel
theorem dX10_noteNow_15 : decode cX10_noteNow 15 = .ok (.if_icmp .ge 93, 3) := by decide +kernel
theorem dX10_noteNow_18 : decode cX10_noteNow 18 = .ok (.aload_n 0, 1) := by decide +kernel
theorem dX10_noteNow_19 : decode cX10_noteNow 19 = .ok (.getfield 7, 3) := by decide +kernel
theorem dX10_noteNow_22 : decode cX10_noteNow 22 = .ok (.bipush 29, 2) := by decide +kernel
theorem dX10_noteNow_24 : decode cX10_noteNow 24 = .ok (.iaload, 1) := by decide +kernel
theorem dX10_noteNow_25 : decode cX10_noteNow 25 = .ok (.iconst 1, 1) := by decide +kernel
theorem dX10_noteNow_26 : decode cX10_noteNow 26 = .ok (.if_icmp .ne 82, 3) := by decide +kernel
theorem dX10_noteNow_29 : decode cX10_noteNow 29 = .ok (.aload_n 0, 1) := by decide +kernel
theorem dX10_noteNow_30 : decode cX10_noteNow 30 = .ok (.getfield 7, 3) := by decide +kernel
theorem dX10_noteNow_33 : decode cX10_noteNow 33 = .ok (.bipush 12, 2) := by decide +kernel
theorem dX10_noteNow_35 : decode cX10_noteNow 35 = .ok (.iconst 2, 1) := by decide +kernel
theorem dX10_noteNow_36 : decode cX10_noteNow 36 = .ok (.iload_n 3, 1) := by decide +kernel
theorem dX10_noteNow_37 : decode cX10_noteNow 37 = .ok (.imul, 1) := by decide +kernel
theorem dX10_noteNow_38 : decode cX10_noteNow 38 = .ok (.iadd, 1) := by decide +kernel
theorem dX10_noteNow_39 : decode cX10_noteNow 39 = .ok (.iaload, 1) := by decide +kernel
theorem dX10_noteNow_40 : decode cX10_noteNow 40 = .ok (.istore 4, 2) := by decide +kernel
theorem dX10_noteNow_42 : decode cX10_noteNow 42 = .ok (.iload 4, 2) := by decide +kernel
theorem dX10_noteNow_44 : decode cX10_noteNow 44 = .ok (.aload_n 0, 1) := by decide +kernel
theorem dX10_noteNow_45 : decode cX10_noteNow 45 = .ok (.getfield 7, 3) := by decide +kernel
theorem dX10_noteNow_48 : decode cX10_noteNow 48 = .ok (.bipush 32, 2) := by decide +kernel
theorem dX10_noteNow_50 : decode cX10_noteNow 50 = .ok (.iaload, 1) := by decide +kernel
theorem dX10_noteNow_51 : decode cX10_noteNow 51 = .ok (.if_icmp .gt 13, 3) := by decide +kernel
theorem dX10_noteNow_54 : decode cX10_noteNow 54 = .ok (.iload 4, 2) := by decide +kernel
theorem dX10_noteNow_56 : decode cX10_noteNow 56 = .ok (.iload_n 2, 1) := by decide +kernel
theorem dX10_noteNow_57 : decode cX10_noteNow 57 = .ok (.if_icmp .le 7, 3) := by decide +kernel
theorem dX10_noteNow_60 : decode cX10_noteNow 60 = .ok (.iconst 1, 1) := by decide +kernel
theorem dX10_noteNow_61 : decode cX10_noteNow 61 = .ok (.goto 4, 3) := by decide +kernel
theorem dX10_noteNow_64 : decode cX10_noteNow 64 = .ok (.iconst 0, 1) := by decide +kernel
theorem dX10_noteNow_65 : decode cX10_noteNow 65 = .ok (.istore 5, 2) := by decide +kernel
theorem dX10_noteNow_67 : decode cX10_noteNow 67 = .ok (.iload 5, 2) := by decide +kernel
theorem dX10_noteNow_69 : decode cX10_noteNow 69 = .ok (.ifCond .eq 19, 3) := by decide +kernel
theorem dX10_noteNow_72 : decode cX10_noteNow 72 = .ok (.aload_n 0, 1) := by decide +kernel
theorem dX10_noteNow_73 : decode cX10_noteNow 73 = .ok (.getfield 7, 3) := by decide +kernel
theorem dX10_noteNow_76 : decode cX10_noteNow 76 = .ok (.bipush 12, 2) := by decide +kernel
theorem dX10_noteNow_78 : decode cX10_noteNow 78 = .ok (.iconst 2, 1) := by decide +kernel
theorem dX10_noteNow_79 : decode cX10_noteNow 79 = .ok (.iload_n 3, 1) := by decide +kernel
theorem dX10_noteNow_80 : decode cX10_noteNow 80 = .ok (.imul, 1) := by decide +kernel
theorem dX10_noteNow_81 : decode cX10_noteNow 81 = .ok (.iadd, 1) := by decide +kernel
theorem dX10_noteNow_82 : decode cX10_noteNow 82 = .ok (.iconst 1, 1) := by decide +kernel
theorem dX10_noteNow_83 : decode cX10_noteNow 83 = .ok (.iadd, 1) := by decide +kernel
theorem dX10_noteNow_84 : decode cX10_noteNow 84 = .ok (.iaload, 1) := by decide +kernel
theorem dX10_noteNow_85 : decode cX10_noteNow 85 = .ok (.goto 4, 3) := by decide +kernel
theorem dX10_noteNow_88 : decode cX10_noteNow 88 = .ok (.iload_n 1, 1) := by decide +kernel
theorem dX10_noteNow_89 : decode cX10_noteNow 89 = .ok (.istore_n 1, 1) := by decide +kernel
theorem dX10_noteNow_90 : decode cX10_noteNow 90 = .ok (.iload 5, 2) := by decide +kernel
theorem dX10_noteNow_92 : decode cX10_noteNow 92 = .ok (.ifCond .eq 8, 3) := by decide +kernel
theorem dX10_noteNow_95 : decode cX10_noteNow 95 = .ok (.iload 4, 2) := by decide +kernel
theorem dX10_noteNow_97 : decode cX10_noteNow 97 = .ok (.goto 4, 3) := by decide +kernel
theorem dX10_noteNow_100 : decode cX10_noteNow 100 = .ok (.iload_n 2, 1) := by decide +kernel
theorem dX10_noteNow_101 : decode cX10_noteNow 101 = .ok (.istore_n 2, 1) := by decide +kernel
theorem dX10_noteNow_102 : decode cX10_noteNow 102 = .ok (.iinc 3 1, 3) := by decide +kernel
theorem dX10_noteNow_105 : decode cX10_noteNow 105 = .ok (.goto (-98), 3) := by decide +kernel
theorem dX10_noteNow_108 : decode cX10_noteNow 108 = .ok (.iload_n 1, 1) := by decide +kernel
theorem dX10_noteNow_109 : decode cX10_noteNow 109 = .ok (.ireturn, 1) := by decide +kernel
theorem dX10_end_0 : decode cX10_end 0 = .ok (.aload_n 0, 1) := by decide +kernel
theorem dX10_end_1 : decode cX10_end 1 = .ok (.getfield 7, 3) := by decide +kernel
theorem dX10_end_4 : decode cX10_end 4 = .ok (.bipush 28, 2) := by decide +kernel
theorem dX10_end_6 : decode cX10_end 6 = .ok (.iaload, 1) := by decide +kernel
theorem dX10_end_7 : decode cX10_end 7 = .ok (.ireturn, 1) := by decide +kernel
theorem dX10_meanSteps_0 : decode cX10_meanSteps 0 = .ok (.iconst 0, 1) := by decide +kernel
theorem dX10_meanSteps_1 : decode cX10_meanSteps 1 = .ok (.istore_n 1, 1) := by decide +kernel
theorem dX10_meanSteps_2 : decode cX10_meanSteps 2 = .ok (.iconst 0, 1) := by decide +kernel
theorem dX10_meanSteps_3 : decode cX10_meanSteps 3 = .ok (.istore_n 2, 1) := by decide +kernel
theorem dX10_meanSteps_4 : decode cX10_meanSteps 4 = .ok (.iload_n 2, 1) := by decide +kernel
theorem dX10_meanSteps_5 : decode cX10_meanSteps 5 = .ok (.aload_n 0, 1) := by decide +kernel
theorem dX10_meanSteps_6 : decode cX10_meanSteps 6 = .ok (.getfield 7, 3) := by decide +kernel
theorem dX10_meanSteps_9 : decode cX10_meanSteps 9 = .ok (.iconst 0, 1) := by decide +kernel
theorem dX10_meanSteps_10 : decode cX10_meanSteps 10 = .ok (.iaload, 1) := by decide +kernel
theorem dX10_meanSteps_11 : decode cX10_meanSteps 11 = .ok (.if_icmp .ge 26, 3) := by decide +kernel
theorem dX10_meanSteps_14 : decode cX10_meanSteps 14 = .ok (.iload_n 1, 1) := by decide +kernel
theorem dX10_meanSteps_15 : decode cX10_meanSteps 15 = .ok (.aload_n 0, 1) := by decide +kernel
theorem dX10_meanSteps_16 : decode cX10_meanSteps 16 = .ok (.aload_n 0, 1) := by decide +kernel
theorem dX10_meanSteps_17 : decode cX10_meanSteps 17 = .ok (.getfield 7, 3) := by decide +kernel
theorem dX10_meanSteps_20 : decode cX10_meanSteps 20 = .ok (.iconst 1, 1) := by decide +kernel
theorem dX10_meanSteps_21 : decode cX10_meanSteps 21 = .ok (.iload_n 2, 1) := by decide +kernel
theorem dX10_meanSteps_22 : decode cX10_meanSteps 22 = .ok (.iadd, 1) := by decide +kernel
theorem dX10_meanSteps_23 : decode cX10_meanSteps 23 = .ok (.iaload, 1) := by decide +kernel
theorem dX10_meanSteps_24 : decode cX10_meanSteps 24 = .ok (.invokevirtual 48, 3) := by decide +kernel
theorem dX10_meanSteps_27 : decode cX10_meanSteps 27 = .ok (.iconst 1, 1) := by decide +kernel
theorem dX10_meanSteps_28 : decode cX10_meanSteps 28 = .ok (.iadd, 1) := by decide +kernel
theorem dX10_meanSteps_29 : decode cX10_meanSteps 29 = .ok (.iadd, 1) := by decide +kernel
theorem dX10_meanSteps_30 : decode cX10_meanSteps 30 = .ok (.istore_n 1, 1) := by decide +kernel
theorem dX10_meanSteps_31 : decode cX10_meanSteps 31 = .ok (.iinc 2 1, 3) := by decide +kernel
theorem dX10_meanSteps_34 : decode cX10_meanSteps 34 = .ok (.goto (-30), 3) := by decide +kernel
theorem dX10_meanSteps_37 : decode cX10_meanSteps 37 = .ok (.aload_n 0, 1) := by decide +kernel
theorem dX10_meanSteps_38 : decode cX10_meanSteps 38 = .ok (.getfield 7, 3) := by decide +kernel
theorem dX10_meanSteps_41 : decode cX10_meanSteps 41 = .ok (.iconst 0, 1) := by decide +kernel
theorem dX10_meanSteps_42 : decode cX10_meanSteps 42 = .ok (.iaload, 1) := by decide +kernel
theorem dX10_meanSteps_43 : decode cX10_meanSteps 43 = .ok (.ifCond .ne 7, 3) := by decide +kernel
theorem dX10_meanSteps_46 : decode cX10_meanSteps 46 = .ok (.fconst 0, 1) := by decide +kernel
theorem dX10_meanSteps_47 : decode cX10_meanSteps 47 = .ok (.goto 13, 3) := by decide +kernel
theorem dX10_meanSteps_50 : decode cX10_meanSteps 50 = .ok (.iload_n 1, 1) := by decide +kernel
theorem dX10_meanSteps_51 : decode cX10_meanSteps 51 = .ok (.i2f, 1) := by decide +kernel
theorem dX10_meanSteps_52 : decode cX10_meanSteps 52 = .ok (.aload_n 0, 1) := by decide +kernel
theorem dX10_meanSteps_53 : decode cX10_meanSteps 53 = .ok (.getfield 7, 3) := by decide +kernel
theorem dX10_meanSteps_56 : decode cX10_meanSteps 56 = .ok (.iconst 0, 1) := by decide +kernel
theorem dX10_meanSteps_57 : decode cX10_meanSteps 57 = .ok (.iaload, 1) := by decide +kernel
theorem dX10_meanSteps_58 : decode cX10_meanSteps 58 = .ok (.i2f, 1) := by decide +kernel
theorem dX10_meanSteps_59 : decode cX10_meanSteps 59 = .ok (.fdiv, 1) := by decide +kernel
theorem dX10_meanSteps_60 : decode cX10_meanSteps 60 = .ok (.freturn, 1) := by decide +kernel
theorem dX10_movesLeft_0 : decode cX10_movesLeft 0 = .ok (.aload_n 0, 1) := by decide +kernel
theorem dX10_movesLeft_1 : decode cX10_movesLeft 1 = .ok (.getfield 7, 3) := by decide +kernel
theorem dX10_movesLeft_4 : decode cX10_movesLeft 4 = .ok (.bipush 29, 2) := by decide +kernel
theorem dX10_movesLeft_6 : decode cX10_movesLeft 6 = .ok (.iaload, 1) := by decide +kernel
theorem dX10_movesLeft_7 : decode cX10_movesLeft 7 = .ok (.ifCond .ne 6, 3) := by decide +kernel
theorem dX10_movesLeft_10 : decode cX10_movesLeft 10 = .ok (.bipush (-6), 2) := by decide +kernel
theorem dX10_movesLeft_12 : decode cX10_movesLeft 12 = .ok (.ireturn, 1) := by decide +kernel
theorem dX10_movesLeft_13 : decode cX10_movesLeft 13 = .ok (.aload_n 0, 1) := by decide +kernel
theorem dX10_movesLeft_14 : decode cX10_movesLeft 14 = .ok (.aload_n 0, 1) := by decide +kernel
theorem dX10_movesLeft_15 : decode cX10_movesLeft 15 = .ok (.getfield 7, 3) := by decide +kernel
theorem dX10_movesLeft_18 : decode cX10_movesLeft 18 = .ok (.bipush 30, 2) := by decide +kernel
theorem dX10_movesLeft_20 : decode cX10_movesLeft 20 = .ok (.iaload, 1) := by decide +kernel
theorem dX10_movesLeft_21 : decode cX10_movesLeft 21 = .ok (.invokevirtual 48, 3) := by decide +kernel
theorem dX10_movesLeft_24 : decode cX10_movesLeft 24 = .ok (.aload_n 0, 1) := by decide +kernel
theorem dX10_movesLeft_25 : decode cX10_movesLeft 25 = .ok (.getfield 7, 3) := by decide +kernel
theorem dX10_movesLeft_28 : decode cX10_movesLeft 28 = .ok (.bipush 31, 2) := by decide +kernel
theorem dX10_movesLeft_30 : decode cX10_movesLeft 30 = .ok (.iaload, 1) := by decide +kernel
theorem dX10_movesLeft_31 : decode cX10_movesLeft 31 = .ok (.isub, 1) := by decide +kernel
theorem dX10_movesLeft_32 : decode cX10_movesLeft 32 = .ok (.istore_n 1, 1) := by decide +kernel
theorem dX10_movesLeft_33 : decode cX10_movesLeft 33 = .ok (.aload_n 0, 1) := by decide +kernel
theorem dX10_movesLeft_34 : decode cX10_movesLeft 34 = .ok (.aload_n 0, 1) := by decide +kernel
theorem dX10_movesLeft_35 : decode cX10_movesLeft 35 = .ok (.getfield 7, 3) := by decide +kernel
theorem dX10_movesLeft_38 : decode cX10_movesLeft 38 = .ok (.bipush 30, 2) := by decide +kernel
theorem dX10_movesLeft_40 : decode cX10_movesLeft 40 = .ok (.iaload, 1) := by decide +kernel
theorem dX10_movesLeft_41 : decode cX10_movesLeft 41 = .ok (.invokevirtual 37, 3) := by decide +kernel
theorem dX10_movesLeft_44 : decode cX10_movesLeft 44 = .ok (.iconst 1, 1) := by decide +kernel
theorem dX10_movesLeft_45 : decode cX10_movesLeft 45 = .ok (.iadd, 1) := by decide +kernel
theorem dX10_movesLeft_46 : decode cX10_movesLeft 46 = .ok (.istore_n 2, 1) := by decide +kernel
theorem dX10_movesLeft_47 : decode cX10_movesLeft 47 = .ok (.iload_n 2, 1) := by decide +kernel
theorem dX10_movesLeft_48 : decode cX10_movesLeft 48 = .ok (.aload_n 0, 1) := by decide +kernel
theorem dX10_movesLeft_49 : decode cX10_movesLeft 49 = .ok (.getfield 7, 3) := by decide +kernel
theorem dX10_movesLeft_52 : decode cX10_movesLeft 52 = .ok (.iconst 0, 1) := by decide +kernel
theorem dX10_movesLeft_53 : decode cX10_movesLeft 53 = .ok (.iaload, 1) := by decide +kernel
theorem dX10_movesLeft_54 : decode cX10_movesLeft 54 = .ok (.if_icmp .ge 45, 3) := by decide +kernel
theorem dX10_movesLeft_57 : decode cX10_movesLeft 57 = .ok (.iload_n 1, 1) := by decide +kernel
theorem dX10_movesLeft_58 : decode cX10_movesLeft 58 = .ok (.aload_n 0, 1) := by decide +kernel
theorem dX10_movesLeft_59 : decode cX10_movesLeft 59 = .ok (.aload_n 0, 1) := by decide +kernel
theorem dX10_movesLeft_60 : decode cX10_movesLeft 60 = .ok (.getfield 7, 3) := by decide +kernel
theorem dX10_movesLeft_63 : decode cX10_movesLeft 63 = .ok (.iconst 1, 1) := by decide +kernel
theorem dX10_movesLeft_64 : decode cX10_movesLeft 64 = .ok (.iload_n 2, 1) := by decide +kernel
theorem dX10_movesLeft_65 : decode cX10_movesLeft 65 = .ok (.iadd, 1) := by decide +kernel
theorem dX10_movesLeft_66 : decode cX10_movesLeft 66 = .ok (.iaload, 1) := by decide +kernel
theorem dX10_movesLeft_67 : decode cX10_movesLeft 67 = .ok (.invokevirtual 34, 3) := by decide +kernel
theorem dX10_movesLeft_70 : decode cX10_movesLeft 70 = .ok (.ifCond .eq 20, 3) := by decide +kernel
theorem dX10_movesLeft_73 : decode cX10_movesLeft 73 = .ok (.aload_n 0, 1) := by decide +kernel
theorem dX10_movesLeft_74 : decode cX10_movesLeft 74 = .ok (.aload_n 0, 1) := by decide +kernel
theorem dX10_movesLeft_75 : decode cX10_movesLeft 75 = .ok (.getfield 7, 3) := by decide +kernel
theorem dX10_movesLeft_78 : decode cX10_movesLeft 78 = .ok (.iconst 1, 1) := by decide +kernel
theorem dX10_movesLeft_79 : decode cX10_movesLeft 79 = .ok (.iload_n 2, 1) := by decide +kernel
theorem dX10_movesLeft_80 : decode cX10_movesLeft 80 = .ok (.iadd, 1) := by decide +kernel
theorem dX10_movesLeft_81 : decode cX10_movesLeft 81 = .ok (.iaload, 1) := by decide +kernel
theorem dX10_movesLeft_82 : decode cX10_movesLeft 82 = .ok (.invokevirtual 48, 3) := by decide +kernel
theorem dX10_movesLeft_85 : decode cX10_movesLeft 85 = .ok (.iconst 1, 1) := by decide +kernel
theorem dX10_movesLeft_86 : decode cX10_movesLeft 86 = .ok (.iadd, 1) := by decide +kernel
theorem dX10_movesLeft_87 : decode cX10_movesLeft 87 = .ok (.goto 4, 3) := by decide +kernel
theorem dX10_movesLeft_90 : decode cX10_movesLeft 90 = .ok (.iconst 0, 1) := by decide +kernel
theorem dX10_movesLeft_91 : decode cX10_movesLeft 91 = .ok (.iadd, 1) := by decide +kernel
theorem dX10_movesLeft_92 : decode cX10_movesLeft 92 = .ok (.istore_n 1, 1) := by decide +kernel
theorem dX10_movesLeft_93 : decode cX10_movesLeft 93 = .ok (.iinc 2 1, 3) := by decide +kernel
theorem dX10_movesLeft_96 : decode cX10_movesLeft 96 = .ok (.goto (-49), 3) := by decide +kernel
theorem dX10_movesLeft_99 : decode cX10_movesLeft 99 = .ok (.iload_n 1, 1) := by decide +kernel
theorem dX10_movesLeft_100 : decode cX10_movesLeft 100 = .ok (.ireturn, 1) := by decide +kernel
theorem dX10_reaches_0 : decode cX10_reaches 0 = .ok (.iload_n 1, 1) := by decide +kernel
theorem dX10_reaches_1 : decode cX10_reaches 1 = .ok (.bipush (-6), 2) := by decide +kernel
theorem dX10_reaches_3 : decode cX10_reaches 3 = .ok (.if_icmp .eq 23, 3) := by decide +kernel
theorem dX10_reaches_6 : decode cX10_reaches 6 = .ok (.aload_n 0, 1) := by decide +kernel
theorem dX10_reaches_7 : decode cX10_reaches 7 = .ok (.getfield 19, 3) := by decide +kernel
theorem dX10_reaches_10 : decode cX10_reaches 10 = .ok (.bipush 10, 2) := by decide +kernel
theorem dX10_reaches_12 : decode cX10_reaches 12 = .ok (.iload_n 1, 1) := by decide +kernel
theorem dX10_reaches_13 : decode cX10_reaches 13 = .ok (.imul, 1) := by decide +kernel
theorem dX10_reaches_14 : decode cX10_reaches 14 = .ok (.iload_n 2, 1) := by decide +kernel
theorem dX10_reaches_15 : decode cX10_reaches 15 = .ok (.iadd, 1) := by decide +kernel
theorem dX10_reaches_16 : decode cX10_reaches 16 = .ok (.iaload, 1) := by decide +kernel
theorem dX10_reaches_17 : decode cX10_reaches 17 = .ok (.bipush (-6), 2) := by decide +kernel
theorem dX10_reaches_19 : decode cX10_reaches 19 = .ok (.if_icmp .ne 7, 3) := by decide +kernel
theorem dX10_reaches_22 : decode cX10_reaches 22 = .ok (.iconst 1, 1) := by decide +kernel
theorem dX10_reaches_23 : decode cX10_reaches 23 = .ok (.goto 4, 3) := by decide +kernel
theorem dX10_reaches_26 : decode cX10_reaches 26 = .ok (.iconst 0, 1) := by decide +kernel
theorem dX10_reaches_27 : decode cX10_reaches 27 = .ok (.istore 4, 2) := by decide +kernel
theorem dX10_reaches_29 : decode cX10_reaches 29 = .ok (.iload 4, 2) := by decide +kernel
theorem dX10_reaches_31 : decode cX10_reaches 31 = .ok (.ifCond .eq 15, 3) := by decide +kernel
theorem dX10_reaches_34 : decode cX10_reaches 34 = .ok (.aload_n 0, 1) := by decide +kernel
theorem dX10_reaches_35 : decode cX10_reaches 35 = .ok (.getfield 19, 3) := by decide +kernel
theorem dX10_reaches_38 : decode cX10_reaches 38 = .ok (.bipush 10, 2) := by decide +kernel
theorem dX10_reaches_40 : decode cX10_reaches 40 = .ok (.iload_n 1, 1) := by decide +kernel
theorem dX10_reaches_41 : decode cX10_reaches 41 = .ok (.imul, 1) := by decide +kernel
theorem dX10_reaches_42 : decode cX10_reaches 42 = .ok (.iload_n 2, 1) := by decide +kernel
theorem dX10_reaches_43 : decode cX10_reaches 43 = .ok (.iadd, 1) := by decide +kernel
theorem dX10_reaches_44 : decode cX10_reaches 44 = .ok (.iload_n 3, 1) := by decide +kernel
theorem dX10_reaches_45 : decode cX10_reaches 45 = .ok (.iastore, 1) := by decide +kernel
theorem dX10_reaches_46 : decode cX10_reaches 46 = .ok (.iload 4, 2) := by decide +kernel
theorem dX10_reaches_48 : decode cX10_reaches 48 = .ok (.ireturn, 1) := by decide +kernel
theorem dX10_leads_0 : decode cX10_leads 0 = .ok (.iconst 0, 1) := by decide +kernel
theorem dX10_leads_1 : decode cX10_leads 1 = .ok (.istore_n 2, 1) := by decide +kernel
theorem dX10_leads_2 : decode cX10_leads 2 = .ok (.iload_n 2, 1) := by decide +kernel
theorem dX10_leads_3 : decode cX10_leads 3 = .ok (.bipush 100, 2) := by decide +kernel
theorem dX10_leads_5 : decode cX10_leads 5 = .ok (.if_icmp .ge 17, 3) := by decide +kernel
theorem dX10_leads_8 : decode cX10_leads 8 = .ok (.aload_n 0, 1) := by decide +kernel
theorem dX10_leads_9 : decode cX10_leads 9 = .ok (.getfield 19, 3) := by decide +kernel
theorem dX10_leads_12 : decode cX10_leads 12 = .ok (.iload_n 2, 1) := by decide +kernel
theorem dX10_leads_13 : decode cX10_leads 13 = .ok (.bipush (-6), 2) := by decide +kernel
theorem dX10_leads_15 : decode cX10_leads 15 = .ok (.iastore, 1) := by decide +kernel
theorem dX10_leads_16 : decode cX10_leads 16 = .ok (.iinc 2 1, 3) := by decide +kernel
theorem dX10_leads_19 : decode cX10_leads 19 = .ok (.goto (-17), 3) := by decide +kernel
theorem dX10_leads_22 : decode cX10_leads 22 = .ok (.aload_n 0, 1) := by decide +kernel
theorem dX10_leads_23 : decode cX10_leads 23 = .ok (.getfield 19, 3) := by decide +kernel
theorem dX10_leads_26 : decode cX10_leads 26 = .ok (.bipush 10, 2) := by decide +kernel
theorem dX10_leads_28 : decode cX10_leads 28 = .ok (.aload_n 0, 1) := by decide +kernel
theorem dX10_leads_29 : decode cX10_leads 29 = .ok (.getfield 7, 3) := by decide +kernel
theorem dX10_leads_32 : decode cX10_leads 32 = .ok (.bipush 30, 2) := by decide +kernel
theorem dX10_leads_34 : decode cX10_leads 34 = .ok (.iaload, 1) := by decide +kernel
theorem dX10_leads_35 : decode cX10_leads 35 = .ok (.imul, 1) := by decide +kernel
theorem dX10_leads_36 : decode cX10_leads 36 = .ok (.aload_n 0, 1) := by decide +kernel
theorem dX10_leads_37 : decode cX10_leads 37 = .ok (.getfield 7, 3) := by decide +kernel
theorem dX10_leads_40 : decode cX10_leads 40 = .ok (.bipush 31, 2) := by decide +kernel
theorem dX10_leads_42 : decode cX10_leads 42 = .ok (.iaload, 1) := by decide +kernel
theorem dX10_leads_43 : decode cX10_leads 43 = .ok (.iadd, 1) := by decide +kernel
theorem dX10_leads_44 : decode cX10_leads 44 = .ok (.iconst 0, 1) := by decide +kernel
theorem dX10_leads_45 : decode cX10_leads 45 = .ok (.iastore, 1) := by decide +kernel
theorem dX10_leads_46 : decode cX10_leads 46 = .ok (.iconst 1, 1) := by decide +kernel
theorem dX10_leads_47 : decode cX10_leads 47 = .ok (.istore_n 2, 1) := by decide +kernel
theorem dX10_leads_48 : decode cX10_leads 48 = .ok (.iconst 0, 1) := by decide +kernel
theorem dX10_leads_49 : decode cX10_leads 49 = .ok (.istore_n 3, 1) := by decide +kernel
theorem dX10_leads_50 : decode cX10_leads 50 = .ok (.iload_n 2, 1) := by decide +kernel
theorem dX10_leads_51 : decode cX10_leads 51 = .ok (.ifCond .eq 166, 3) := by decide +kernel
theorem dX10_leads_54 : decode cX10_leads 54 = .ok (.iconst 0, 1) := by decide +kernel
theorem dX10_leads_55 : decode cX10_leads 55 = .ok (.istore_n 2, 1) := by decide +kernel
theorem dX10_leads_56 : decode cX10_leads 56 = .ok (.iconst 0, 1) := by decide +kernel
theorem dX10_leads_57 : decode cX10_leads 57 = .ok (.istore 4, 2) := by decide +kernel
theorem dX10_leads_59 : decode cX10_leads 59 = .ok (.iload 4, 2) := by decide +kernel
theorem dX10_leads_61 : decode cX10_leads 61 = .ok (.bipush 100, 2) := by decide +kernel
theorem dX10_leads_63 : decode cX10_leads 63 = .ok (.if_icmp .ge 148, 3) := by decide +kernel
theorem dX10_leads_66 : decode cX10_leads 66 = .ok (.aload_n 0, 1) := by decide +kernel
theorem dX10_leads_67 : decode cX10_leads 67 = .ok (.getfield 19, 3) := by decide +kernel
theorem dX10_leads_70 : decode cX10_leads 70 = .ok (.iload 4, 2) := by decide +kernel
theorem dX10_leads_72 : decode cX10_leads 72 = .ok (.iaload, 1) := by decide +kernel
theorem dX10_leads_73 : decode cX10_leads 73 = .ok (.iload_n 3, 1) := by decide +kernel
theorem dX10_leads_74 : decode cX10_leads 74 = .ok (.if_icmp .ne 131, 3) := by decide +kernel
theorem dX10_leads_77 : decode cX10_leads 77 = .ok (.iload 4, 2) := by decide +kernel
theorem dX10_leads_79 : decode cX10_leads 79 = .ok (.bipush 10, 2) := by decide +kernel
theorem dX10_leads_81 : decode cX10_leads 81 = .ok (.idiv, 1) := by decide +kernel
theorem dX10_leads_82 : decode cX10_leads 82 = .ok (.istore 5, 2) := by decide +kernel
theorem dX10_leads_84 : decode cX10_leads 84 = .ok (.iload 4, 2) := by decide +kernel
theorem dX10_leads_86 : decode cX10_leads 86 = .ok (.bipush 10, 2) := by decide +kernel
theorem dX10_leads_88 : decode cX10_leads 88 = .ok (.irem, 1) := by decide +kernel
theorem dX10_leads_89 : decode cX10_leads 89 = .ok (.aload_n 0, 1) := by decide +kernel
theorem dX10_leads_90 : decode cX10_leads 90 = .ok (.iload 5, 2) := by decide +kernel
theorem dX10_leads_92 : decode cX10_leads 92 = .ok (.invokevirtual 48, 3) := by decide +kernel
theorem dX10_leads_95 : decode cX10_leads 95 = .ok (.if_icmp .lt 7, 3) := by decide +kernel
theorem dX10_leads_98 : decode cX10_leads 98 = .ok (.iconst 1, 1) := by decide +kernel
theorem dX10_leads_99 : decode cX10_leads 99 = .ok (.goto 4, 3) := by decide +kernel
theorem dX10_leads_102 : decode cX10_leads 102 = .ok (.iconst 0, 1) := by decide +kernel
theorem dX10_leads_103 : decode cX10_leads 103 = .ok (.istore 6, 2) := by decide +kernel
theorem dX10_leads_105 : decode cX10_leads 105 = .ok (.aload_n 0, 1) := by decide +kernel
theorem dX10_leads_106 : decode cX10_leads 106 = .ok (.iload 6, 2) := by decide +kernel
theorem dX10_leads_108 : decode cX10_leads 108 = .ok (.ifCond .eq 12, 3) := by decide +kernel
theorem dX10_leads_111 : decode cX10_leads 111 = .ok (.aload_n 0, 1) := by decide +kernel
theorem dX10_leads_112 : decode cX10_leads 112 = .ok (.iload 5, 2) := by decide +kernel
theorem dX10_leads_114 : decode cX10_leads 114 = .ok (.invokevirtual 51, 3) := by decide +kernel
theorem dX10_leads_117 : decode cX10_leads 117 = .ok (.goto 5, 3) := by decide +kernel
theorem dX10_leads_120 : decode cX10_leads 120 = .ok (.iload 5, 2) := by decide +kernel
theorem dX10_leads_122 : decode cX10_leads 122 = .ok (.iload 6, 2) := by decide +kernel
theorem dX10_leads_124 : decode cX10_leads 124 = .ok (.ifCond .eq 7, 3) := by decide +kernel
theorem dX10_leads_127 : decode cX10_leads 127 = .ok (.iconst 0, 1) := by decide +kernel
theorem dX10_leads_128 : decode cX10_leads 128 = .ok (.goto 10, 3) := by decide +kernel
theorem dX10_leads_131 : decode cX10_leads 131 = .ok (.iload 4, 2) := by decide +kernel
theorem dX10_leads_133 : decode cX10_leads 133 = .ok (.bipush 10, 2) := by decide +kernel
theorem dX10_leads_135 : decode cX10_leads 135 = .ok (.irem, 1) := by decide +kernel
theorem dX10_leads_136 : decode cX10_leads 136 = .ok (.iconst 1, 1) := by decide +kernel
theorem dX10_leads_137 : decode cX10_leads 137 = .ok (.iadd, 1) := by decide +kernel
theorem dX10_leads_138 : decode cX10_leads 138 = .ok (.iload_n 3, 1) := by decide +kernel
theorem dX10_leads_139 : decode cX10_leads 139 = .ok (.iconst 1, 1) := by decide +kernel
theorem dX10_leads_140 : decode cX10_leads 140 = .ok (.iadd, 1) := by decide +kernel
theorem dX10_leads_141 : decode cX10_leads 141 = .ok (.invokevirtual 143, 3) := by decide +kernel
theorem dX10_leads_144 : decode cX10_leads 144 = .ok (.ifCond .ne 7, 3) := by decide +kernel
theorem dX10_leads_147 : decode cX10_leads 147 = .ok (.iload_n 2, 1) := by decide +kernel
theorem dX10_leads_148 : decode cX10_leads 148 = .ok (.ifCond .eq 7, 3) := by decide +kernel
theorem dX10_leads_151 : decode cX10_leads 151 = .ok (.iconst 1, 1) := by decide +kernel
theorem dX10_leads_152 : decode cX10_leads 152 = .ok (.goto 4, 3) := by decide +kernel
theorem dX10_leads_155 : decode cX10_leads 155 = .ok (.iconst 0, 1) := by decide +kernel
theorem dX10_leads_156 : decode cX10_leads 156 = .ok (.istore_n 2, 1) := by decide +kernel
theorem dX10_leads_157 : decode cX10_leads 157 = .ok (.iconst 0, 1) := by decide +kernel
theorem dX10_leads_158 : decode cX10_leads 158 = .ok (.istore 7, 2) := by decide +kernel
theorem dX10_leads_160 : decode cX10_leads 160 = .ok (.iload 7, 2) := by decide +kernel
theorem dX10_leads_162 : decode cX10_leads 162 = .ok (.bipush 10, 2) := by decide +kernel
theorem dX10_leads_164 : decode cX10_leads 164 = .ok (.if_icmp .ge 41, 3) := by decide +kernel
theorem dX10_leads_167 : decode cX10_leads 167 = .ok (.aload_n 0, 1) := by decide +kernel
theorem dX10_leads_168 : decode cX10_leads 168 = .ok (.aload_n 0, 1) := by decide +kernel
theorem dX10_leads_169 : decode cX10_leads 169 = .ok (.iload 5, 2) := by decide +kernel
theorem dX10_leads_171 : decode cX10_leads 171 = .ok (.bipush 22, 2) := by decide +kernel
theorem dX10_leads_173 : decode cX10_leads 173 = .ok (.iload 7, 2) := by decide +kernel
theorem dX10_leads_175 : decode cX10_leads 175 = .ok (.iadd, 1) := by decide +kernel
theorem dX10_leads_176 : decode cX10_leads 176 = .ok (.invokevirtual 26, 3) := by decide +kernel
theorem dX10_leads_179 : decode cX10_leads 179 = .ok (.iconst 0, 1) := by decide +kernel
theorem dX10_leads_180 : decode cX10_leads 180 = .ok (.iload_n 3, 1) := by decide +kernel
theorem dX10_leads_181 : decode cX10_leads 181 = .ok (.iconst 1, 1) := by decide +kernel
theorem dX10_leads_182 : decode cX10_leads 182 = .ok (.iadd, 1) := by decide +kernel
theorem dX10_leads_183 : decode cX10_leads 183 = .ok (.invokevirtual 143, 3) := by decide +kernel
theorem dX10_leads_186 : decode cX10_leads 186 = .ok (.ifCond .ne 7, 3) := by decide +kernel
theorem dX10_leads_189 : decode cX10_leads 189 = .ok (.iload_n 2, 1) := by decide +kernel
theorem dX10_leads_190 : decode cX10_leads 190 = .ok (.ifCond .eq 7, 3) := by decide +kernel
theorem dX10_leads_193 : decode cX10_leads 193 = .ok (.iconst 1, 1) := by decide +kernel
theorem dX10_leads_194 : decode cX10_leads 194 = .ok (.goto 4, 3) := by decide +kernel
theorem dX10_leads_197 : decode cX10_leads 197 = .ok (.iconst 0, 1) := by decide +kernel
theorem dX10_leads_198 : decode cX10_leads 198 = .ok (.istore_n 2, 1) := by decide +kernel
theorem dX10_leads_199 : decode cX10_leads 199 = .ok (.iinc 7 1, 3) := by decide +kernel
theorem dX10_leads_202 : decode cX10_leads 202 = .ok (.goto (-42), 3) := by decide +kernel
theorem dX10_leads_205 : decode cX10_leads 205 = .ok (.iinc 4 1, 3) := by decide +kernel
theorem dX10_leads_208 : decode cX10_leads 208 = .ok (.goto (-149), 3) := by decide +kernel
theorem dX10_leads_211 : decode cX10_leads 211 = .ok (.iinc 3 1, 3) := by decide +kernel
theorem dX10_leads_214 : decode cX10_leads 214 = .ok (.goto (-164), 3) := by decide +kernel
theorem dX10_leads_217 : decode cX10_leads 217 = .ok (.bipush (-6), 2) := by decide +kernel
theorem dX10_leads_219 : decode cX10_leads 219 = .ok (.istore_n 3, 1) := by decide +kernel
theorem dX10_leads_220 : decode cX10_leads 220 = .ok (.bipush 10, 2) := by decide +kernel
theorem dX10_leads_222 : decode cX10_leads 222 = .ok (.iload_n 1, 1) := by decide +kernel
theorem dX10_leads_223 : decode cX10_leads 223 = .ok (.imul, 1) := by decide +kernel
theorem dX10_leads_224 : decode cX10_leads 224 = .ok (.istore 4, 2) := by decide +kernel
theorem dX10_leads_226 : decode cX10_leads 226 = .ok (.iload 4, 2) := by decide +kernel
theorem dX10_leads_228 : decode cX10_leads 228 = .ok (.bipush 10, 2) := by decide +kernel
theorem dX10_leads_230 : decode cX10_leads 230 = .ok (.iload_n 1, 1) := by decide +kernel
theorem dX10_leads_231 : decode cX10_leads 231 = .ok (.imul, 1) := by decide +kernel
theorem dX10_leads_232 : decode cX10_leads 232 = .ok (.bipush 10, 2) := by decide +kernel
theorem dX10_leads_234 : decode cX10_leads 234 = .ok (.iadd, 1) := by decide +kernel
theorem dX10_leads_235 : decode cX10_leads 235 = .ok (.if_icmp .ge 50, 3) := by decide +kernel
theorem dX10_leads_238 : decode cX10_leads 238 = .ok (.aload_n 0, 1) := by decide +kernel
theorem dX10_leads_239 : decode cX10_leads 239 = .ok (.getfield 19, 3) := by decide +kernel
theorem dX10_leads_242 : decode cX10_leads 242 = .ok (.iload 4, 2) := by decide +kernel
theorem dX10_leads_244 : decode cX10_leads 244 = .ok (.iaload, 1) := by decide +kernel
theorem dX10_leads_245 : decode cX10_leads 245 = .ok (.bipush (-6), 2) := by decide +kernel
theorem dX10_leads_247 : decode cX10_leads 247 = .ok (.if_icmp .eq 30, 3) := by decide +kernel
theorem dX10_leads_250 : decode cX10_leads 250 = .ok (.iload_n 3, 1) := by decide +kernel
theorem dX10_leads_251 : decode cX10_leads 251 = .ok (.bipush (-6), 2) := by decide +kernel
theorem dX10_leads_253 : decode cX10_leads 253 = .ok (.if_icmp .eq 14, 3) := by decide +kernel
theorem dX10_leads_256 : decode cX10_leads 256 = .ok (.aload_n 0, 1) := by decide +kernel
theorem dX10_leads_257 : decode cX10_leads 257 = .ok (.getfield 19, 3) := by decide +kernel
theorem dX10_leads_260 : decode cX10_leads 260 = .ok (.iload 4, 2) := by decide +kernel
theorem dX10_leads_262 : decode cX10_leads 262 = .ok (.iaload, 1) := by decide +kernel
theorem dX10_leads_263 : decode cX10_leads 263 = .ok (.iload_n 3, 1) := by decide +kernel
theorem dX10_leads_264 : decode cX10_leads 264 = .ok (.if_icmp .ge 13, 3) := by decide +kernel
theorem dX10_leads_267 : decode cX10_leads 267 = .ok (.aload_n 0, 1) := by decide +kernel
theorem dX10_leads_268 : decode cX10_leads 268 = .ok (.getfield 19, 3) := by decide +kernel
theorem dX10_leads_271 : decode cX10_leads 271 = .ok (.iload 4, 2) := by decide +kernel
theorem dX10_leads_273 : decode cX10_leads 273 = .ok (.iaload, 1) := by decide +kernel
theorem dX10_leads_274 : decode cX10_leads 274 = .ok (.goto 4, 3) := by decide +kernel
theorem dX10_leads_277 : decode cX10_leads 277 = .ok (.iload_n 3, 1) := by decide +kernel
theorem dX10_leads_278 : decode cX10_leads 278 = .ok (.istore_n 3, 1) := by decide +kernel
theorem dX10_leads_279 : decode cX10_leads 279 = .ok (.iinc 4 1, 3) := by decide +kernel
theorem dX10_leads_282 : decode cX10_leads 282 = .ok (.goto (-56), 3) := by decide +kernel
theorem dX10_leads_285 : decode cX10_leads 285 = .ok (.iload_n 3, 1) := by decide +kernel
theorem dX10_leads_286 : decode cX10_leads 286 = .ok (.ireturn, 1) := by decide +kernel
theorem dX10_fewest_0 : decode cX10_fewest 0 = .ok (.aload_n 0, 1) := by decide +kernel
theorem dX10_fewest_1 : decode cX10_fewest 1 = .ok (.iload_n 1, 1) := by decide +kernel
theorem dX10_fewest_2 : decode cX10_fewest 2 = .ok (.invokevirtual 30, 3) := by decide +kernel
theorem dX10_fewest_5 : decode cX10_fewest 5 = .ok (.ifCond .ne 5, 3) := by decide +kernel
theorem dX10_fewest_8 : decode cX10_fewest 8 = .ok (.iconst (-1), 1) := by decide +kernel
theorem dX10_fewest_9 : decode cX10_fewest 9 = .ok (.ireturn, 1) := by decide +kernel
theorem dX10_fewest_10 : decode cX10_fewest 10 = .ok (.aload_n 0, 1) := by decide +kernel
theorem dX10_fewest_11 : decode cX10_fewest 11 = .ok (.getfield 7, 3) := by decide +kernel
theorem dX10_fewest_14 : decode cX10_fewest 14 = .ok (.bipush 29, 2) := by decide +kernel
theorem dX10_fewest_16 : decode cX10_fewest 16 = .ok (.iaload, 1) := by decide +kernel
theorem dX10_fewest_17 : decode cX10_fewest 17 = .ok (.ifCond .ne 8, 3) := by decide +kernel
theorem dX10_fewest_20 : decode cX10_fewest 20 = .ok (.bipush (-6), 2) := by decide +kernel
theorem dX10_fewest_22 : decode cX10_fewest 22 = .ok (.goto 8, 3) := by decide +kernel
theorem dX10_fewest_25 : decode cX10_fewest 25 = .ok (.aload_n 0, 1) := by decide +kernel
theorem dX10_fewest_26 : decode cX10_fewest 26 = .ok (.iload_n 1, 1) := by decide +kernel
theorem dX10_fewest_27 : decode cX10_fewest 27 = .ok (.invokevirtual 146, 3) := by decide +kernel
theorem dX10_fewest_30 : decode cX10_fewest 30 = .ok (.ireturn, 1) := by decide +kernel
theorem dX10_secondsLeft_0 : decode cX10_secondsLeft 0 = .ok (.aload_n 0, 1) := by decide +kernel
theorem dX10_secondsLeft_1 : decode cX10_secondsLeft 1 = .ok (.getfield 7, 3) := by decide +kernel
theorem dX10_secondsLeft_4 : decode cX10_secondsLeft 4 = .ok (.bipush 29, 2) := by decide +kernel
theorem dX10_secondsLeft_6 : decode cX10_secondsLeft 6 = .ok (.iaload, 1) := by decide +kernel
theorem dX10_secondsLeft_7 : decode cX10_secondsLeft 7 = .ok (.ifCond .ne 6, 3) := by decide +kernel
theorem dX10_secondsLeft_10 : decode cX10_secondsLeft 10 = .ok (.bipush (-6), 2) := by decide +kernel
theorem dX10_secondsLeft_12 : decode cX10_secondsLeft 12 = .ok (.ireturn, 1) := by decide +kernel
theorem dX10_secondsLeft_13 : decode cX10_secondsLeft 13 = .ok (.iconst 0, 1) := by decide +kernel
theorem dX10_secondsLeft_14 : decode cX10_secondsLeft 14 = .ok (.istore_n 1, 1) := by decide +kernel
theorem dX10_secondsLeft_15 : decode cX10_secondsLeft 15 = .ok (.aload_n 0, 1) := by decide +kernel
theorem dX10_secondsLeft_16 : decode cX10_secondsLeft 16 = .ok (.getfield 7, 3) := by decide +kernel
theorem dX10_secondsLeft_19 : decode cX10_secondsLeft 19 = .ok (.bipush 33, 2) := by decide +kernel
theorem dX10_secondsLeft_21 : decode cX10_secondsLeft 21 = .ok (.iaload, 1) := by decide +kernel
theorem dX10_secondsLeft_22 : decode cX10_secondsLeft 22 = .ok (.istore_n 2, 1) := by decide +kernel
theorem dX10_secondsLeft_23 : decode cX10_secondsLeft 23 = .ok (.aload_n 0, 1) := by decide +kernel
theorem dX10_secondsLeft_24 : decode cX10_secondsLeft 24 = .ok (.getfield 7, 3) := by decide +kernel
theorem dX10_secondsLeft_27 : decode cX10_secondsLeft 27 = .ok (.bipush 30, 2) := by decide +kernel
theorem dX10_secondsLeft_29 : decode cX10_secondsLeft 29 = .ok (.iaload, 1) := by decide +kernel
theorem dX10_secondsLeft_30 : decode cX10_secondsLeft 30 = .ok (.istore_n 3, 1) := by decide +kernel
theorem dX10_secondsLeft_31 : decode cX10_secondsLeft 31 = .ok (.aload_n 0, 1) := by decide +kernel
theorem dX10_secondsLeft_32 : decode cX10_secondsLeft 32 = .ok (.getfield 7, 3) := by decide +kernel
theorem dX10_secondsLeft_35 : decode cX10_secondsLeft 35 = .ok (.bipush 31, 2) := by decide +kernel
theorem dX10_secondsLeft_37 : decode cX10_secondsLeft 37 = .ok (.iaload, 1) := by decide +kernel
theorem dX10_secondsLeft_38 : decode cX10_secondsLeft 38 = .ok (.istore 4, 2) := by decide +kernel
theorem dX10_secondsLeft_40 : decode cX10_secondsLeft 40 = .ok (.iload 4, 2) := by decide +kernel
theorem dX10_secondsLeft_42 : decode cX10_secondsLeft 42 = .ok (.aload_n 0, 1) := by decide +kernel
theorem dX10_secondsLeft_43 : decode cX10_secondsLeft 43 = .ok (.iload_n 3, 1) := by decide +kernel
theorem dX10_secondsLeft_44 : decode cX10_secondsLeft 44 = .ok (.invokevirtual 48, 3) := by decide +kernel
theorem dX10_secondsLeft_47 : decode cX10_secondsLeft 47 = .ok (.if_icmp .lt 13, 3) := by decide +kernel
theorem dX10_secondsLeft_50 : decode cX10_secondsLeft 50 = .ok (.aload_n 0, 1) := by decide +kernel
theorem dX10_secondsLeft_51 : decode cX10_secondsLeft 51 = .ok (.iload_n 3, 1) := by decide +kernel
theorem dX10_secondsLeft_52 : decode cX10_secondsLeft 52 = .ok (.invokevirtual 51, 3) := by decide +kernel
theorem dX10_secondsLeft_55 : decode cX10_secondsLeft 55 = .ok (.bipush (-6), 2) := by decide +kernel
theorem dX10_secondsLeft_57 : decode cX10_secondsLeft 57 = .ok (.if_icmp .eq 90, 3) := by decide +kernel
theorem dX10_secondsLeft_60 : decode cX10_secondsLeft 60 = .ok (.aload_n 0, 1) := by decide +kernel
theorem dX10_secondsLeft_61 : decode cX10_secondsLeft 61 = .ok (.iload_n 3, 1) := by decide +kernel
theorem dX10_secondsLeft_62 : decode cX10_secondsLeft 62 = .ok (.iconst 2, 1) := by decide +kernel
theorem dX10_secondsLeft_63 : decode cX10_secondsLeft 63 = .ok (.invokevirtual 26, 3) := by decide +kernel
theorem dX10_secondsLeft_66 : decode cX10_secondsLeft 66 = .ok (.istore 5, 2) := by decide +kernel
theorem dX10_secondsLeft_68 : decode cX10_secondsLeft 68 = .ok (.iload 5, 2) := by decide +kernel
theorem dX10_secondsLeft_70 : decode cX10_secondsLeft 70 = .ok (.ifCond .ne 6, 3) := by decide +kernel
theorem dX10_secondsLeft_73 : decode cX10_secondsLeft 73 = .ok (.bipush (-6), 2) := by decide +kernel
theorem dX10_secondsLeft_75 : decode cX10_secondsLeft 75 = .ok (.ireturn, 1) := by decide +kernel
theorem dX10_secondsLeft_76 : decode cX10_secondsLeft 76 = .ok (.iload_n 1, 1) := by decide +kernel
theorem dX10_secondsLeft_77 : decode cX10_secondsLeft 77 = .ok (.iload 5, 2) := by decide +kernel
theorem dX10_secondsLeft_79 : decode cX10_secondsLeft 79 = .ok (.iload_n 2, 1) := by decide +kernel
theorem dX10_secondsLeft_80 : decode cX10_secondsLeft 80 = .ok (.isub, 1) := by decide +kernel
theorem dX10_secondsLeft_81 : decode cX10_secondsLeft 81 = .ok (.iconst 1, 1) := by decide +kernel
theorem dX10_secondsLeft_82 : decode cX10_secondsLeft 82 = .ok (.if_icmp .ge 7, 3) := by decide +kernel
theorem dX10_secondsLeft_85 : decode cX10_secondsLeft 85 = .ok (.iconst 1, 1) := by decide +kernel
theorem dX10_secondsLeft_86 : decode cX10_secondsLeft 86 = .ok (.goto 7, 3) := by decide +kernel
theorem dX10_secondsLeft_89 : decode cX10_secondsLeft 89 = .ok (.iload 5, 2) := by decide +kernel
theorem dX10_secondsLeft_91 : decode cX10_secondsLeft 91 = .ok (.iload_n 2, 1) := by decide +kernel
theorem dX10_secondsLeft_92 : decode cX10_secondsLeft 92 = .ok (.isub, 1) := by decide +kernel
theorem dX10_secondsLeft_93 : decode cX10_secondsLeft 93 = .ok (.iadd, 1) := by decide +kernel
theorem dX10_secondsLeft_94 : decode cX10_secondsLeft 94 = .ok (.istore_n 1, 1) := by decide +kernel
theorem dX10_secondsLeft_95 : decode cX10_secondsLeft 95 = .ok (.iconst 0, 1) := by decide +kernel
theorem dX10_secondsLeft_96 : decode cX10_secondsLeft 96 = .ok (.istore_n 2, 1) := by decide +kernel
theorem dX10_secondsLeft_97 : decode cX10_secondsLeft 97 = .ok (.iload 4, 2) := by decide +kernel
theorem dX10_secondsLeft_99 : decode cX10_secondsLeft 99 = .ok (.aload_n 0, 1) := by decide +kernel
theorem dX10_secondsLeft_100 : decode cX10_secondsLeft 100 = .ok (.iload_n 3, 1) := by decide +kernel
theorem dX10_secondsLeft_101 : decode cX10_secondsLeft 101 = .ok (.invokevirtual 48, 3) := by decide +kernel
theorem dX10_secondsLeft_104 : decode cX10_secondsLeft 104 = .ok (.if_icmp .ne 7, 3) := by decide +kernel
theorem dX10_secondsLeft_107 : decode cX10_secondsLeft 107 = .ok (.iconst 1, 1) := by decide +kernel
theorem dX10_secondsLeft_108 : decode cX10_secondsLeft 108 = .ok (.goto 4, 3) := by decide +kernel
theorem dX10_secondsLeft_111 : decode cX10_secondsLeft 111 = .ok (.iconst 0, 1) := by decide +kernel
theorem dX10_secondsLeft_112 : decode cX10_secondsLeft 112 = .ok (.istore 6, 2) := by decide +kernel
theorem dX10_secondsLeft_114 : decode cX10_secondsLeft 114 = .ok (.iload 6, 2) := by decide +kernel
theorem dX10_secondsLeft_116 : decode cX10_secondsLeft 116 = .ok (.ifCond .eq 11, 3) := by decide +kernel
theorem dX10_secondsLeft_119 : decode cX10_secondsLeft 119 = .ok (.aload_n 0, 1) := by decide +kernel
theorem dX10_secondsLeft_120 : decode cX10_secondsLeft 120 = .ok (.iload_n 3, 1) := by decide +kernel
theorem dX10_secondsLeft_121 : decode cX10_secondsLeft 121 = .ok (.invokevirtual 51, 3) := by decide +kernel
theorem dX10_secondsLeft_124 : decode cX10_secondsLeft 124 = .ok (.goto 4, 3) := by decide +kernel
theorem dX10_secondsLeft_127 : decode cX10_secondsLeft 127 = .ok (.iload_n 3, 1) := by decide +kernel
theorem dX10_secondsLeft_128 : decode cX10_secondsLeft 128 = .ok (.istore_n 3, 1) := by decide +kernel
theorem dX10_secondsLeft_129 : decode cX10_secondsLeft 129 = .ok (.iload 6, 2) := by decide +kernel
theorem dX10_secondsLeft_131 : decode cX10_secondsLeft 131 = .ok (.ifCond .eq 7, 3) := by decide +kernel
theorem dX10_secondsLeft_134 : decode cX10_secondsLeft 134 = .ok (.iconst 0, 1) := by decide +kernel
theorem dX10_secondsLeft_135 : decode cX10_secondsLeft 135 = .ok (.goto 7, 3) := by decide +kernel
theorem dX10_secondsLeft_138 : decode cX10_secondsLeft 138 = .ok (.iload 4, 2) := by decide +kernel
theorem dX10_secondsLeft_140 : decode cX10_secondsLeft 140 = .ok (.iconst 1, 1) := by decide +kernel
theorem dX10_secondsLeft_141 : decode cX10_secondsLeft 141 = .ok (.iadd, 1) := by decide +kernel
theorem dX10_secondsLeft_142 : decode cX10_secondsLeft 142 = .ok (.istore 4, 2) := by decide +kernel
theorem dX10_secondsLeft_144 : decode cX10_secondsLeft 144 = .ok (.goto (-104), 3) := by decide +kernel
theorem dX10_secondsLeft_147 : decode cX10_secondsLeft 147 = .ok (.iload_n 1, 1) := by decide +kernel
theorem dX10_secondsLeft_148 : decode cX10_secondsLeft 148 = .ok (.ireturn, 1) := by decide +kernel
theorem dX10_backTo_0 : decode cX10_backTo 0 = .ok (.aload_n 0, 1) := by decide +kernel
theorem dX10_backTo_1 : decode cX10_backTo 1 = .ok (.invokevirtual 98, 3) := by decide +kernel
theorem dX10_backTo_4 : decode cX10_backTo 4 = .ok (.ifCond .eq 10, 3) := by decide +kernel
theorem dX10_backTo_7 : decode cX10_backTo 7 = .ok (.aload_n 0, 1) := by decide +kernel
theorem dX10_backTo_8 : decode cX10_backTo 8 = .ok (.invokevirtual 58, 3) := by decide +kernel
theorem dX10_backTo_11 : decode cX10_backTo 11 = .ok (.goto 5, 3) := by decide +kernel
theorem dX10_backTo_14 : decode cX10_backTo 14 = .ok (.bipush (-6), 2) := by decide +kernel
theorem dX10_backTo_16 : decode cX10_backTo 16 = .ok (.istore_n 1, 1) := by decide +kernel
theorem dX10_backTo_17 : decode cX10_backTo 17 = .ok (.iload_n 1, 1) := by decide +kernel
theorem dX10_backTo_18 : decode cX10_backTo 18 = .ok (.bipush (-6), 2) := by decide +kernel
theorem dX10_backTo_20 : decode cX10_backTo 20 = .ok (.if_icmp .ne 8, 3) := by decide +kernel
theorem dX10_backTo_23 : decode cX10_backTo 23 = .ok (.bipush (-6), 2) := by decide +kernel
theorem dX10_backTo_25 : decode cX10_backTo 25 = .ok (.goto 14, 3) := by decide +kernel
theorem dX10_backTo_28 : decode cX10_backTo 28 = .ok (.aload_n 0, 1) := by decide +kernel
theorem dX10_backTo_29 : decode cX10_backTo 29 = .ok (.getfield 7, 3) := by decide +kernel
theorem dX10_backTo_32 : decode cX10_backTo 32 = .ok (.bipush 36, 2) := by decide +kernel
theorem dX10_backTo_34 : decode cX10_backTo 34 = .ok (.iconst 3, 1) := by decide +kernel
theorem dX10_backTo_35 : decode cX10_backTo 35 = .ok (.iload_n 1, 1) := by decide +kernel
theorem dX10_backTo_36 : decode cX10_backTo 36 = .ok (.imul, 1) := by decide +kernel
theorem dX10_backTo_37 : decode cX10_backTo 37 = .ok (.iadd, 1) := by decide +kernel
theorem dX10_backTo_38 : decode cX10_backTo 38 = .ok (.iaload, 1) := by decide +kernel
theorem dX10_backTo_39 : decode cX10_backTo 39 = .ok (.ireturn, 1) := by decide +kernel
end
section
theorem dL_law_0 : decode cL_law 0 = .ok (.new 7, 3) := by decide +kernel
theorem dL_law_3 : decode cL_law 3 = .ok (.dup, 1) := by decide +kernel
theorem dL_law_4 : decode cL_law 4 = .ok (.invokespecial 9, 3) := by decide +kernel
theorem dL_law_7 : decode cL_law 7 = .ok (.astore_n 1, 1) := by decide +kernel
theorem dL_law_8 : decode cL_law 8 = .ok (.new 10, 3) := by decide +kernel
theorem dL_law_11 : decode cL_law 11 = .ok (.dup, 1) := by decide +kernel
theorem dL_law_12 : decode cL_law 12 = .ok (.invokespecial 12, 3) := by decide +kernel
theorem dL_law_15 : decode cL_law 15 = .ok (.astore_n 2, 1) := by decide +kernel
theorem dL_law_16 : decode cL_law 16 = .ok (.iconst 0, 1) := by decide +kernel
theorem dL_law_17 : decode cL_law 17 = .ok (.istore_n 3, 1) := by decide +kernel
theorem dL_law_18 : decode cL_law 18 = .ok (.iload_n 3, 1) := by decide +kernel
theorem dL_law_19 : decode cL_law 19 = .ok (.aload_n 0, 1) := by decide +kernel
theorem dL_law_20 : decode cL_law 20 = .ok (.arraylength, 1) := by decide +kernel
theorem dL_law_21 : decode cL_law 21 = .ok (.iconst 5, 1) := by decide +kernel
theorem dL_law_22 : decode cL_law 22 = .ok (.isub, 1) := by decide +kernel
theorem dL_law_23 : decode cL_law 23 = .ok (.if_icmp .gt 1130, 3) := by decide +kernel
theorem dL_law_26 : decode cL_law 26 = .ok (.aload_n 0, 1) := by decide +kernel
theorem dL_law_27 : decode cL_law 27 = .ok (.iload_n 3, 1) := by decide +kernel
theorem dL_law_28 : decode cL_law 28 = .ok (.iaload, 1) := by decide +kernel
theorem dL_law_29 : decode cL_law 29 = .ok (.bipush 63, 2) := by decide +kernel
theorem dL_law_31 : decode cL_law 31 = .ok (.iand, 1) := by decide +kernel
theorem dL_law_32 : decode cL_law 32 = .ok (.tableswitch 1115 0 38 #[172, 185, 208, 241, 290, 323, 376, 409, 452, 485, 518, 541, 554, 567, 580, 593, 616, 639, 662, 675, 688, 701, 724, 737, 750, 773, 806, 849, 882, 915, 938, 971, 984, 997, 1010, 1053, 1066, 1089, 1102], 172) := by decide +kernel
theorem dL_law_204 : decode cL_law 204 = .ok (.aload_n 1, 1) := by decide +kernel
theorem dL_law_205 : decode cL_law 205 = .ok (.invokevirtual 13, 3) := by decide +kernel
theorem dL_law_208 : decode cL_law 208 = .ok (.aload_n 2, 1) := by decide +kernel
theorem dL_law_209 : decode cL_law 209 = .ok (.invokevirtual 17, 3) := by decide +kernel
theorem dL_law_212 : decode cL_law 212 = .ok (.if_icmp .eq 935, 3) := by decide +kernel
theorem dL_law_215 : decode cL_law 215 = .ok (.iconst 0, 1) := by decide +kernel
theorem dL_law_216 : decode cL_law 216 = .ok (.ireturn, 1) := by decide +kernel
theorem dL_law_217 : decode cL_law 217 = .ok (.aload_n 1, 1) := by decide +kernel
theorem dL_law_218 : decode cL_law 218 = .ok (.aload_n 0, 1) := by decide +kernel
theorem dL_law_219 : decode cL_law 219 = .ok (.iload_n 3, 1) := by decide +kernel
theorem dL_law_220 : decode cL_law 220 = .ok (.iconst 1, 1) := by decide +kernel
theorem dL_law_221 : decode cL_law 221 = .ok (.iadd, 1) := by decide +kernel
theorem dL_law_222 : decode cL_law 222 = .ok (.iaload, 1) := by decide +kernel
theorem dL_law_223 : decode cL_law 223 = .ok (.invokevirtual 18, 3) := by decide +kernel
theorem dL_law_226 : decode cL_law 226 = .ok (.aload_n 2, 1) := by decide +kernel
theorem dL_law_227 : decode cL_law 227 = .ok (.aload_n 0, 1) := by decide +kernel
theorem dL_law_228 : decode cL_law 228 = .ok (.iload_n 3, 1) := by decide +kernel
theorem dL_law_229 : decode cL_law 229 = .ok (.iconst 1, 1) := by decide +kernel
theorem dL_law_230 : decode cL_law 230 = .ok (.iadd, 1) := by decide +kernel
theorem dL_law_231 : decode cL_law 231 = .ok (.iaload, 1) := by decide +kernel
theorem dL_law_232 : decode cL_law 232 = .ok (.invokevirtual 22, 3) := by decide +kernel
theorem dL_law_235 : decode cL_law 235 = .ok (.if_icmp .eq 912, 3) := by decide +kernel
theorem dL_law_238 : decode cL_law 238 = .ok (.iconst 0, 1) := by decide +kernel
theorem dL_law_239 : decode cL_law 239 = .ok (.ireturn, 1) := by decide +kernel
theorem dL_law_240 : decode cL_law 240 = .ok (.aload_n 1, 1) := by decide +kernel
theorem dL_law_241 : decode cL_law 241 = .ok (.aload_n 0, 1) := by decide +kernel
theorem dL_law_242 : decode cL_law 242 = .ok (.iload_n 3, 1) := by decide +kernel
theorem dL_law_243 : decode cL_law 243 = .ok (.iconst 1, 1) := by decide +kernel
theorem dL_law_244 : decode cL_law 244 = .ok (.iadd, 1) := by decide +kernel
theorem dL_law_245 : decode cL_law 245 = .ok (.iaload, 1) := by decide +kernel
theorem dL_law_246 : decode cL_law 246 = .ok (.aload_n 0, 1) := by decide +kernel
theorem dL_law_247 : decode cL_law 247 = .ok (.iload_n 3, 1) := by decide +kernel
theorem dL_law_248 : decode cL_law 248 = .ok (.iconst 2, 1) := by decide +kernel
theorem dL_law_249 : decode cL_law 249 = .ok (.iadd, 1) := by decide +kernel
theorem dL_law_250 : decode cL_law 250 = .ok (.iaload, 1) := by decide +kernel
theorem dL_law_251 : decode cL_law 251 = .ok (.invokevirtual 23, 3) := by decide +kernel
theorem dL_law_254 : decode cL_law 254 = .ok (.aload_n 2, 1) := by decide +kernel
theorem dL_law_255 : decode cL_law 255 = .ok (.aload_n 0, 1) := by decide +kernel
theorem dL_law_256 : decode cL_law 256 = .ok (.iload_n 3, 1) := by decide +kernel
theorem dL_law_257 : decode cL_law 257 = .ok (.iconst 1, 1) := by decide +kernel
theorem dL_law_258 : decode cL_law 258 = .ok (.iadd, 1) := by decide +kernel
theorem dL_law_259 : decode cL_law 259 = .ok (.iaload, 1) := by decide +kernel
theorem dL_law_260 : decode cL_law 260 = .ok (.aload_n 0, 1) := by decide +kernel
theorem dL_law_261 : decode cL_law 261 = .ok (.iload_n 3, 1) := by decide +kernel
theorem dL_law_262 : decode cL_law 262 = .ok (.iconst 2, 1) := by decide +kernel
theorem dL_law_263 : decode cL_law 263 = .ok (.iadd, 1) := by decide +kernel
theorem dL_law_264 : decode cL_law 264 = .ok (.iaload, 1) := by decide +kernel
theorem dL_law_265 : decode cL_law 265 = .ok (.invokevirtual 27, 3) := by decide +kernel
theorem dL_law_268 : decode cL_law 268 = .ok (.if_icmp .eq 879, 3) := by decide +kernel
theorem dL_law_271 : decode cL_law 271 = .ok (.iconst 0, 1) := by decide +kernel
theorem dL_law_272 : decode cL_law 272 = .ok (.ireturn, 1) := by decide +kernel
theorem dL_law_273 : decode cL_law 273 = .ok (.aload_n 1, 1) := by decide +kernel
theorem dL_law_274 : decode cL_law 274 = .ok (.aload_n 0, 1) := by decide +kernel
theorem dL_law_275 : decode cL_law 275 = .ok (.iload_n 3, 1) := by decide +kernel
theorem dL_law_276 : decode cL_law 276 = .ok (.iconst 1, 1) := by decide +kernel
theorem dL_law_277 : decode cL_law 277 = .ok (.iadd, 1) := by decide +kernel
theorem dL_law_278 : decode cL_law 278 = .ok (.iaload, 1) := by decide +kernel
theorem dL_law_279 : decode cL_law 279 = .ok (.aload_n 0, 1) := by decide +kernel
theorem dL_law_280 : decode cL_law 280 = .ok (.iload_n 3, 1) := by decide +kernel
theorem dL_law_281 : decode cL_law 281 = .ok (.iconst 2, 1) := by decide +kernel
theorem dL_law_282 : decode cL_law 282 = .ok (.iadd, 1) := by decide +kernel
theorem dL_law_283 : decode cL_law 283 = .ok (.iaload, 1) := by decide +kernel
theorem dL_law_284 : decode cL_law 284 = .ok (.ifCond .eq 7, 3) := by decide +kernel
theorem dL_law_287 : decode cL_law 287 = .ok (.iconst 1, 1) := by decide +kernel
theorem dL_law_288 : decode cL_law 288 = .ok (.goto 4, 3) := by decide +kernel
theorem dL_law_291 : decode cL_law 291 = .ok (.iconst 0, 1) := by decide +kernel
theorem dL_law_292 : decode cL_law 292 = .ok (.invokevirtual 28, 3) := by decide +kernel
theorem dL_law_295 : decode cL_law 295 = .ok (.aload_n 2, 1) := by decide +kernel
theorem dL_law_296 : decode cL_law 296 = .ok (.aload_n 0, 1) := by decide +kernel
theorem dL_law_297 : decode cL_law 297 = .ok (.iload_n 3, 1) := by decide +kernel
theorem dL_law_298 : decode cL_law 298 = .ok (.iconst 1, 1) := by decide +kernel
theorem dL_law_299 : decode cL_law 299 = .ok (.iadd, 1) := by decide +kernel
theorem dL_law_300 : decode cL_law 300 = .ok (.iaload, 1) := by decide +kernel
theorem dL_law_301 : decode cL_law 301 = .ok (.aload_n 0, 1) := by decide +kernel
theorem dL_law_302 : decode cL_law 302 = .ok (.iload_n 3, 1) := by decide +kernel
theorem dL_law_303 : decode cL_law 303 = .ok (.iconst 2, 1) := by decide +kernel
theorem dL_law_304 : decode cL_law 304 = .ok (.iadd, 1) := by decide +kernel
theorem dL_law_305 : decode cL_law 305 = .ok (.iaload, 1) := by decide +kernel
theorem dL_law_306 : decode cL_law 306 = .ok (.ifCond .eq 7, 3) := by decide +kernel
theorem dL_law_309 : decode cL_law 309 = .ok (.iconst 1, 1) := by decide +kernel
theorem dL_law_310 : decode cL_law 310 = .ok (.goto 4, 3) := by decide +kernel
theorem dL_law_313 : decode cL_law 313 = .ok (.iconst 0, 1) := by decide +kernel
theorem dL_law_314 : decode cL_law 314 = .ok (.invokevirtual 32, 3) := by decide +kernel
theorem dL_law_317 : decode cL_law 317 = .ok (.if_icmp .eq 830, 3) := by decide +kernel
theorem dL_law_320 : decode cL_law 320 = .ok (.iconst 0, 1) := by decide +kernel
theorem dL_law_321 : decode cL_law 321 = .ok (.ireturn, 1) := by decide +kernel
theorem dL_law_322 : decode cL_law 322 = .ok (.aload_n 1, 1) := by decide +kernel
theorem dL_law_323 : decode cL_law 323 = .ok (.aload_n 0, 1) := by decide +kernel
theorem dL_law_324 : decode cL_law 324 = .ok (.iload_n 3, 1) := by decide +kernel
theorem dL_law_325 : decode cL_law 325 = .ok (.iconst 1, 1) := by decide +kernel
theorem dL_law_326 : decode cL_law 326 = .ok (.iadd, 1) := by decide +kernel
theorem dL_law_327 : decode cL_law 327 = .ok (.iaload, 1) := by decide +kernel
theorem dL_law_328 : decode cL_law 328 = .ok (.aload_n 0, 1) := by decide +kernel
theorem dL_law_329 : decode cL_law 329 = .ok (.iload_n 3, 1) := by decide +kernel
theorem dL_law_330 : decode cL_law 330 = .ok (.iconst 2, 1) := by decide +kernel
theorem dL_law_331 : decode cL_law 331 = .ok (.iadd, 1) := by decide +kernel
theorem dL_law_332 : decode cL_law 332 = .ok (.iaload, 1) := by decide +kernel
theorem dL_law_333 : decode cL_law 333 = .ok (.invokevirtual 33, 3) := by decide +kernel
theorem dL_law_336 : decode cL_law 336 = .ok (.aload_n 2, 1) := by decide +kernel
theorem dL_law_337 : decode cL_law 337 = .ok (.aload_n 0, 1) := by decide +kernel
theorem dL_law_338 : decode cL_law 338 = .ok (.iload_n 3, 1) := by decide +kernel
theorem dL_law_339 : decode cL_law 339 = .ok (.iconst 1, 1) := by decide +kernel
theorem dL_law_340 : decode cL_law 340 = .ok (.iadd, 1) := by decide +kernel
theorem dL_law_341 : decode cL_law 341 = .ok (.iaload, 1) := by decide +kernel
theorem dL_law_342 : decode cL_law 342 = .ok (.aload_n 0, 1) := by decide +kernel
theorem dL_law_343 : decode cL_law 343 = .ok (.iload_n 3, 1) := by decide +kernel
theorem dL_law_344 : decode cL_law 344 = .ok (.iconst 2, 1) := by decide +kernel
theorem dL_law_345 : decode cL_law 345 = .ok (.iadd, 1) := by decide +kernel
theorem dL_law_346 : decode cL_law 346 = .ok (.iaload, 1) := by decide +kernel
theorem dL_law_347 : decode cL_law 347 = .ok (.invokevirtual 36, 3) := by decide +kernel
theorem dL_law_350 : decode cL_law 350 = .ok (.if_icmp .eq 797, 3) := by decide +kernel
theorem dL_law_353 : decode cL_law 353 = .ok (.iconst 0, 1) := by decide +kernel
theorem dL_law_354 : decode cL_law 354 = .ok (.ireturn, 1) := by decide +kernel
theorem dL_law_355 : decode cL_law 355 = .ok (.aload_n 1, 1) := by decide +kernel
theorem dL_law_356 : decode cL_law 356 = .ok (.aload_n 0, 1) := by decide +kernel
theorem dL_law_357 : decode cL_law 357 = .ok (.iload_n 3, 1) := by decide +kernel
theorem dL_law_358 : decode cL_law 358 = .ok (.iconst 1, 1) := by decide +kernel
theorem dL_law_359 : decode cL_law 359 = .ok (.iadd, 1) := by decide +kernel
theorem dL_law_360 : decode cL_law 360 = .ok (.iaload, 1) := by decide +kernel
theorem dL_law_361 : decode cL_law 361 = .ok (.aload_n 0, 1) := by decide +kernel
theorem dL_law_362 : decode cL_law 362 = .ok (.iload_n 3, 1) := by decide +kernel
theorem dL_law_363 : decode cL_law 363 = .ok (.iconst 2, 1) := by decide +kernel
theorem dL_law_364 : decode cL_law 364 = .ok (.iadd, 1) := by decide +kernel
theorem dL_law_365 : decode cL_law 365 = .ok (.iaload, 1) := by decide +kernel
theorem dL_law_366 : decode cL_law 366 = .ok (.aload_n 0, 1) := by decide +kernel
theorem dL_law_367 : decode cL_law 367 = .ok (.iload_n 3, 1) := by decide +kernel
theorem dL_law_368 : decode cL_law 368 = .ok (.iconst 3, 1) := by decide +kernel
theorem dL_law_369 : decode cL_law 369 = .ok (.iadd, 1) := by decide +kernel
theorem dL_law_370 : decode cL_law 370 = .ok (.iaload, 1) := by decide +kernel
theorem dL_law_371 : decode cL_law 371 = .ok (.aload_n 0, 1) := by decide +kernel
theorem dL_law_372 : decode cL_law 372 = .ok (.iload_n 3, 1) := by decide +kernel
theorem dL_law_373 : decode cL_law 373 = .ok (.iconst 4, 1) := by decide +kernel
theorem dL_law_374 : decode cL_law 374 = .ok (.iadd, 1) := by decide +kernel
theorem dL_law_375 : decode cL_law 375 = .ok (.iaload, 1) := by decide +kernel
theorem dL_law_376 : decode cL_law 376 = .ok (.invokevirtual 37, 3) := by decide +kernel
theorem dL_law_379 : decode cL_law 379 = .ok (.aload_n 2, 1) := by decide +kernel
theorem dL_law_380 : decode cL_law 380 = .ok (.aload_n 0, 1) := by decide +kernel
theorem dL_law_381 : decode cL_law 381 = .ok (.iload_n 3, 1) := by decide +kernel
theorem dL_law_382 : decode cL_law 382 = .ok (.iconst 1, 1) := by decide +kernel
theorem dL_law_383 : decode cL_law 383 = .ok (.iadd, 1) := by decide +kernel
theorem dL_law_384 : decode cL_law 384 = .ok (.iaload, 1) := by decide +kernel
theorem dL_law_385 : decode cL_law 385 = .ok (.aload_n 0, 1) := by decide +kernel
theorem dL_law_386 : decode cL_law 386 = .ok (.iload_n 3, 1) := by decide +kernel
theorem dL_law_387 : decode cL_law 387 = .ok (.iconst 2, 1) := by decide +kernel
theorem dL_law_388 : decode cL_law 388 = .ok (.iadd, 1) := by decide +kernel
theorem dL_law_389 : decode cL_law 389 = .ok (.iaload, 1) := by decide +kernel
theorem dL_law_390 : decode cL_law 390 = .ok (.aload_n 0, 1) := by decide +kernel
theorem dL_law_391 : decode cL_law 391 = .ok (.iload_n 3, 1) := by decide +kernel
theorem dL_law_392 : decode cL_law 392 = .ok (.iconst 3, 1) := by decide +kernel
theorem dL_law_393 : decode cL_law 393 = .ok (.iadd, 1) := by decide +kernel
theorem dL_law_394 : decode cL_law 394 = .ok (.iaload, 1) := by decide +kernel
theorem dL_law_395 : decode cL_law 395 = .ok (.aload_n 0, 1) := by decide +kernel
theorem dL_law_396 : decode cL_law 396 = .ok (.iload_n 3, 1) := by decide +kernel
theorem dL_law_397 : decode cL_law 397 = .ok (.iconst 4, 1) := by decide +kernel
theorem dL_law_398 : decode cL_law 398 = .ok (.iadd, 1) := by decide +kernel
theorem dL_law_399 : decode cL_law 399 = .ok (.iaload, 1) := by decide +kernel
theorem dL_law_400 : decode cL_law 400 = .ok (.invokevirtual 41, 3) := by decide +kernel
theorem dL_law_403 : decode cL_law 403 = .ok (.if_icmp .eq 744, 3) := by decide +kernel
theorem dL_law_406 : decode cL_law 406 = .ok (.iconst 0, 1) := by decide +kernel
theorem dL_law_407 : decode cL_law 407 = .ok (.ireturn, 1) := by decide +kernel
theorem dL_law_408 : decode cL_law 408 = .ok (.aload_n 1, 1) := by decide +kernel
theorem dL_law_409 : decode cL_law 409 = .ok (.aload_n 0, 1) := by decide +kernel
theorem dL_law_410 : decode cL_law 410 = .ok (.iload_n 3, 1) := by decide +kernel
theorem dL_law_411 : decode cL_law 411 = .ok (.iconst 1, 1) := by decide +kernel
theorem dL_law_412 : decode cL_law 412 = .ok (.iadd, 1) := by decide +kernel
theorem dL_law_413 : decode cL_law 413 = .ok (.iaload, 1) := by decide +kernel
theorem dL_law_414 : decode cL_law 414 = .ok (.aload_n 0, 1) := by decide +kernel
theorem dL_law_415 : decode cL_law 415 = .ok (.iload_n 3, 1) := by decide +kernel
theorem dL_law_416 : decode cL_law 416 = .ok (.iconst 2, 1) := by decide +kernel
theorem dL_law_417 : decode cL_law 417 = .ok (.iadd, 1) := by decide +kernel
theorem dL_law_418 : decode cL_law 418 = .ok (.iaload, 1) := by decide +kernel
theorem dL_law_419 : decode cL_law 419 = .ok (.invokevirtual 42, 3) := by decide +kernel
theorem dL_law_422 : decode cL_law 422 = .ok (.aload_n 2, 1) := by decide +kernel
theorem dL_law_423 : decode cL_law 423 = .ok (.aload_n 0, 1) := by decide +kernel
theorem dL_law_424 : decode cL_law 424 = .ok (.iload_n 3, 1) := by decide +kernel
theorem dL_law_425 : decode cL_law 425 = .ok (.iconst 1, 1) := by decide +kernel
theorem dL_law_426 : decode cL_law 426 = .ok (.iadd, 1) := by decide +kernel
theorem dL_law_427 : decode cL_law 427 = .ok (.iaload, 1) := by decide +kernel
theorem dL_law_428 : decode cL_law 428 = .ok (.aload_n 0, 1) := by decide +kernel
theorem dL_law_429 : decode cL_law 429 = .ok (.iload_n 3, 1) := by decide +kernel
theorem dL_law_430 : decode cL_law 430 = .ok (.iconst 2, 1) := by decide +kernel
theorem dL_law_431 : decode cL_law 431 = .ok (.iadd, 1) := by decide +kernel
theorem dL_law_432 : decode cL_law 432 = .ok (.iaload, 1) := by decide +kernel
theorem dL_law_433 : decode cL_law 433 = .ok (.invokevirtual 45, 3) := by decide +kernel
theorem dL_law_436 : decode cL_law 436 = .ok (.if_icmp .eq 711, 3) := by decide +kernel
theorem dL_law_439 : decode cL_law 439 = .ok (.iconst 0, 1) := by decide +kernel
theorem dL_law_440 : decode cL_law 440 = .ok (.ireturn, 1) := by decide +kernel
theorem dL_law_441 : decode cL_law 441 = .ok (.aload_n 1, 1) := by decide +kernel
theorem dL_law_442 : decode cL_law 442 = .ok (.aload_n 0, 1) := by decide +kernel
theorem dL_law_443 : decode cL_law 443 = .ok (.iload_n 3, 1) := by decide +kernel
theorem dL_law_444 : decode cL_law 444 = .ok (.iconst 1, 1) := by decide +kernel
theorem dL_law_445 : decode cL_law 445 = .ok (.iadd, 1) := by decide +kernel
theorem dL_law_446 : decode cL_law 446 = .ok (.iaload, 1) := by decide +kernel
theorem dL_law_447 : decode cL_law 447 = .ok (.aload_n 0, 1) := by decide +kernel
theorem dL_law_448 : decode cL_law 448 = .ok (.iload_n 3, 1) := by decide +kernel
theorem dL_law_449 : decode cL_law 449 = .ok (.iconst 2, 1) := by decide +kernel
theorem dL_law_450 : decode cL_law 450 = .ok (.iadd, 1) := by decide +kernel
theorem dL_law_451 : decode cL_law 451 = .ok (.iaload, 1) := by decide +kernel
theorem dL_law_452 : decode cL_law 452 = .ok (.aload_n 0, 1) := by decide +kernel
theorem dL_law_453 : decode cL_law 453 = .ok (.iload_n 3, 1) := by decide +kernel
theorem dL_law_454 : decode cL_law 454 = .ok (.iconst 3, 1) := by decide +kernel
theorem dL_law_455 : decode cL_law 455 = .ok (.iadd, 1) := by decide +kernel
theorem dL_law_456 : decode cL_law 456 = .ok (.iaload, 1) := by decide +kernel
theorem dL_law_457 : decode cL_law 457 = .ok (.invokevirtual 46, 3) := by decide +kernel
theorem dL_law_460 : decode cL_law 460 = .ok (.aload_n 2, 1) := by decide +kernel
theorem dL_law_461 : decode cL_law 461 = .ok (.aload_n 0, 1) := by decide +kernel
theorem dL_law_462 : decode cL_law 462 = .ok (.iload_n 3, 1) := by decide +kernel
theorem dL_law_463 : decode cL_law 463 = .ok (.iconst 1, 1) := by decide +kernel
theorem dL_law_464 : decode cL_law 464 = .ok (.iadd, 1) := by decide +kernel
theorem dL_law_465 : decode cL_law 465 = .ok (.iaload, 1) := by decide +kernel
theorem dL_law_466 : decode cL_law 466 = .ok (.aload_n 0, 1) := by decide +kernel
theorem dL_law_467 : decode cL_law 467 = .ok (.iload_n 3, 1) := by decide +kernel
theorem dL_law_468 : decode cL_law 468 = .ok (.iconst 2, 1) := by decide +kernel
theorem dL_law_469 : decode cL_law 469 = .ok (.iadd, 1) := by decide +kernel
theorem dL_law_470 : decode cL_law 470 = .ok (.iaload, 1) := by decide +kernel
theorem dL_law_471 : decode cL_law 471 = .ok (.aload_n 0, 1) := by decide +kernel
theorem dL_law_472 : decode cL_law 472 = .ok (.iload_n 3, 1) := by decide +kernel
theorem dL_law_473 : decode cL_law 473 = .ok (.iconst 3, 1) := by decide +kernel
theorem dL_law_474 : decode cL_law 474 = .ok (.iadd, 1) := by decide +kernel
theorem dL_law_475 : decode cL_law 475 = .ok (.iaload, 1) := by decide +kernel
theorem dL_law_476 : decode cL_law 476 = .ok (.invokevirtual 50, 3) := by decide +kernel
theorem dL_law_479 : decode cL_law 479 = .ok (.if_icmp .eq 668, 3) := by decide +kernel
theorem dL_law_482 : decode cL_law 482 = .ok (.iconst 0, 1) := by decide +kernel
theorem dL_law_483 : decode cL_law 483 = .ok (.ireturn, 1) := by decide +kernel
theorem dL_law_484 : decode cL_law 484 = .ok (.aload_n 1, 1) := by decide +kernel
theorem dL_law_485 : decode cL_law 485 = .ok (.aload_n 0, 1) := by decide +kernel
theorem dL_law_486 : decode cL_law 486 = .ok (.iload_n 3, 1) := by decide +kernel
theorem dL_law_487 : decode cL_law 487 = .ok (.iconst 1, 1) := by decide +kernel
theorem dL_law_488 : decode cL_law 488 = .ok (.iadd, 1) := by decide +kernel
theorem dL_law_489 : decode cL_law 489 = .ok (.iaload, 1) := by decide +kernel
theorem dL_law_490 : decode cL_law 490 = .ok (.aload_n 0, 1) := by decide +kernel
theorem dL_law_491 : decode cL_law 491 = .ok (.iload_n 3, 1) := by decide +kernel
theorem dL_law_492 : decode cL_law 492 = .ok (.iconst 2, 1) := by decide +kernel
theorem dL_law_493 : decode cL_law 493 = .ok (.iadd, 1) := by decide +kernel
theorem dL_law_494 : decode cL_law 494 = .ok (.iaload, 1) := by decide +kernel
theorem dL_law_495 : decode cL_law 495 = .ok (.invokevirtual 51, 3) := by decide +kernel
theorem dL_law_498 : decode cL_law 498 = .ok (.aload_n 2, 1) := by decide +kernel
theorem dL_law_499 : decode cL_law 499 = .ok (.aload_n 0, 1) := by decide +kernel
theorem dL_law_500 : decode cL_law 500 = .ok (.iload_n 3, 1) := by decide +kernel
theorem dL_law_501 : decode cL_law 501 = .ok (.iconst 1, 1) := by decide +kernel
theorem dL_law_502 : decode cL_law 502 = .ok (.iadd, 1) := by decide +kernel
theorem dL_law_503 : decode cL_law 503 = .ok (.iaload, 1) := by decide +kernel
theorem dL_law_504 : decode cL_law 504 = .ok (.aload_n 0, 1) := by decide +kernel
theorem dL_law_505 : decode cL_law 505 = .ok (.iload_n 3, 1) := by decide +kernel
theorem dL_law_506 : decode cL_law 506 = .ok (.iconst 2, 1) := by decide +kernel
theorem dL_law_507 : decode cL_law 507 = .ok (.iadd, 1) := by decide +kernel
theorem dL_law_508 : decode cL_law 508 = .ok (.iaload, 1) := by decide +kernel
theorem dL_law_509 : decode cL_law 509 = .ok (.invokevirtual 54, 3) := by decide +kernel
theorem dL_law_512 : decode cL_law 512 = .ok (.if_icmp .eq 635, 3) := by decide +kernel
theorem dL_law_515 : decode cL_law 515 = .ok (.iconst 0, 1) := by decide +kernel
theorem dL_law_516 : decode cL_law 516 = .ok (.ireturn, 1) := by decide +kernel
theorem dL_law_517 : decode cL_law 517 = .ok (.aload_n 1, 1) := by decide +kernel
theorem dL_law_518 : decode cL_law 518 = .ok (.aload_n 0, 1) := by decide +kernel
theorem dL_law_519 : decode cL_law 519 = .ok (.iload_n 3, 1) := by decide +kernel
theorem dL_law_520 : decode cL_law 520 = .ok (.iconst 1, 1) := by decide +kernel
theorem dL_law_521 : decode cL_law 521 = .ok (.iadd, 1) := by decide +kernel
theorem dL_law_522 : decode cL_law 522 = .ok (.iaload, 1) := by decide +kernel
theorem dL_law_523 : decode cL_law 523 = .ok (.aload_n 0, 1) := by decide +kernel
theorem dL_law_524 : decode cL_law 524 = .ok (.iload_n 3, 1) := by decide +kernel
theorem dL_law_525 : decode cL_law 525 = .ok (.iconst 2, 1) := by decide +kernel
theorem dL_law_526 : decode cL_law 526 = .ok (.iadd, 1) := by decide +kernel
theorem dL_law_527 : decode cL_law 527 = .ok (.iaload, 1) := by decide +kernel
theorem dL_law_528 : decode cL_law 528 = .ok (.invokevirtual 55, 3) := by decide +kernel
theorem dL_law_531 : decode cL_law 531 = .ok (.aload_n 2, 1) := by decide +kernel
theorem dL_law_532 : decode cL_law 532 = .ok (.aload_n 0, 1) := by decide +kernel
theorem dL_law_533 : decode cL_law 533 = .ok (.iload_n 3, 1) := by decide +kernel
theorem dL_law_534 : decode cL_law 534 = .ok (.iconst 1, 1) := by decide +kernel
theorem dL_law_535 : decode cL_law 535 = .ok (.iadd, 1) := by decide +kernel
theorem dL_law_536 : decode cL_law 536 = .ok (.iaload, 1) := by decide +kernel
theorem dL_law_537 : decode cL_law 537 = .ok (.aload_n 0, 1) := by decide +kernel
theorem dL_law_538 : decode cL_law 538 = .ok (.iload_n 3, 1) := by decide +kernel
theorem dL_law_539 : decode cL_law 539 = .ok (.iconst 2, 1) := by decide +kernel
theorem dL_law_540 : decode cL_law 540 = .ok (.iadd, 1) := by decide +kernel
theorem dL_law_541 : decode cL_law 541 = .ok (.iaload, 1) := by decide +kernel
theorem dL_law_542 : decode cL_law 542 = .ok (.invokevirtual 58, 3) := by decide +kernel
theorem dL_law_545 : decode cL_law 545 = .ok (.if_icmp .eq 602, 3) := by decide +kernel
theorem dL_law_548 : decode cL_law 548 = .ok (.iconst 0, 1) := by decide +kernel
theorem dL_law_549 : decode cL_law 549 = .ok (.ireturn, 1) := by decide +kernel
theorem dL_law_550 : decode cL_law 550 = .ok (.aload_n 1, 1) := by decide +kernel
theorem dL_law_551 : decode cL_law 551 = .ok (.aload_n 0, 1) := by decide +kernel
theorem dL_law_552 : decode cL_law 552 = .ok (.iload_n 3, 1) := by decide +kernel
theorem dL_law_553 : decode cL_law 553 = .ok (.iconst 1, 1) := by decide +kernel
theorem dL_law_554 : decode cL_law 554 = .ok (.iadd, 1) := by decide +kernel
theorem dL_law_555 : decode cL_law 555 = .ok (.iaload, 1) := by decide +kernel
theorem dL_law_556 : decode cL_law 556 = .ok (.invokevirtual 59, 3) := by decide +kernel
theorem dL_law_559 : decode cL_law 559 = .ok (.aload_n 2, 1) := by decide +kernel
theorem dL_law_560 : decode cL_law 560 = .ok (.aload_n 0, 1) := by decide +kernel
theorem dL_law_561 : decode cL_law 561 = .ok (.iload_n 3, 1) := by decide +kernel
theorem dL_law_562 : decode cL_law 562 = .ok (.iconst 1, 1) := by decide +kernel
theorem dL_law_563 : decode cL_law 563 = .ok (.iadd, 1) := by decide +kernel
theorem dL_law_564 : decode cL_law 564 = .ok (.iaload, 1) := by decide +kernel
theorem dL_law_565 : decode cL_law 565 = .ok (.invokevirtual 62, 3) := by decide +kernel
theorem dL_law_568 : decode cL_law 568 = .ok (.if_icmp .eq 579, 3) := by decide +kernel
theorem dL_law_571 : decode cL_law 571 = .ok (.iconst 0, 1) := by decide +kernel
theorem dL_law_572 : decode cL_law 572 = .ok (.ireturn, 1) := by decide +kernel
theorem dL_law_573 : decode cL_law 573 = .ok (.aload_n 1, 1) := by decide +kernel
theorem dL_law_574 : decode cL_law 574 = .ok (.invokevirtual 63, 3) := by decide +kernel
theorem dL_law_577 : decode cL_law 577 = .ok (.aload_n 2, 1) := by decide +kernel
theorem dL_law_578 : decode cL_law 578 = .ok (.invokevirtual 66, 3) := by decide +kernel
theorem dL_law_581 : decode cL_law 581 = .ok (.if_icmp .eq 566, 3) := by decide +kernel
theorem dL_law_584 : decode cL_law 584 = .ok (.iconst 0, 1) := by decide +kernel
theorem dL_law_585 : decode cL_law 585 = .ok (.ireturn, 1) := by decide +kernel
theorem dL_law_586 : decode cL_law 586 = .ok (.aload_n 1, 1) := by decide +kernel
theorem dL_law_587 : decode cL_law 587 = .ok (.invokevirtual 67, 3) := by decide +kernel
theorem dL_law_590 : decode cL_law 590 = .ok (.aload_n 2, 1) := by decide +kernel
theorem dL_law_591 : decode cL_law 591 = .ok (.invokevirtual 70, 3) := by decide +kernel
theorem dL_law_594 : decode cL_law 594 = .ok (.if_icmp .eq 553, 3) := by decide +kernel
theorem dL_law_597 : decode cL_law 597 = .ok (.iconst 0, 1) := by decide +kernel
theorem dL_law_598 : decode cL_law 598 = .ok (.ireturn, 1) := by decide +kernel
theorem dL_law_599 : decode cL_law 599 = .ok (.aload_n 1, 1) := by decide +kernel
theorem dL_law_600 : decode cL_law 600 = .ok (.invokevirtual 71, 3) := by decide +kernel
theorem dL_law_603 : decode cL_law 603 = .ok (.aload_n 2, 1) := by decide +kernel
theorem dL_law_604 : decode cL_law 604 = .ok (.invokevirtual 74, 3) := by decide +kernel
theorem dL_law_607 : decode cL_law 607 = .ok (.if_icmp .eq 540, 3) := by decide +kernel
theorem dL_law_610 : decode cL_law 610 = .ok (.iconst 0, 1) := by decide +kernel
theorem dL_law_611 : decode cL_law 611 = .ok (.ireturn, 1) := by decide +kernel
theorem dL_law_612 : decode cL_law 612 = .ok (.aload_n 1, 1) := by decide +kernel
theorem dL_law_613 : decode cL_law 613 = .ok (.invokevirtual 75, 3) := by decide +kernel
theorem dL_law_616 : decode cL_law 616 = .ok (.aload_n 2, 1) := by decide +kernel
theorem dL_law_617 : decode cL_law 617 = .ok (.invokevirtual 78, 3) := by decide +kernel
theorem dL_law_620 : decode cL_law 620 = .ok (.if_icmp .eq 527, 3) := by decide +kernel
theorem dL_law_623 : decode cL_law 623 = .ok (.iconst 0, 1) := by decide +kernel
theorem dL_law_624 : decode cL_law 624 = .ok (.ireturn, 1) := by decide +kernel
theorem dL_law_625 : decode cL_law 625 = .ok (.aload_n 1, 1) := by decide +kernel
theorem dL_law_626 : decode cL_law 626 = .ok (.aload_n 0, 1) := by decide +kernel
theorem dL_law_627 : decode cL_law 627 = .ok (.iload_n 3, 1) := by decide +kernel
theorem dL_law_628 : decode cL_law 628 = .ok (.iconst 1, 1) := by decide +kernel
theorem dL_law_629 : decode cL_law 629 = .ok (.iadd, 1) := by decide +kernel
theorem dL_law_630 : decode cL_law 630 = .ok (.iaload, 1) := by decide +kernel
theorem dL_law_631 : decode cL_law 631 = .ok (.invokevirtual 79, 3) := by decide +kernel
theorem dL_law_634 : decode cL_law 634 = .ok (.aload_n 2, 1) := by decide +kernel
theorem dL_law_635 : decode cL_law 635 = .ok (.aload_n 0, 1) := by decide +kernel
theorem dL_law_636 : decode cL_law 636 = .ok (.iload_n 3, 1) := by decide +kernel
theorem dL_law_637 : decode cL_law 637 = .ok (.iconst 1, 1) := by decide +kernel
theorem dL_law_638 : decode cL_law 638 = .ok (.iadd, 1) := by decide +kernel
theorem dL_law_639 : decode cL_law 639 = .ok (.iaload, 1) := by decide +kernel
theorem dL_law_640 : decode cL_law 640 = .ok (.invokevirtual 82, 3) := by decide +kernel
theorem dL_law_643 : decode cL_law 643 = .ok (.if_icmp .eq 504, 3) := by decide +kernel
theorem dL_law_646 : decode cL_law 646 = .ok (.iconst 0, 1) := by decide +kernel
theorem dL_law_647 : decode cL_law 647 = .ok (.ireturn, 1) := by decide +kernel
theorem dL_law_648 : decode cL_law 648 = .ok (.aload_n 1, 1) := by decide +kernel
theorem dL_law_649 : decode cL_law 649 = .ok (.aload_n 0, 1) := by decide +kernel
theorem dL_law_650 : decode cL_law 650 = .ok (.iload_n 3, 1) := by decide +kernel
theorem dL_law_651 : decode cL_law 651 = .ok (.iconst 1, 1) := by decide +kernel
theorem dL_law_652 : decode cL_law 652 = .ok (.iadd, 1) := by decide +kernel
theorem dL_law_653 : decode cL_law 653 = .ok (.iaload, 1) := by decide +kernel
theorem dL_law_654 : decode cL_law 654 = .ok (.invokevirtual 83, 3) := by decide +kernel
theorem dL_law_657 : decode cL_law 657 = .ok (.aload_n 2, 1) := by decide +kernel
theorem dL_law_658 : decode cL_law 658 = .ok (.aload_n 0, 1) := by decide +kernel
theorem dL_law_659 : decode cL_law 659 = .ok (.iload_n 3, 1) := by decide +kernel
theorem dL_law_660 : decode cL_law 660 = .ok (.iconst 1, 1) := by decide +kernel
theorem dL_law_661 : decode cL_law 661 = .ok (.iadd, 1) := by decide +kernel
theorem dL_law_662 : decode cL_law 662 = .ok (.iaload, 1) := by decide +kernel
theorem dL_law_663 : decode cL_law 663 = .ok (.invokevirtual 86, 3) := by decide +kernel
theorem dL_law_666 : decode cL_law 666 = .ok (.if_icmp .eq 481, 3) := by decide +kernel
theorem dL_law_669 : decode cL_law 669 = .ok (.iconst 0, 1) := by decide +kernel
theorem dL_law_670 : decode cL_law 670 = .ok (.ireturn, 1) := by decide +kernel
theorem dL_law_671 : decode cL_law 671 = .ok (.aload_n 1, 1) := by decide +kernel
theorem dL_law_672 : decode cL_law 672 = .ok (.aload_n 0, 1) := by decide +kernel
theorem dL_law_673 : decode cL_law 673 = .ok (.iload_n 3, 1) := by decide +kernel
theorem dL_law_674 : decode cL_law 674 = .ok (.iconst 1, 1) := by decide +kernel
theorem dL_law_675 : decode cL_law 675 = .ok (.iadd, 1) := by decide +kernel
theorem dL_law_676 : decode cL_law 676 = .ok (.iaload, 1) := by decide +kernel
theorem dL_law_677 : decode cL_law 677 = .ok (.invokevirtual 87, 3) := by decide +kernel
theorem dL_law_680 : decode cL_law 680 = .ok (.aload_n 2, 1) := by decide +kernel
theorem dL_law_681 : decode cL_law 681 = .ok (.aload_n 0, 1) := by decide +kernel
theorem dL_law_682 : decode cL_law 682 = .ok (.iload_n 3, 1) := by decide +kernel
theorem dL_law_683 : decode cL_law 683 = .ok (.iconst 1, 1) := by decide +kernel
theorem dL_law_684 : decode cL_law 684 = .ok (.iadd, 1) := by decide +kernel
theorem dL_law_685 : decode cL_law 685 = .ok (.iaload, 1) := by decide +kernel
theorem dL_law_686 : decode cL_law 686 = .ok (.invokevirtual 90, 3) := by decide +kernel
theorem dL_law_689 : decode cL_law 689 = .ok (.if_icmp .eq 458, 3) := by decide +kernel
theorem dL_law_692 : decode cL_law 692 = .ok (.iconst 0, 1) := by decide +kernel
theorem dL_law_693 : decode cL_law 693 = .ok (.ireturn, 1) := by decide +kernel
theorem dL_law_694 : decode cL_law 694 = .ok (.aload_n 1, 1) := by decide +kernel
theorem dL_law_695 : decode cL_law 695 = .ok (.invokevirtual 91, 3) := by decide +kernel
theorem dL_law_698 : decode cL_law 698 = .ok (.aload_n 2, 1) := by decide +kernel
theorem dL_law_699 : decode cL_law 699 = .ok (.invokevirtual 94, 3) := by decide +kernel
theorem dL_law_702 : decode cL_law 702 = .ok (.if_icmp .eq 445, 3) := by decide +kernel
theorem dL_law_705 : decode cL_law 705 = .ok (.iconst 0, 1) := by decide +kernel
theorem dL_law_706 : decode cL_law 706 = .ok (.ireturn, 1) := by decide +kernel
theorem dL_law_707 : decode cL_law 707 = .ok (.aload_n 1, 1) := by decide +kernel
theorem dL_law_708 : decode cL_law 708 = .ok (.invokevirtual 95, 3) := by decide +kernel
theorem dL_law_711 : decode cL_law 711 = .ok (.aload_n 2, 1) := by decide +kernel
theorem dL_law_712 : decode cL_law 712 = .ok (.invokevirtual 98, 3) := by decide +kernel
theorem dL_law_715 : decode cL_law 715 = .ok (.if_icmp .eq 432, 3) := by decide +kernel
theorem dL_law_718 : decode cL_law 718 = .ok (.iconst 0, 1) := by decide +kernel
theorem dL_law_719 : decode cL_law 719 = .ok (.ireturn, 1) := by decide +kernel
theorem dL_law_720 : decode cL_law 720 = .ok (.aload_n 1, 1) := by decide +kernel
theorem dL_law_721 : decode cL_law 721 = .ok (.invokevirtual 99, 3) := by decide +kernel
theorem dL_law_724 : decode cL_law 724 = .ok (.aload_n 2, 1) := by decide +kernel
theorem dL_law_725 : decode cL_law 725 = .ok (.invokevirtual 102, 3) := by decide +kernel
theorem dL_law_728 : decode cL_law 728 = .ok (.if_icmp .eq 419, 3) := by decide +kernel
theorem dL_law_731 : decode cL_law 731 = .ok (.iconst 0, 1) := by decide +kernel
theorem dL_law_732 : decode cL_law 732 = .ok (.ireturn, 1) := by decide +kernel
theorem dL_law_733 : decode cL_law 733 = .ok (.aload_n 1, 1) := by decide +kernel
theorem dL_law_734 : decode cL_law 734 = .ok (.aload_n 0, 1) := by decide +kernel
theorem dL_law_735 : decode cL_law 735 = .ok (.iload_n 3, 1) := by decide +kernel
theorem dL_law_736 : decode cL_law 736 = .ok (.iconst 1, 1) := by decide +kernel
theorem dL_law_737 : decode cL_law 737 = .ok (.iadd, 1) := by decide +kernel
theorem dL_law_738 : decode cL_law 738 = .ok (.iaload, 1) := by decide +kernel
theorem dL_law_739 : decode cL_law 739 = .ok (.invokevirtual 103, 3) := by decide +kernel
theorem dL_law_742 : decode cL_law 742 = .ok (.aload_n 2, 1) := by decide +kernel
theorem dL_law_743 : decode cL_law 743 = .ok (.aload_n 0, 1) := by decide +kernel
theorem dL_law_744 : decode cL_law 744 = .ok (.iload_n 3, 1) := by decide +kernel
theorem dL_law_745 : decode cL_law 745 = .ok (.iconst 1, 1) := by decide +kernel
theorem dL_law_746 : decode cL_law 746 = .ok (.iadd, 1) := by decide +kernel
theorem dL_law_747 : decode cL_law 747 = .ok (.iaload, 1) := by decide +kernel
theorem dL_law_748 : decode cL_law 748 = .ok (.invokevirtual 106, 3) := by decide +kernel
theorem dL_law_751 : decode cL_law 751 = .ok (.if_icmp .eq 396, 3) := by decide +kernel
theorem dL_law_754 : decode cL_law 754 = .ok (.iconst 0, 1) := by decide +kernel
theorem dL_law_755 : decode cL_law 755 = .ok (.ireturn, 1) := by decide +kernel
theorem dL_law_756 : decode cL_law 756 = .ok (.aload_n 1, 1) := by decide +kernel
theorem dL_law_757 : decode cL_law 757 = .ok (.invokevirtual 107, 3) := by decide +kernel
theorem dL_law_760 : decode cL_law 760 = .ok (.aload_n 2, 1) := by decide +kernel
theorem dL_law_761 : decode cL_law 761 = .ok (.invokevirtual 110, 3) := by decide +kernel
theorem dL_law_764 : decode cL_law 764 = .ok (.if_icmp .eq 383, 3) := by decide +kernel
theorem dL_law_767 : decode cL_law 767 = .ok (.iconst 0, 1) := by decide +kernel
theorem dL_law_768 : decode cL_law 768 = .ok (.ireturn, 1) := by decide +kernel
theorem dL_law_769 : decode cL_law 769 = .ok (.aload_n 1, 1) := by decide +kernel
theorem dL_law_770 : decode cL_law 770 = .ok (.invokevirtual 111, 3) := by decide +kernel
theorem dL_law_773 : decode cL_law 773 = .ok (.aload_n 2, 1) := by decide +kernel
theorem dL_law_774 : decode cL_law 774 = .ok (.invokevirtual 114, 3) := by decide +kernel
theorem dL_law_777 : decode cL_law 777 = .ok (.if_icmp .eq 370, 3) := by decide +kernel
theorem dL_law_780 : decode cL_law 780 = .ok (.iconst 0, 1) := by decide +kernel
theorem dL_law_781 : decode cL_law 781 = .ok (.ireturn, 1) := by decide +kernel
theorem dL_law_782 : decode cL_law 782 = .ok (.aload_n 1, 1) := by decide +kernel
theorem dL_law_783 : decode cL_law 783 = .ok (.aload_n 0, 1) := by decide +kernel
theorem dL_law_784 : decode cL_law 784 = .ok (.iload_n 3, 1) := by decide +kernel
theorem dL_law_785 : decode cL_law 785 = .ok (.iconst 1, 1) := by decide +kernel
theorem dL_law_786 : decode cL_law 786 = .ok (.iadd, 1) := by decide +kernel
theorem dL_law_787 : decode cL_law 787 = .ok (.iaload, 1) := by decide +kernel
theorem dL_law_788 : decode cL_law 788 = .ok (.invokevirtual 115, 3) := by decide +kernel
theorem dL_law_791 : decode cL_law 791 = .ok (.aload_n 2, 1) := by decide +kernel
theorem dL_law_792 : decode cL_law 792 = .ok (.aload_n 0, 1) := by decide +kernel
theorem dL_law_793 : decode cL_law 793 = .ok (.iload_n 3, 1) := by decide +kernel
theorem dL_law_794 : decode cL_law 794 = .ok (.iconst 1, 1) := by decide +kernel
theorem dL_law_795 : decode cL_law 795 = .ok (.iadd, 1) := by decide +kernel
theorem dL_law_796 : decode cL_law 796 = .ok (.iaload, 1) := by decide +kernel
theorem dL_law_797 : decode cL_law 797 = .ok (.invokevirtual 118, 3) := by decide +kernel
theorem dL_law_800 : decode cL_law 800 = .ok (.if_icmp .eq 347, 3) := by decide +kernel
theorem dL_law_803 : decode cL_law 803 = .ok (.iconst 0, 1) := by decide +kernel
theorem dL_law_804 : decode cL_law 804 = .ok (.ireturn, 1) := by decide +kernel
theorem dL_law_805 : decode cL_law 805 = .ok (.aload_n 1, 1) := by decide +kernel
theorem dL_law_806 : decode cL_law 806 = .ok (.aload_n 0, 1) := by decide +kernel
theorem dL_law_807 : decode cL_law 807 = .ok (.iload_n 3, 1) := by decide +kernel
theorem dL_law_808 : decode cL_law 808 = .ok (.iconst 1, 1) := by decide +kernel
theorem dL_law_809 : decode cL_law 809 = .ok (.iadd, 1) := by decide +kernel
theorem dL_law_810 : decode cL_law 810 = .ok (.iaload, 1) := by decide +kernel
theorem dL_law_811 : decode cL_law 811 = .ok (.aload_n 0, 1) := by decide +kernel
theorem dL_law_812 : decode cL_law 812 = .ok (.iload_n 3, 1) := by decide +kernel
theorem dL_law_813 : decode cL_law 813 = .ok (.iconst 2, 1) := by decide +kernel
theorem dL_law_814 : decode cL_law 814 = .ok (.iadd, 1) := by decide +kernel
theorem dL_law_815 : decode cL_law 815 = .ok (.iaload, 1) := by decide +kernel
theorem dL_law_816 : decode cL_law 816 = .ok (.invokevirtual 119, 3) := by decide +kernel
theorem dL_law_819 : decode cL_law 819 = .ok (.aload_n 2, 1) := by decide +kernel
theorem dL_law_820 : decode cL_law 820 = .ok (.aload_n 0, 1) := by decide +kernel
theorem dL_law_821 : decode cL_law 821 = .ok (.iload_n 3, 1) := by decide +kernel
theorem dL_law_822 : decode cL_law 822 = .ok (.iconst 1, 1) := by decide +kernel
theorem dL_law_823 : decode cL_law 823 = .ok (.iadd, 1) := by decide +kernel
theorem dL_law_824 : decode cL_law 824 = .ok (.iaload, 1) := by decide +kernel
theorem dL_law_825 : decode cL_law 825 = .ok (.aload_n 0, 1) := by decide +kernel
theorem dL_law_826 : decode cL_law 826 = .ok (.iload_n 3, 1) := by decide +kernel
theorem dL_law_827 : decode cL_law 827 = .ok (.iconst 2, 1) := by decide +kernel
theorem dL_law_828 : decode cL_law 828 = .ok (.iadd, 1) := by decide +kernel
theorem dL_law_829 : decode cL_law 829 = .ok (.iaload, 1) := by decide +kernel
theorem dL_law_830 : decode cL_law 830 = .ok (.invokevirtual 122, 3) := by decide +kernel
theorem dL_law_833 : decode cL_law 833 = .ok (.if_icmp .eq 314, 3) := by decide +kernel
theorem dL_law_836 : decode cL_law 836 = .ok (.iconst 0, 1) := by decide +kernel
theorem dL_law_837 : decode cL_law 837 = .ok (.ireturn, 1) := by decide +kernel
theorem dL_law_838 : decode cL_law 838 = .ok (.aload_n 1, 1) := by decide +kernel
theorem dL_law_839 : decode cL_law 839 = .ok (.aload_n 0, 1) := by decide +kernel
theorem dL_law_840 : decode cL_law 840 = .ok (.iload_n 3, 1) := by decide +kernel
theorem dL_law_841 : decode cL_law 841 = .ok (.iconst 1, 1) := by decide +kernel
theorem dL_law_842 : decode cL_law 842 = .ok (.iadd, 1) := by decide +kernel
theorem dL_law_843 : decode cL_law 843 = .ok (.iaload, 1) := by decide +kernel
theorem dL_law_844 : decode cL_law 844 = .ok (.aload_n 0, 1) := by decide +kernel
theorem dL_law_845 : decode cL_law 845 = .ok (.iload_n 3, 1) := by decide +kernel
theorem dL_law_846 : decode cL_law 846 = .ok (.iconst 2, 1) := by decide +kernel
theorem dL_law_847 : decode cL_law 847 = .ok (.iadd, 1) := by decide +kernel
theorem dL_law_848 : decode cL_law 848 = .ok (.iaload, 1) := by decide +kernel
theorem dL_law_849 : decode cL_law 849 = .ok (.aload_n 0, 1) := by decide +kernel
theorem dL_law_850 : decode cL_law 850 = .ok (.iload_n 3, 1) := by decide +kernel
theorem dL_law_851 : decode cL_law 851 = .ok (.iconst 3, 1) := by decide +kernel
theorem dL_law_852 : decode cL_law 852 = .ok (.iadd, 1) := by decide +kernel
theorem dL_law_853 : decode cL_law 853 = .ok (.iaload, 1) := by decide +kernel
theorem dL_law_854 : decode cL_law 854 = .ok (.invokevirtual 123, 3) := by decide +kernel
theorem dL_law_857 : decode cL_law 857 = .ok (.aload_n 2, 1) := by decide +kernel
theorem dL_law_858 : decode cL_law 858 = .ok (.aload_n 0, 1) := by decide +kernel
theorem dL_law_859 : decode cL_law 859 = .ok (.iload_n 3, 1) := by decide +kernel
theorem dL_law_860 : decode cL_law 860 = .ok (.iconst 1, 1) := by decide +kernel
theorem dL_law_861 : decode cL_law 861 = .ok (.iadd, 1) := by decide +kernel
theorem dL_law_862 : decode cL_law 862 = .ok (.iaload, 1) := by decide +kernel
theorem dL_law_863 : decode cL_law 863 = .ok (.aload_n 0, 1) := by decide +kernel
theorem dL_law_864 : decode cL_law 864 = .ok (.iload_n 3, 1) := by decide +kernel
theorem dL_law_865 : decode cL_law 865 = .ok (.iconst 2, 1) := by decide +kernel
theorem dL_law_866 : decode cL_law 866 = .ok (.iadd, 1) := by decide +kernel
theorem dL_law_867 : decode cL_law 867 = .ok (.iaload, 1) := by decide +kernel
theorem dL_law_868 : decode cL_law 868 = .ok (.aload_n 0, 1) := by decide +kernel
theorem dL_law_869 : decode cL_law 869 = .ok (.iload_n 3, 1) := by decide +kernel
theorem dL_law_870 : decode cL_law 870 = .ok (.iconst 3, 1) := by decide +kernel
theorem dL_law_871 : decode cL_law 871 = .ok (.iadd, 1) := by decide +kernel
theorem dL_law_872 : decode cL_law 872 = .ok (.iaload, 1) := by decide +kernel
theorem dL_law_873 : decode cL_law 873 = .ok (.invokevirtual 126, 3) := by decide +kernel
theorem dL_law_876 : decode cL_law 876 = .ok (.if_icmp .eq 271, 3) := by decide +kernel
theorem dL_law_879 : decode cL_law 879 = .ok (.iconst 0, 1) := by decide +kernel
theorem dL_law_880 : decode cL_law 880 = .ok (.ireturn, 1) := by decide +kernel
theorem dL_law_881 : decode cL_law 881 = .ok (.aload_n 1, 1) := by decide +kernel
theorem dL_law_882 : decode cL_law 882 = .ok (.aload_n 0, 1) := by decide +kernel
theorem dL_law_883 : decode cL_law 883 = .ok (.iload_n 3, 1) := by decide +kernel
theorem dL_law_884 : decode cL_law 884 = .ok (.iconst 1, 1) := by decide +kernel
theorem dL_law_885 : decode cL_law 885 = .ok (.iadd, 1) := by decide +kernel
theorem dL_law_886 : decode cL_law 886 = .ok (.iaload, 1) := by decide +kernel
theorem dL_law_887 : decode cL_law 887 = .ok (.aload_n 0, 1) := by decide +kernel
theorem dL_law_888 : decode cL_law 888 = .ok (.iload_n 3, 1) := by decide +kernel
theorem dL_law_889 : decode cL_law 889 = .ok (.iconst 2, 1) := by decide +kernel
theorem dL_law_890 : decode cL_law 890 = .ok (.iadd, 1) := by decide +kernel
theorem dL_law_891 : decode cL_law 891 = .ok (.iaload, 1) := by decide +kernel
theorem dL_law_892 : decode cL_law 892 = .ok (.invokevirtual 127, 3) := by decide +kernel
theorem dL_law_895 : decode cL_law 895 = .ok (.aload_n 2, 1) := by decide +kernel
theorem dL_law_896 : decode cL_law 896 = .ok (.aload_n 0, 1) := by decide +kernel
theorem dL_law_897 : decode cL_law 897 = .ok (.iload_n 3, 1) := by decide +kernel
theorem dL_law_898 : decode cL_law 898 = .ok (.iconst 1, 1) := by decide +kernel
theorem dL_law_899 : decode cL_law 899 = .ok (.iadd, 1) := by decide +kernel
theorem dL_law_900 : decode cL_law 900 = .ok (.iaload, 1) := by decide +kernel
theorem dL_law_901 : decode cL_law 901 = .ok (.aload_n 0, 1) := by decide +kernel
theorem dL_law_902 : decode cL_law 902 = .ok (.iload_n 3, 1) := by decide +kernel
theorem dL_law_903 : decode cL_law 903 = .ok (.iconst 2, 1) := by decide +kernel
theorem dL_law_904 : decode cL_law 904 = .ok (.iadd, 1) := by decide +kernel
theorem dL_law_905 : decode cL_law 905 = .ok (.iaload, 1) := by decide +kernel
theorem dL_law_906 : decode cL_law 906 = .ok (.invokevirtual 130, 3) := by decide +kernel
theorem dL_law_909 : decode cL_law 909 = .ok (.if_icmp .eq 238, 3) := by decide +kernel
theorem dL_law_912 : decode cL_law 912 = .ok (.iconst 0, 1) := by decide +kernel
theorem dL_law_913 : decode cL_law 913 = .ok (.ireturn, 1) := by decide +kernel
theorem dL_law_914 : decode cL_law 914 = .ok (.aload_n 1, 1) := by decide +kernel
theorem dL_law_915 : decode cL_law 915 = .ok (.aload_n 0, 1) := by decide +kernel
theorem dL_law_916 : decode cL_law 916 = .ok (.iload_n 3, 1) := by decide +kernel
theorem dL_law_917 : decode cL_law 917 = .ok (.iconst 1, 1) := by decide +kernel
theorem dL_law_918 : decode cL_law 918 = .ok (.iadd, 1) := by decide +kernel
theorem dL_law_919 : decode cL_law 919 = .ok (.iaload, 1) := by decide +kernel
theorem dL_law_920 : decode cL_law 920 = .ok (.aload_n 0, 1) := by decide +kernel
theorem dL_law_921 : decode cL_law 921 = .ok (.iload_n 3, 1) := by decide +kernel
theorem dL_law_922 : decode cL_law 922 = .ok (.iconst 2, 1) := by decide +kernel
theorem dL_law_923 : decode cL_law 923 = .ok (.iadd, 1) := by decide +kernel
theorem dL_law_924 : decode cL_law 924 = .ok (.iaload, 1) := by decide +kernel
theorem dL_law_925 : decode cL_law 925 = .ok (.invokevirtual 131, 3) := by decide +kernel
theorem dL_law_928 : decode cL_law 928 = .ok (.aload_n 2, 1) := by decide +kernel
theorem dL_law_929 : decode cL_law 929 = .ok (.aload_n 0, 1) := by decide +kernel
theorem dL_law_930 : decode cL_law 930 = .ok (.iload_n 3, 1) := by decide +kernel
theorem dL_law_931 : decode cL_law 931 = .ok (.iconst 1, 1) := by decide +kernel
theorem dL_law_932 : decode cL_law 932 = .ok (.iadd, 1) := by decide +kernel
theorem dL_law_933 : decode cL_law 933 = .ok (.iaload, 1) := by decide +kernel
theorem dL_law_934 : decode cL_law 934 = .ok (.aload_n 0, 1) := by decide +kernel
theorem dL_law_935 : decode cL_law 935 = .ok (.iload_n 3, 1) := by decide +kernel
theorem dL_law_936 : decode cL_law 936 = .ok (.iconst 2, 1) := by decide +kernel
theorem dL_law_937 : decode cL_law 937 = .ok (.iadd, 1) := by decide +kernel
theorem dL_law_938 : decode cL_law 938 = .ok (.iaload, 1) := by decide +kernel
theorem dL_law_939 : decode cL_law 939 = .ok (.invokevirtual 134, 3) := by decide +kernel
theorem dL_law_942 : decode cL_law 942 = .ok (.if_icmp .eq 205, 3) := by decide +kernel
theorem dL_law_945 : decode cL_law 945 = .ok (.iconst 0, 1) := by decide +kernel
theorem dL_law_946 : decode cL_law 946 = .ok (.ireturn, 1) := by decide +kernel
theorem dL_law_947 : decode cL_law 947 = .ok (.aload_n 1, 1) := by decide +kernel
theorem dL_law_948 : decode cL_law 948 = .ok (.aload_n 0, 1) := by decide +kernel
theorem dL_law_949 : decode cL_law 949 = .ok (.iload_n 3, 1) := by decide +kernel
theorem dL_law_950 : decode cL_law 950 = .ok (.iconst 1, 1) := by decide +kernel
theorem dL_law_951 : decode cL_law 951 = .ok (.iadd, 1) := by decide +kernel
theorem dL_law_952 : decode cL_law 952 = .ok (.iaload, 1) := by decide +kernel
theorem dL_law_953 : decode cL_law 953 = .ok (.invokevirtual 135, 3) := by decide +kernel
theorem dL_law_956 : decode cL_law 956 = .ok (.aload_n 2, 1) := by decide +kernel
theorem dL_law_957 : decode cL_law 957 = .ok (.aload_n 0, 1) := by decide +kernel
theorem dL_law_958 : decode cL_law 958 = .ok (.iload_n 3, 1) := by decide +kernel
theorem dL_law_959 : decode cL_law 959 = .ok (.iconst 1, 1) := by decide +kernel
theorem dL_law_960 : decode cL_law 960 = .ok (.iadd, 1) := by decide +kernel
theorem dL_law_961 : decode cL_law 961 = .ok (.iaload, 1) := by decide +kernel
theorem dL_law_962 : decode cL_law 962 = .ok (.invokevirtual 138, 3) := by decide +kernel
theorem dL_law_965 : decode cL_law 965 = .ok (.if_icmp .eq 182, 3) := by decide +kernel
theorem dL_law_968 : decode cL_law 968 = .ok (.iconst 0, 1) := by decide +kernel
theorem dL_law_969 : decode cL_law 969 = .ok (.ireturn, 1) := by decide +kernel
theorem dL_law_970 : decode cL_law 970 = .ok (.aload_n 1, 1) := by decide +kernel
theorem dL_law_971 : decode cL_law 971 = .ok (.aload_n 0, 1) := by decide +kernel
theorem dL_law_972 : decode cL_law 972 = .ok (.iload_n 3, 1) := by decide +kernel
theorem dL_law_973 : decode cL_law 973 = .ok (.iconst 1, 1) := by decide +kernel
theorem dL_law_974 : decode cL_law 974 = .ok (.iadd, 1) := by decide +kernel
theorem dL_law_975 : decode cL_law 975 = .ok (.iaload, 1) := by decide +kernel
theorem dL_law_976 : decode cL_law 976 = .ok (.aload_n 0, 1) := by decide +kernel
theorem dL_law_977 : decode cL_law 977 = .ok (.iload_n 3, 1) := by decide +kernel
theorem dL_law_978 : decode cL_law 978 = .ok (.iconst 2, 1) := by decide +kernel
theorem dL_law_979 : decode cL_law 979 = .ok (.iadd, 1) := by decide +kernel
theorem dL_law_980 : decode cL_law 980 = .ok (.iaload, 1) := by decide +kernel
theorem dL_law_981 : decode cL_law 981 = .ok (.invokevirtual 139, 3) := by decide +kernel
theorem dL_law_984 : decode cL_law 984 = .ok (.aload_n 2, 1) := by decide +kernel
theorem dL_law_985 : decode cL_law 985 = .ok (.aload_n 0, 1) := by decide +kernel
theorem dL_law_986 : decode cL_law 986 = .ok (.iload_n 3, 1) := by decide +kernel
theorem dL_law_987 : decode cL_law 987 = .ok (.iconst 1, 1) := by decide +kernel
theorem dL_law_988 : decode cL_law 988 = .ok (.iadd, 1) := by decide +kernel
theorem dL_law_989 : decode cL_law 989 = .ok (.iaload, 1) := by decide +kernel
theorem dL_law_990 : decode cL_law 990 = .ok (.aload_n 0, 1) := by decide +kernel
theorem dL_law_991 : decode cL_law 991 = .ok (.iload_n 3, 1) := by decide +kernel
theorem dL_law_992 : decode cL_law 992 = .ok (.iconst 2, 1) := by decide +kernel
theorem dL_law_993 : decode cL_law 993 = .ok (.iadd, 1) := by decide +kernel
theorem dL_law_994 : decode cL_law 994 = .ok (.iaload, 1) := by decide +kernel
theorem dL_law_995 : decode cL_law 995 = .ok (.invokevirtual 142, 3) := by decide +kernel
theorem dL_law_998 : decode cL_law 998 = .ok (.if_icmp .eq 149, 3) := by decide +kernel
theorem dL_law_1001 : decode cL_law 1001 = .ok (.iconst 0, 1) := by decide +kernel
theorem dL_law_1002 : decode cL_law 1002 = .ok (.ireturn, 1) := by decide +kernel
theorem dL_law_1003 : decode cL_law 1003 = .ok (.aload_n 1, 1) := by decide +kernel
theorem dL_law_1004 : decode cL_law 1004 = .ok (.invokevirtual 143, 3) := by decide +kernel
theorem dL_law_1007 : decode cL_law 1007 = .ok (.aload_n 2, 1) := by decide +kernel
theorem dL_law_1008 : decode cL_law 1008 = .ok (.invokevirtual 146, 3) := by decide +kernel
theorem dL_law_1011 : decode cL_law 1011 = .ok (.if_icmp .eq 136, 3) := by decide +kernel
theorem dL_law_1014 : decode cL_law 1014 = .ok (.iconst 0, 1) := by decide +kernel
theorem dL_law_1015 : decode cL_law 1015 = .ok (.ireturn, 1) := by decide +kernel
theorem dL_law_1016 : decode cL_law 1016 = .ok (.aload_n 1, 1) := by decide +kernel
theorem dL_law_1017 : decode cL_law 1017 = .ok (.invokevirtual 147, 3) := by decide +kernel
theorem dL_law_1020 : decode cL_law 1020 = .ok (.aload_n 2, 1) := by decide +kernel
theorem dL_law_1021 : decode cL_law 1021 = .ok (.invokevirtual 150, 3) := by decide +kernel
theorem dL_law_1024 : decode cL_law 1024 = .ok (.if_icmp .eq 123, 3) := by decide +kernel
theorem dL_law_1027 : decode cL_law 1027 = .ok (.iconst 0, 1) := by decide +kernel
theorem dL_law_1028 : decode cL_law 1028 = .ok (.ireturn, 1) := by decide +kernel
theorem dL_law_1029 : decode cL_law 1029 = .ok (.aload_n 1, 1) := by decide +kernel
theorem dL_law_1030 : decode cL_law 1030 = .ok (.invokevirtual 151, 3) := by decide +kernel
theorem dL_law_1033 : decode cL_law 1033 = .ok (.aload_n 2, 1) := by decide +kernel
theorem dL_law_1034 : decode cL_law 1034 = .ok (.invokevirtual 154, 3) := by decide +kernel
theorem dL_law_1037 : decode cL_law 1037 = .ok (.if_icmp .eq 110, 3) := by decide +kernel
theorem dL_law_1040 : decode cL_law 1040 = .ok (.iconst 0, 1) := by decide +kernel
theorem dL_law_1041 : decode cL_law 1041 = .ok (.ireturn, 1) := by decide +kernel
theorem dL_law_1042 : decode cL_law 1042 = .ok (.aload_n 1, 1) := by decide +kernel
theorem dL_law_1043 : decode cL_law 1043 = .ok (.invokevirtual 155, 3) := by decide +kernel
theorem dL_law_1046 : decode cL_law 1046 = .ok (.f2d, 1) := by decide +kernel
theorem dL_law_1047 : decode cL_law 1047 = .ok (.dstore 4, 2) := by decide +kernel
theorem dL_law_1049 : decode cL_law 1049 = .ok (.aload_n 2, 1) := by decide +kernel
theorem dL_law_1050 : decode cL_law 1050 = .ok (.invokevirtual 159, 3) := by decide +kernel
theorem dL_law_1053 : decode cL_law 1053 = .ok (.f2d, 1) := by decide +kernel
theorem dL_law_1054 : decode cL_law 1054 = .ok (.dstore 6, 2) := by decide +kernel
theorem dL_law_1056 : decode cL_law 1056 = .ok (.dload 4, 2) := by decide +kernel
theorem dL_law_1058 : decode cL_law 1058 = .ok (.dload 6, 2) := by decide +kernel
theorem dL_law_1060 : decode cL_law 1060 = .ok (.dcmp .l, 1) := by decide +kernel
theorem dL_law_1061 : decode cL_law 1061 = .ok (.ifCond .eq 21, 3) := by decide +kernel
theorem dL_law_1064 : decode cL_law 1064 = .ok (.dload 4, 2) := by decide +kernel
theorem dL_law_1066 : decode cL_law 1066 = .ok (.dload 4, 2) := by decide +kernel
theorem dL_law_1068 : decode cL_law 1068 = .ok (.dcmp .l, 1) := by decide +kernel
theorem dL_law_1069 : decode cL_law 1069 = .ok (.ifCond .eq 11, 3) := by decide +kernel
theorem dL_law_1072 : decode cL_law 1072 = .ok (.dload 6, 2) := by decide +kernel
theorem dL_law_1074 : decode cL_law 1074 = .ok (.dload 6, 2) := by decide +kernel
theorem dL_law_1076 : decode cL_law 1076 = .ok (.dcmp .l, 1) := by decide +kernel
theorem dL_law_1077 : decode cL_law 1077 = .ok (.ifCond .ne 5, 3) := by decide +kernel
theorem dL_law_1080 : decode cL_law 1080 = .ok (.iconst 0, 1) := by decide +kernel
theorem dL_law_1081 : decode cL_law 1081 = .ok (.ireturn, 1) := by decide +kernel
theorem dL_law_1082 : decode cL_law 1082 = .ok (.goto 65, 3) := by decide +kernel
theorem dL_law_1085 : decode cL_law 1085 = .ok (.aload_n 1, 1) := by decide +kernel
theorem dL_law_1086 : decode cL_law 1086 = .ok (.invokevirtual 160, 3) := by decide +kernel
theorem dL_law_1089 : decode cL_law 1089 = .ok (.aload_n 2, 1) := by decide +kernel
theorem dL_law_1090 : decode cL_law 1090 = .ok (.invokevirtual 163, 3) := by decide +kernel
theorem dL_law_1093 : decode cL_law 1093 = .ok (.if_icmp .eq 54, 3) := by decide +kernel
theorem dL_law_1096 : decode cL_law 1096 = .ok (.iconst 0, 1) := by decide +kernel
theorem dL_law_1097 : decode cL_law 1097 = .ok (.ireturn, 1) := by decide +kernel
theorem dL_law_1098 : decode cL_law 1098 = .ok (.aload_n 1, 1) := by decide +kernel
theorem dL_law_1099 : decode cL_law 1099 = .ok (.aload_n 0, 1) := by decide +kernel
theorem dL_law_1100 : decode cL_law 1100 = .ok (.iload_n 3, 1) := by decide +kernel
theorem dL_law_1101 : decode cL_law 1101 = .ok (.iconst 1, 1) := by decide +kernel
theorem dL_law_1102 : decode cL_law 1102 = .ok (.iadd, 1) := by decide +kernel
theorem dL_law_1103 : decode cL_law 1103 = .ok (.iaload, 1) := by decide +kernel
theorem dL_law_1104 : decode cL_law 1104 = .ok (.invokevirtual 164, 3) := by decide +kernel
theorem dL_law_1107 : decode cL_law 1107 = .ok (.aload_n 2, 1) := by decide +kernel
theorem dL_law_1108 : decode cL_law 1108 = .ok (.aload_n 0, 1) := by decide +kernel
theorem dL_law_1109 : decode cL_law 1109 = .ok (.iload_n 3, 1) := by decide +kernel
theorem dL_law_1110 : decode cL_law 1110 = .ok (.iconst 1, 1) := by decide +kernel
theorem dL_law_1111 : decode cL_law 1111 = .ok (.iadd, 1) := by decide +kernel
theorem dL_law_1112 : decode cL_law 1112 = .ok (.iaload, 1) := by decide +kernel
theorem dL_law_1113 : decode cL_law 1113 = .ok (.invokevirtual 167, 3) := by decide +kernel
theorem dL_law_1116 : decode cL_law 1116 = .ok (.if_icmp .eq 31, 3) := by decide +kernel
theorem dL_law_1119 : decode cL_law 1119 = .ok (.iconst 0, 1) := by decide +kernel
theorem dL_law_1120 : decode cL_law 1120 = .ok (.ireturn, 1) := by decide +kernel
theorem dL_law_1121 : decode cL_law 1121 = .ok (.aload_n 1, 1) := by decide +kernel
theorem dL_law_1122 : decode cL_law 1122 = .ok (.invokevirtual 168, 3) := by decide +kernel
theorem dL_law_1125 : decode cL_law 1125 = .ok (.aload_n 2, 1) := by decide +kernel
theorem dL_law_1126 : decode cL_law 1126 = .ok (.invokevirtual 171, 3) := by decide +kernel
theorem dL_law_1129 : decode cL_law 1129 = .ok (.if_icmp .eq 18, 3) := by decide +kernel
theorem dL_law_1132 : decode cL_law 1132 = .ok (.iconst 0, 1) := by decide +kernel
theorem dL_law_1133 : decode cL_law 1133 = .ok (.ireturn, 1) := by decide +kernel
theorem dL_law_1134 : decode cL_law 1134 = .ok (.aload_n 1, 1) := by decide +kernel
theorem dL_law_1135 : decode cL_law 1135 = .ok (.invokevirtual 172, 3) := by decide +kernel
theorem dL_law_1138 : decode cL_law 1138 = .ok (.aload_n 2, 1) := by decide +kernel
theorem dL_law_1139 : decode cL_law 1139 = .ok (.invokevirtual 175, 3) := by decide +kernel
theorem dL_law_1142 : decode cL_law 1142 = .ok (.if_icmp .eq 5, 3) := by decide +kernel
theorem dL_law_1145 : decode cL_law 1145 = .ok (.iconst 0, 1) := by decide +kernel
theorem dL_law_1146 : decode cL_law 1146 = .ok (.ireturn, 1) := by decide +kernel
theorem dL_law_1147 : decode cL_law 1147 = .ok (.iinc 3 5, 3) := by decide +kernel
theorem dL_law_1150 : decode cL_law 1150 = .ok (.goto (-1132), 3) := by decide +kernel
theorem dL_law_1153 : decode cL_law 1153 = .ok (.iconst 1, 1) := by decide +kernel
theorem dL_law_1154 : decode cL_law 1154 = .ok (.ireturn, 1) := by decide +kernel
end
section
/-! numbers, values, memory -/
abbrev rd_Mem : Type := Int → Int → Int
abbrev rd_X : Type := Int ⊕ (Option Int ⊕ UInt32)
abbrev rd_I (z : Int) : rd_X := .inl z
abbrev rd_R (k : Int) : rd_X := .inr (.inl (some k))
abbrev rd_N : rd_X := .inr (.inl none)
abbrev rd_F (f : UInt32) : rd_X := .inr (.inr f)
abbrev rd_J : rd_X := .inr (.inr 0)
def rd_i (z : Int) : Int32 := Int32.ofInt z
def rd_val (r : Nat) (x : rd_X) : Value := match x with
  | .inl z => .int (rd_i z)
  | .inr (.inl none) => .null
  | .inr (.inl (some k)) => .ref (r + k.toNat)
  | .inr (.inr f) => .float f
abbrev rd_ok (z : Int) : Prop := -2147483648 ≤ z ∧ z < 2147483648
def rd_okX (x : rd_X) : Prop := match x with
  | .inl z => rd_ok z
  | _ => True
def rd_okL (L : List rd_X) : Prop := ∀ x ∈ L, rd_okX x
def rd_okM (μ : rd_Mem) : Prop := ∀ k j, rd_ok (μ k j)
def rd_okO (v : Option rd_X) : Prop := ∀ x, v = some x → rd_okX x
theorem rd_okn : rd_okL [] := fun _ h => absurd h List.not_mem_nil
theorem rd_okc {x : rd_X} {L : List rd_X} (h : rd_okX x) (hL : rd_okL L) : rd_okL (x :: L) := fun y hy => (List.mem_cons.mp hy).elim (fun e => e ▸ h) (hL y)
theorem rd_okt {x : rd_X} {L : List rd_X} (h : rd_okL (x :: L)) : rd_okL L := fun y hy => h y (List.mem_cons_of_mem _ hy)
theorem rd_okh {x : rd_X} {L : List rd_X} (h : rd_okL (x :: L)) : rd_okX x := h x List.mem_cons_self
theorem rd_oka {A B : List rd_X} (h : rd_okL A) (h2 : rd_okL B) : rd_okL (A ++ B) := fun y hy => (List.mem_append.mp hy).elim (h y) (h2 y)
theorem rd_oki {L : List rd_X} {i : Nat} {x : rd_X} (h : rd_okL L) (hi : L[i]? = some x) : rd_okX x := h x (List.mem_of_getElem? hi)
theorem rd_toInt {z : Int} (h : rd_ok z) : (rd_i z).toInt = z := Int32.toInt_ofInt_of_le h.1 h.2
theorem rd_eq {a b : Int} (ha : rd_ok a) (hb : rd_ok b) : rd_i a = rd_i b ↔ a = b := by
  rw [← Int32.toInt_inj, rd_toInt ha, rd_toInt hb]
theorem rd_lt {a b : Int} (ha : rd_ok a) (hb : rd_ok b) : rd_i a < rd_i b ↔ a < b := by
  rw [Int32.lt_iff_toInt_lt, rd_toInt ha, rd_toInt hb]
theorem rd_le {a b : Int} (ha : rd_ok a) (hb : rd_ok b) : rd_i a ≤ rd_i b ↔ a ≤ b := by
  rw [Int32.le_iff_toInt_le, rd_toInt ha, rd_toInt hb]
theorem rd_add (a b : Int) : rd_i a + rd_i b = rd_i (a + b) := (Int32.ofInt_add a b).symm
theorem rd_sub (a b : Int) : rd_i a - rd_i b = rd_i (a - b) := (Int32.ofInt_sub a b).symm
theorem rd_mul (a b : Int) : rd_i a * rd_i b = rd_i (a * b) := (Int32.ofInt_mul a b).symm
theorem rd_of (x : Int32) : ∃ z, rd_ok z ∧ x = rd_i z := ⟨x.toInt, ⟨Int32.le_toInt x, Int32.toInt_lt x⟩, (Int32.ofInt_toInt x).symm⟩
theorem rd_ok0 : rd_ok 0 := ⟨by decide, by decide⟩
theorem rd_z : rd_i 0 = 0 := by decide
theorem rd_cl0 {z : Int} (h : rd_ok z) : (rd_i z).toNatClampNeg = z.toNat := Int32.toNatClampNeg_ofInt_of_le h.1 h.2
theorem rd_vin {z : Int} {n : Nat} (h0 : 0 ≤ z) (h1 : z < n) (h : rd_ok z) : vp_in (rd_i z) n := by
  rw [vp_in_iff, rd_toInt h]; exact ⟨h0, h1⟩
/-- what an int keeps of a whole number -/
def rd_w (z : Int) : Int := (rd_i z).toInt
theorem rd_w_ok (z : Int) : rd_ok (rd_w z) := ⟨Int32.le_toInt _, Int32.toInt_lt _⟩
theorem rd_w_i (z : Int) : rd_i (rd_w z) = rd_i z := Int32.ofInt_toInt _
theorem rd_w_id {z : Int} (h : rd_ok z) : rd_w z = z := rd_toInt h
def rd_uf (f : Int → Int) (j z : Int) : Int → Int := fun b => if b = j then z else f b
def rd_u (μ : rd_Mem) (k j z : Int) : rd_Mem := fun a b => if a = k then (if b = j then z else μ a b) else μ a b
theorem rd_u_row (μ : rd_Mem) (k j z : Int) : rd_u μ k j z k = rd_uf (μ k) j z := by
  funext b; simp [rd_u, rd_uf]
theorem rd_u_ne (μ : rd_Mem) {k a : Int} (j z : Int) (h : a ≠ k) : rd_u μ k j z a = μ a := by
  funext b; simp [rd_u, h]
theorem rd_u_ok {μ : rd_Mem} {k j z : Int} (h : rd_okM μ) (hz : rd_ok z) : rd_okM (rd_u μ k j z) := by
  intro a b; unfold rd_u; split
  · split
    · exact hz
    · exact h a b
  · exact h a b
/-! the cells -/
abbrev rd_cl : List vw_C := [(RX0, TX0, 3), (RX1, TX1, 1), (RX2, TX2, 2), (RX3, TX3, 3), (RX4, TX4, 4), (RX5, TX5, 2), (RX6, TX6, 9), (RX7, TX7, 8), (RX8, TX8, 4), (RX9, TX9, 5), (RX10, TX10, 9)]
abbrev rd_G : Type := va_G × ClassId × ClassId × ClassId × ClassId
abbrev rd_tys (G : rd_G) : List (ClassId × FieldType) := [(G.2.1, .int), (G.2.2.1, .char), (G.2.2.2.1, .object RX7), (G.2.2.2.2, .object RX8)]
def rd_ri (f : Int → Int) : Nat → Int32 := fun j => rd_i (f (j : Int))
def rd_cell (G : rd_G) (r : Nat) (f : Int → Int) (k : Int) (kd : Nat) : va_E := match kd with
  | 0 => .inr (0, [.int (rd_i (f 0)), .ref (r + (k + 1).toNat), .ref (r + (k + 2).toNat)])
  | 1 => .inr (1, [.ref (r + (k + 1).toNat)])
  | 2 => .inr (2, [.int (rd_i (f 0)), .ref (r + (k + 1).toNat)])
  | 3 => .inr (3, [.int (rd_i (f 0)), .ref (r + (k + 1).toNat), .ref (r + (k + 2).toNat)])
  | 4 => .inr (4, [.int (rd_i (f 0)), .int (rd_i (f 1)), .int (rd_i (f 2)), .int (rd_i (f 3))])
  | 5 => .inr (5, [.int (rd_i (f 0)), .ref (r + (k + 1).toNat)])
  | 6 => .inr (6, [.int (rd_i (f 0)), .int (rd_i (f 1)), .int (rd_i (f 2)), .int (rd_i (f 3)), .int (rd_i (f 4)), .int (rd_i (f 5)), .ref (r + (k + 1).toNat), .ref (r + (k + 2).toNat), .ref (r + (k + 3).toNat)])
  | 7 => .inr (7, [.int (rd_i (f 0)), .int (rd_i (f 1)), .int (rd_i (f 2)), .int (rd_i (f 3)), .ref (r + (k + 1).toNat), .ref (r + (k + 2).toNat), .ref (r + (k + 3).toNat), .ref (r + (k + 4).toNat)])
  | 8 => .inr (8, [.int (rd_i (f 0)), .ref (r + (k + 1).toNat), .ref (r + (k + 54).toNat), .ref (r + (k + 57).toNat)])
  | 9 => .inr (9, [.ref (r + (k + 1).toNat), .ref (r + (k + 62).toNat), .ref (r + (k + 308).toNat), .ref (r + (k + 310).toNat), .ref (r + (k + 311).toNat)])
  | 10 => .inr (10, [.ref (r + (k + 1).toNat), .int (rd_i (f 1)), .ref (r + (k + 2).toNat), .int (rd_i (f 3)), .int (rd_i (f 4)), .int (rd_i (f 5)), .int (rd_i (f 6)), .ref (r + (k + 3).toNat), .ref (r + (k + 4).toNat)])
  | 11 => .inl (G.2.1, 10, .inl (rd_ri f))
  | 12 => .inl (G.2.1, 6, .inl (rd_ri f))
  | 13 => .inl (G.2.1, 8, .inl (rd_ri f))
  | 14 => .inl (G.2.1, 40, .inl (rd_ri f))
  | 15 => .inl (G.2.2.1, 60, .inl (rd_ri f))
  | 16 => .inl (G.2.2.2.1, 10, .inr (.inr (.inr (.inr (fun j => some (r + (k + 1 + 5 * (j : Int)).toNat))))))
  | 17 => .inl (G.2.2.2.2, 4, .inr (.inr (.inr (.inr (fun j => some (r + (k + 1 + 61 * f (j : Int)).toNat))))))
  | 18 => .inl (G.2.1, 2380, .inl (rd_ri f))
  | 19 => .inl (G.2.1, 60, .inl (rd_ri f))
  | 20 => .inl (G.2.1, 4, .inl (rd_ri f))
  | _ => .inl (G.2.1, 100, .inl (rd_ri f))
def rd_ws (G : rd_G) (kd : Int → Nat) (N r : Nat) (μ : rd_Mem) : va_W := (List.range N).map fun j => (r + j, rd_cell G r (μ (j : Int)) (j : Int) (kd (j : Int)))
def rd_A (r N : Nat) : Nat → Prop := fun q => r ≤ q ∧ q < r + N
theorem rd_at {G : rd_G} {kd : Int → Nat} {N r : Nat} (μ : rd_Mem) {k : Int} (h0 : 0 ≤ k) (h1 : k < N) : (rd_ws G kd N r μ)[k.toNat]? = some (r + k.toNat, rd_cell G r (μ k) k (kd k)) := by
  have e : ((k.toNat : Nat) : Int) = k := by omega
  have hl : k.toNat < N := by omega
  simp [rd_ws, hl, e]
theorem rd_wsD (G : rd_G) (kd : Int → Nat) (N r : Nat) (μ : rd_Mem) : va_D (rd_A r N) (rd_ws G kd N r μ) := by
  have key : ∀ (i : Nat) (p : Nat × va_E), (rd_ws G kd N r μ)[i]? = some p → p.1 = r + i ∧ i < N := by
    intro i p h
    simp only [rd_ws, List.getElem?_map, Option.map_eq_some_iff] at h
    obtain ⟨j, hj, rfl⟩ := h
    have hi : i < N := by
      have := (List.getElem?_eq_some_iff.mp hj).1
      simpa using this
    rw [List.getElem?_range hi] at hj
    cases hj
    exact ⟨rfl, hi⟩
  refine ⟨fun i j p q hi hj hpq => ?_, fun k q hk => ?_⟩
  · have h1 := (key i p hi).1
    have h2 := (key j q hj).1
    omega
  · have h1 := key k q hk
    exact ⟨by omega, by omega⟩
theorem rd_wset {G : rd_G} {kd : Int → Nat} {N r : Nat} {μ : rd_Mem} {k : Int} (h0 : 0 ≤ k) (h1 : k < N) {μ' : rd_Mem} {e : va_E} (he : e = rd_cell G r (μ' k) k (kd k)) (hne : ∀ a, a ≠ k → μ' a = μ a) : (rd_ws G kd N r μ).set k.toNat (r + k.toNat, e) = rd_ws G kd N r μ' := by
  have ek : ((k.toNat : Nat) : Int) = k := by omega
  have hl : k.toNat < N := by omega
  apply List.ext_getElem?
  intro i
  by_cases hi : i = k.toNat
  · subst hi
    rw [List.getElem?_set_self (by simp [rd_ws]; omega)]
    simp [rd_ws, hl, ek, he]
  · rw [List.getElem?_set_ne (Ne.symm hi)]
    by_cases hN : i < N
    · have hik : (i : Int) ≠ k := by omega
      simp [rd_ws, hN, hne _ hik]
    · have e1 : (rd_ws G kd N r μ)[i]? = none := by simp [rd_ws]; omega
      have e2 : (rd_ws G kd N r μ')[i]? = none := by simp [rd_ws]; omega
      rw [e1, e2]
/-- the machine's facts that a walk carries along -/
def rd_Ke (G : rd_G) (U : State) : Prop := va_K G.1 rd_cl (rd_tys G) U ∧ ∀ w ∈ rd_nest, va_Nw w U
def rd_isN : Cond → Bool
  | .methodLinkNest .. => true
  | _ => false
theorem rd_nest_is : ∀ w ∈ rd_nest, rd_isN w = true := by decide +kernel
theorem rd_Ke.warm {G : rd_G} {s U : State} (hW : s.WarmedH U.vm) (h : rd_Ke G s) : rd_Ke G U := by
  refine ⟨va_K.moved hW.alike h.1, fun w hw => ?_⟩
  have h1 := rd_nest_is w hw
  have h2 := h.2 w hw
  cases w <;> first | exact va_Nw.warmM hW h2 | (simp [rd_isN] at h1; done)
theorem rd_Ke.same {G : rd_G} {u U : State} (hv : u.vm = U.vm) (h : rd_Ke G u) : rd_Ke G U := by
  refine ⟨va_K.moved (by rw [hv]; exact Vm.Alike.refl _) h.1, fun w hw => ?_⟩
  have h1 := rd_nest_is w hw
  have h2 := h.2 w hw
  cases w <;> first | exact va_Nw.same rfl hv h2 | (simp [rd_isN] at h1; done)
/-! locals -/
def rd_has (r : Nat) (ls : Array Slot) (nl : Nat) (L : List rd_X) : Prop := ls.size = nl ∧ lv_wf ls ∧ ∀ (i : Nat) (x : rd_X), L[i]? = some x → x = rd_J ∨ ls[i]? = some (.val (rd_val r x))
theorem rd_cat (r : Nat) (x : rd_X) : (rd_val r x).category = 1 := by
  rcases x with z | (_ | k) | f <;> rfl
def rd_st (L : List rd_X) (i : Nat) (x : rd_X) : List rd_X := L.set i x
theorem rd_store {r : Nat} {ls : Array Slot} {nl : Nat} {L : List rd_X} {i : Nat} {x : rd_X} (h : rd_has r ls nl L) (hi : i < nl) : ∃ ls', storeLocals ls i (rd_val r x) = some ls' ∧ rd_has r ls' nl (L.set i x) := by
  obtain ⟨h1, h2, h3⟩ := h
  let l : List (Nat × Value) := (List.range L.length).filterMap fun j => match L[j]? with
    | some y => if ls[j]? = some (.val (rd_val r y)) then some (j, rd_val r y) else none
    | none => none
  have hl : lv_has ls nl l := by
    refine ⟨h1, h2, fun q hq => ?_⟩
    obtain ⟨j, -, hj⟩ := List.mem_filterMap.mp hq
    cases e : L[j]? with
    | none => simp [e] at hj
    | some y =>
      simp only [e] at hj
      split at hj
      · rename_i hh
        cases hj
        exact hh
      · cases hj
  obtain ⟨ls', e', g1, g2, g3⟩ := lv_store1 (v := rd_val r x) hl hi (rd_cat r x)
  refine ⟨ls', e', g1, g2, fun j y hy => ?_⟩
  by_cases hji : j = i
  · subst hji
    have hlt : j < L.length := by
      have := (List.getElem?_eq_some_iff.mp hy).1
      simpa using this
    rw [List.getElem?_set_self hlt] at hy
    cases hy
    exact Or.inr (g3 (j, _) List.mem_cons_self)
  · rw [List.getElem?_set_ne (Ne.symm hji)] at hy
    rcases h3 j y hy with h4 | h4
    · exact Or.inl h4
    · refine Or.inr (g3 (j, rd_val r y) (List.mem_cons_of_mem _ (List.mem_filter.mpr ⟨List.mem_filterMap.mpr ⟨j, ?_, ?_⟩, ?_⟩)))
      · exact List.mem_range.mpr (List.getElem?_eq_some_iff.mp hy).1
      · simp [hy, h4]
      · have hc := rd_cat r y
        simp [hji, hc]
theorem rd_has.sub {r : Nat} {ls : Array Slot} {nl : Nat} {L L' : List rd_X} (h : rd_has r ls nl L) (hs : ∀ (i : Nat) (x : rd_X), L'[i]? = some x → x = rd_J ∨ L[i]? = some x) : rd_has r ls nl L' :=
  ⟨h.1, h.2.1, fun i x hx => (hs i x hx).elim Or.inl (fun h2 => h.2.2 i x h2)⟩
end
section
section RDW
variable {p : Program} {l : Launch} {e : Env} {R : Room} {s : State} {m : MethodId} {args : Array Value} {below : List Frame} {meth : Method} {c : Code} {Q : State → Prop}
variable {cc : ByteArray} {nl : Nat} {own : String} {ret : Option FieldType} {G : rd_G} {kd : Int → Nat} {N r : Nat}
def rd_Cx (p : Program) (s : State) (m : MethodId) (args : Array Value) (meth : Method) (c : Code) (cc : ByteArray) (nl : Nat) (own : String) (ret : Option FieldType) (G : rd_G) : Prop :=
  CallFix p m c cc nl s args rd_T own ∧ meth.sig.returnType = ret ∧ meth.locks = false ∧ rd_Ke G s
def rd_W (p : Program) (l : Launch) (e : Env) (R : Room) (s : State) (m : MethodId) (args : Array Value) (below : List Frame) (meth : Method) (c : Code) (Q : State → Prop) (nl : Nat) (G : rd_G) (kd : Int → Nat) (N r : Nat) (pc : Nat) (L S : List rd_X) (μ : rd_Mem) : Prop :=
  rd_okM μ → rd_okL L → rd_okL S → ∀ (H : Heap) (locs : List Loc) (ls : Array Slot), rd_has r ls nl L → va_P G.1 rd_cl (rd_ws G kd N r μ) H → va_S (rd_A r N) s.heap H locs →
    W p l e R s m args below meth c H locs 0 0 Q (F0 m pc ls (S.map (rd_val r)))
variable {pc : Nat} {L S : List rd_X} {μ : rd_Mem}
theorem rd_W.rng (k : rd_okM μ → rd_okL L → rd_okL S → rd_W p l e R s m args below meth c Q nl G kd N r pc L S μ) : rd_W p l e R s m args below meth c Q nl G kd N r pc L S μ :=
  fun hM hL hS => k hM hL hS hM hL hS
theorem rd_W.sub {L' : List rd_X} (k : rd_W p l e R s m args below meth c Q nl G kd N r pc L' S μ) (hs : ∀ (i : Nat) (x : rd_X), L'[i]? = some x → x = rd_J ∨ L[i]? = some x) : rd_W p l e R s m args below meth c Q nl G kd N r pc L S μ := by
  intro hM hL hS H locs ls hl hP hs2
  refine k hM (fun x hx => ?_) hS H locs ls (hl.sub hs) hP hs2
  obtain ⟨i, hi⟩ := List.getElem?_of_mem hx
  rcases hs i x hi with rfl | h
  · trivial
  · exact rd_oki hL h
theorem rd_iconst (C : rd_Cx p s m args meth c cc nl own ret G) {n : Int} (hd : decode cc pc = .ok (.iconst n, 1)) (hn : rd_ok n) (k : rd_W p l e R s m args below meth c Q nl G kd N r (pc + 1) L (rd_I n :: S) μ) : rd_W p l e R s m args below meth c Q nl G kd N r pc L S μ := by
  intro hM hL hS H locs ls hl hP hs
  exact lv_iconst C.1.1 C.1.2.1 hd rfl (k hM hL (rd_okc hn hS) H locs ls hl hP hs)
theorem rd_bipush (C : rd_Cx p s m args meth c cc nl own ret G) {n : Int} (hd : decode cc pc = .ok (.bipush n, 2)) (hv : (Int8.ofInt n).toInt32 = rd_i n) (hn : rd_ok n) (k : rd_W p l e R s m args below meth c Q nl G kd N r (pc + 2) L (rd_I n :: S) μ) : rd_W p l e R s m args below meth c Q nl G kd N r pc L S μ := by
  intro hM hL hS H locs ls hl hP hs
  exact lv_bipush C.1.1 C.1.2.1 hd hv (k hM hL (rd_okc hn hS) H locs ls hl hP hs)
theorem rd_sipush (C : rd_Cx p s m args meth c cc nl own ret G) {n : Int} (hd : decode cc pc = .ok (.sipush n, 3)) (hv : (Int16.ofInt n).toInt32 = rd_i n) (hn : rd_ok n) (k : rd_W p l e R s m args below meth c Q nl G kd N r (pc + 3) L (rd_I n :: S) μ) : rd_W p l e R s m args below meth c Q nl G kd N r pc L S μ := by
  intro hM hL hS H locs ls hl hP hs
  exact lv_sipush C.1.1 C.1.2.1 hd hv (k hM hL (rd_okc hn hS) H locs ls hl hP hs)
theorem rd_ldc (C : rd_Cx p s m args meth c cc nl own ret G) {i : Nat} {v : Int32} {n : Int} (hw : Cond.constant own i v ∈ rd_T) (hd : decode cc pc = .ok (.ldc i, 2)) (hv : v = rd_i n) (hn : rd_ok n) (k : rd_W p l e R s m args below meth c Q nl G kd N r (pc + 2) L (rd_I n :: S) μ) : rd_W p l e R s m args below meth c Q nl G kd N r pc L S μ := by
  intro hM hL hS H locs ls hl hP hs
  subst hv
  exact lv_ldc C.1.1 C.1.2.1 C.1.2.2.2.1 (C.1.2.2.2.2 _ hw) hd (k hM hL (rd_okc hn hS) H locs ls hl hP hs)
theorem rd_lget {r : Nat} {ls : Array Slot} {nl : Nat} {L : List rd_X} {i : Nat} {x : rd_X} (h : rd_has r ls nl L) (hx : L[i]? = some x) (hj : x ≠ rd_J) : ls[i]? = some (.val (rd_val r x)) := (h.2.2 i x hx).elim (fun e => absurd e hj) id
theorem rd_iload_n (C : rd_Cx p s m args meth c cc nl own ret G) {i : Fin 4} {z : Int} (hd : decode cc pc = .ok (.iload_n i, 1)) (hx : L[(i : Nat)]? = some (rd_I z)) (k : rd_W p l e R s m args below meth c Q nl G kd N r (pc + 1) L (rd_I z :: S) μ) : rd_W p l e R s m args below meth c Q nl G kd N r pc L S μ := by
  intro hM hL hS H locs ls hl hP hs
  exact lv_iload_n (x := rd_i z) C.1.1 C.1.2.1 hd rfl (rd_lget hl hx (fun h => by cases h)) (k hM hL (rd_okc (rd_oki hL hx) hS) H locs ls hl hP hs)
theorem rd_iload (C : rd_Cx p s m args meth c cc nl own ret G) {i : Nat} {z : Int} (hd : decode cc pc = .ok (.iload i, 2)) (hx : L[i]? = some (rd_I z)) (k : rd_W p l e R s m args below meth c Q nl G kd N r (pc + 2) L (rd_I z :: S) μ) : rd_W p l e R s m args below meth c Q nl G kd N r pc L S μ := by
  intro hM hL hS H locs ls hl hP hs
  exact lv_iload (x := rd_i z) C.1.1 C.1.2.1 hd (rd_lget hl hx (fun h => by cases h)) (k hM hL (rd_okc (rd_oki hL hx) hS) H locs ls hl hP hs)
theorem rd_aload_n (C : rd_Cx p s m args meth c cc nl own ret G) {i : Fin 4} {z : Option Int} (hd : decode cc pc = .ok (.aload_n i, 1)) (hx : L[(i : Nat)]? = some (.inr (.inl z))) (k : rd_W p l e R s m args below meth c Q nl G kd N r (pc + 1) L (.inr (.inl z) :: S) μ) : rd_W p l e R s m args below meth c Q nl G kd N r pc L S μ := by
  intro hM hL hS H locs ls hl hP hs
  have h1 := rd_lget hl hx (fun h => by cases h)
  have h2 := k hM hL (rd_okc (rd_oki hL hx) hS) H locs ls hl hP hs
  cases z with
  | none => exact lv_aload_nN C.1.1 C.1.2.1 hd rfl h1 h2
  | some z => exact lv_aload_n C.1.1 C.1.2.1 hd rfl h1 h2
theorem rd_aload (C : rd_Cx p s m args meth c cc nl own ret G) {i : Nat} {z : Option Int} (hd : decode cc pc = .ok (.aload i, 2)) (hx : L[i]? = some (.inr (.inl z))) (k : rd_W p l e R s m args below meth c Q nl G kd N r (pc + 2) L (.inr (.inl z) :: S) μ) : rd_W p l e R s m args below meth c Q nl G kd N r pc L S μ := by
  intro hM hL hS H locs ls hl hP hs
  have h1 := rd_lget hl hx (fun h => by cases h)
  have h2 := k hM hL (rd_okc (rd_oki hL hx) hS) H locs ls hl hP hs
  cases z with
  | none => exact lv_aloadN C.1.1 C.1.2.1 hd h1 h2
  | some z => exact lv_aload C.1.1 C.1.2.1 hd h1 h2
theorem rd_istore_n (C : rd_Cx p s m args meth c cc nl own ret G) {i : Fin 4} {z : Int} (hd : decode cc pc = .ok (.istore_n i, 1)) (hi : (i : Nat) < nl) {L' : List rd_X} (hL' : L.set (i : Nat) (rd_I z) = L') (k : rd_W p l e R s m args below meth c Q nl G kd N r (pc + 1) L' S μ) : rd_W p l e R s m args below meth c Q nl G kd N r pc L (rd_I z :: S) μ := by
  intro hM hL hS H locs ls hl hP hs
  subst hL'
  obtain ⟨ls', e', h'⟩ := rd_store (x := rd_I z) hl hi
  have h2 := k hM (fun x hx => (List.mem_or_eq_of_mem_set hx).elim (hL x) (fun e => e ▸ rd_okh hS)) (rd_okt hS) H locs ls' h' hP hs
  have hx := C.1.1
  have hb := C.1.2.1
  have e1 : storeLocals ls (i : Nat) (.int (rd_i z)) = some ls' := e'
  intro T hT X
  obtain ⟨t, a, b⟩ := h2 T hT X
  refine ⟨t, ?_, b⟩
  have htop := X.here.top
  show Steps p.tables e below (T.setTop (F0 m pc ls (.int (rd_i z) :: S.map (rd_val r)))) t
  jvm_step X.here [htop, ↓top_set htop, hx, hb, hd, e1]
  exact a
theorem rd_istore (C : rd_Cx p s m args meth c cc nl own ret G) {i : Nat} {z : Int} (hd : decode cc pc = .ok (.istore i, 2)) (hi : i < nl) {L' : List rd_X} (hL' : L.set i (rd_I z) = L') (k : rd_W p l e R s m args below meth c Q nl G kd N r (pc + 2) L' S μ) : rd_W p l e R s m args below meth c Q nl G kd N r pc L (rd_I z :: S) μ := by
  intro hM hL hS H locs ls hl hP hs
  subst hL'
  obtain ⟨ls', e', h'⟩ := rd_store (x := rd_I z) hl hi
  have h2 := k hM (fun x hx => (List.mem_or_eq_of_mem_set hx).elim (hL x) (fun e => e ▸ rd_okh hS)) (rd_okt hS) H locs ls' h' hP hs
  have hx := C.1.1
  have hb := C.1.2.1
  have e1 : storeLocals ls i (.int (rd_i z)) = some ls' := e'
  intro T hT X
  obtain ⟨t, a, b⟩ := h2 T hT X
  refine ⟨t, ?_, b⟩
  have htop := X.here.top
  show Steps p.tables e below (T.setTop (F0 m pc ls (.int (rd_i z) :: S.map (rd_val r)))) t
  jvm_step X.here [htop, ↓top_set htop, hx, hb, hd, e1]
  exact a
theorem rd_astore_n (C : rd_Cx p s m args meth c cc nl own ret G) {i : Fin 4} {z : Int} (hd : decode cc pc = .ok (.astore_n i, 1)) (hi : (i : Nat) < nl) {L' : List rd_X} (hL' : L.set (i : Nat) (rd_R z) = L') (k : rd_W p l e R s m args below meth c Q nl G kd N r (pc + 1) L' S μ) : rd_W p l e R s m args below meth c Q nl G kd N r pc L (rd_R z :: S) μ := by
  intro hM hL hS H locs ls hl hP hs
  subst hL'
  obtain ⟨ls', e', h'⟩ := rd_store (x := rd_R z) hl hi
  have h2 := k hM (fun x hx => (List.mem_or_eq_of_mem_set hx).elim (hL x) (fun e => e ▸ rd_okh hS)) (rd_okt hS) H locs ls' h' hP hs
  have hx := C.1.1
  have hb := C.1.2.1
  have e1 : storeLocals ls (i : Nat) (.ref (r + z.toNat)) = some ls' := e'
  intro T hT X
  obtain ⟨t, a, b⟩ := h2 T hT X
  refine ⟨t, ?_, b⟩
  have htop := X.here.top
  show Steps p.tables e below (T.setTop (F0 m pc ls (.ref (r + z.toNat) :: S.map (rd_val r)))) t
  jvm_step X.here [htop, ↓top_set htop, hx, hb, hd, e1]
  exact ⟨rfl, a⟩
theorem rd_astore (C : rd_Cx p s m args meth c cc nl own ret G) {i : Nat} {z : Int} (hd : decode cc pc = .ok (.astore i, 2)) (hi : i < nl) {L' : List rd_X} (hL' : L.set i (rd_R z) = L') (k : rd_W p l e R s m args below meth c Q nl G kd N r (pc + 2) L' S μ) : rd_W p l e R s m args below meth c Q nl G kd N r pc L (rd_R z :: S) μ := by
  intro hM hL hS H locs ls hl hP hs
  subst hL'
  obtain ⟨ls', e', h'⟩ := rd_store (x := rd_R z) hl hi
  have h2 := k hM (fun x hx => (List.mem_or_eq_of_mem_set hx).elim (hL x) (fun e => e ▸ rd_okh hS)) (rd_okt hS) H locs ls' h' hP hs
  have hx := C.1.1
  have hb := C.1.2.1
  have e1 : storeLocals ls i (.ref (r + z.toNat)) = some ls' := e'
  intro T hT X
  obtain ⟨t, a, b⟩ := h2 T hT X
  refine ⟨t, ?_, b⟩
  have htop := X.here.top
  show Steps p.tables e below (T.setTop (F0 m pc ls (.ref (r + z.toNat) :: S.map (rd_val r)))) t
  jvm_step X.here [htop, ↓top_set htop, hx, hb, hd, e1]
  exact ⟨rfl, a⟩
theorem rd_astore_nN (C : rd_Cx p s m args meth c cc nl own ret G) {i : Fin 4} (hd : decode cc pc = .ok (.astore_n i, 1)) (hi : (i : Nat) < nl) {L' : List rd_X} (hL' : L.set (i : Nat) (rd_N) = L') (k : rd_W p l e R s m args below meth c Q nl G kd N r (pc + 1) L' S μ) : rd_W p l e R s m args below meth c Q nl G kd N r pc L (rd_N :: S) μ := by
  intro hM hL hS H locs ls hl hP hs
  subst hL'
  obtain ⟨ls', e', h'⟩ := rd_store (x := rd_N) hl hi
  have h2 := k hM (fun x hx => (List.mem_or_eq_of_mem_set hx).elim (hL x) (fun e => e ▸ rd_okh hS)) (rd_okt hS) H locs ls' h' hP hs
  have hx := C.1.1
  have hb := C.1.2.1
  have e1 : storeLocals ls (i : Nat) (.null) = some ls' := e'
  intro T hT X
  obtain ⟨t, a, b⟩ := h2 T hT X
  refine ⟨t, ?_, b⟩
  have htop := X.here.top
  show Steps p.tables e below (T.setTop (F0 m pc ls (.null :: S.map (rd_val r)))) t
  jvm_step X.here [htop, ↓top_set htop, hx, hb, hd, e1]
  exact ⟨rfl, a⟩
theorem rd_astoreN (C : rd_Cx p s m args meth c cc nl own ret G) {i : Nat} (hd : decode cc pc = .ok (.astore i, 2)) (hi : i < nl) {L' : List rd_X} (hL' : L.set i (rd_N) = L') (k : rd_W p l e R s m args below meth c Q nl G kd N r (pc + 2) L' S μ) : rd_W p l e R s m args below meth c Q nl G kd N r pc L (rd_N :: S) μ := by
  intro hM hL hS H locs ls hl hP hs
  subst hL'
  obtain ⟨ls', e', h'⟩ := rd_store (x := rd_N) hl hi
  have h2 := k hM (fun x hx => (List.mem_or_eq_of_mem_set hx).elim (hL x) (fun e => e ▸ rd_okh hS)) (rd_okt hS) H locs ls' h' hP hs
  have hx := C.1.1
  have hb := C.1.2.1
  have e1 : storeLocals ls i (.null) = some ls' := e'
  intro T hT X
  obtain ⟨t, a, b⟩ := h2 T hT X
  refine ⟨t, ?_, b⟩
  have htop := X.here.top
  show Steps p.tables e below (T.setTop (F0 m pc ls (.null :: S.map (rd_val r)))) t
  jvm_step X.here [htop, ↓top_set htop, hx, hb, hd, e1]
  exact ⟨rfl, a⟩
theorem rd_iinc (C : rd_Cx p s m args meth c cc nl own ret G) {i : Nat} {n z : Int} (hd : decode cc pc = .ok (.iinc i n, 3)) (hi : i < nl) (hx : L[i]? = some (rd_I z)) (hok : rd_ok (z + n)) {L' : List rd_X} (hL' : L.set i (rd_I (z + n)) = L') (k : rd_W p l e R s m args below meth c Q nl G kd N r (pc + 3) L' S μ) : rd_W p l e R s m args below meth c Q nl G kd N r pc L S μ := by
  intro hM hL hS H locs ls hl hP hs
  subst hL'
  have hg := rd_lget hl hx (fun h => by cases h)
  obtain ⟨ls', e', h'⟩ := rd_store (x := rd_I (z + n)) hl hi
  have h2 := k hM (fun x hx => (List.mem_or_eq_of_mem_set hx).elim (hL x) (fun e => e ▸ hok)) hS H locs ls' h' hP hs
  have hxe := C.1.1
  have hb := C.1.2.1
  have hg1 : ls[i]? = some (.val (.int (rd_i z))) := hg
  have e1 : storeLocals ls i (.int (rd_i z + Int32.ofInt n)) = some ls' := by
    rw [show rd_i z + Int32.ofInt n = rd_i (z + n) from rd_add z n]; exact e'
  intro T hT X
  obtain ⟨t, a, b⟩ := h2 T hT X
  refine ⟨t, ?_, b⟩
  have htop := X.here.top
  jvm_step X.here [htop, ↓top_set htop, hxe, hb, hd, hg1, e1]
  exact a
theorem rd_iadd (C : rd_Cx p s m args meth c cc nl own ret G) {a b z : Int} (hd : decode cc pc = .ok (.iadd, 1)) (hz : a + b = z) (hok : rd_ok z) (k : rd_W p l e R s m args below meth c Q nl G kd N r (pc + 1) L (rd_I z :: S) μ) : rd_W p l e R s m args below meth c Q nl G kd N r pc L (rd_I b :: rd_I a :: S) μ := by
  intro hM hL hS H locs ls hl hP hs
  subst hz
  have h2 := k hM hL (rd_okc hok (rd_okt (rd_okt hS))) H locs ls hl hP hs
  refine lv_iadd C.1.1 C.1.2.1 hd ?_
  rw [rd_add]
  exact h2
theorem rd_iaddw (C : rd_Cx p s m args meth c cc nl own ret G) {a b : Int} (hd : decode cc pc = .ok (.iadd, 1)) (k : rd_W p l e R s m args below meth c Q nl G kd N r (pc + 1) L (rd_I (rd_w (a + b)) :: S) μ) : rd_W p l e R s m args below meth c Q nl G kd N r pc L (rd_I b :: rd_I a :: S) μ := by
  intro hM hL hS H locs ls hl hP hs
  have h2 := k hM hL (rd_okc (rd_w_ok _) (rd_okt (rd_okt hS))) H locs ls hl hP hs
  refine lv_iadd C.1.1 C.1.2.1 hd ?_
  rw [rd_add, ← rd_w_i]
  exact h2
theorem rd_isub (C : rd_Cx p s m args meth c cc nl own ret G) {a b z : Int} (hd : decode cc pc = .ok (.isub, 1)) (hz : a - b = z) (hok : rd_ok z) (k : rd_W p l e R s m args below meth c Q nl G kd N r (pc + 1) L (rd_I z :: S) μ) : rd_W p l e R s m args below meth c Q nl G kd N r pc L (rd_I b :: rd_I a :: S) μ := by
  intro hM hL hS H locs ls hl hP hs
  subst hz
  have h2 := k hM hL (rd_okc hok (rd_okt (rd_okt hS))) H locs ls hl hP hs
  refine lv_isub C.1.1 C.1.2.1 hd ?_
  rw [rd_sub]
  exact h2
theorem rd_isubw (C : rd_Cx p s m args meth c cc nl own ret G) {a b : Int} (hd : decode cc pc = .ok (.isub, 1)) (k : rd_W p l e R s m args below meth c Q nl G kd N r (pc + 1) L (rd_I (rd_w (a - b)) :: S) μ) : rd_W p l e R s m args below meth c Q nl G kd N r pc L (rd_I b :: rd_I a :: S) μ := by
  intro hM hL hS H locs ls hl hP hs
  have h2 := k hM hL (rd_okc (rd_w_ok _) (rd_okt (rd_okt hS))) H locs ls hl hP hs
  refine lv_isub C.1.1 C.1.2.1 hd ?_
  rw [rd_sub, ← rd_w_i]
  exact h2
theorem rd_imul (C : rd_Cx p s m args meth c cc nl own ret G) {a b z : Int} (hd : decode cc pc = .ok (.imul, 1)) (hz : a * b = z) (hok : rd_ok z) (k : rd_W p l e R s m args below meth c Q nl G kd N r (pc + 1) L (rd_I z :: S) μ) : rd_W p l e R s m args below meth c Q nl G kd N r pc L (rd_I b :: rd_I a :: S) μ := by
  intro hM hL hS H locs ls hl hP hs
  subst hz
  have h2 := k hM hL (rd_okc hok (rd_okt (rd_okt hS))) H locs ls hl hP hs
  refine lv_imul C.1.1 C.1.2.1 hd ?_
  rw [rd_mul]
  exact h2
theorem rd_imulw (C : rd_Cx p s m args meth c cc nl own ret G) {a b : Int} (hd : decode cc pc = .ok (.imul, 1)) (k : rd_W p l e R s m args below meth c Q nl G kd N r (pc + 1) L (rd_I (rd_w (a * b)) :: S) μ) : rd_W p l e R s m args below meth c Q nl G kd N r pc L (rd_I b :: rd_I a :: S) μ := by
  intro hM hL hS H locs ls hl hP hs
  have h2 := k hM hL (rd_okc (rd_w_ok _) (rd_okt (rd_okt hS))) H locs ls hl hP hs
  refine lv_imul C.1.1 C.1.2.1 hd ?_
  rw [rd_mul, ← rd_w_i]
  exact h2
theorem rd_iand (C : rd_Cx p s m args meth c cc nl own ret G) {a b z : Int} (hd : decode cc pc = .ok (.iand, 1)) (hz : rd_i a &&& rd_i b = rd_i z) (hok : rd_ok z) (k : rd_W p l e R s m args below meth c Q nl G kd N r (pc + 1) L (rd_I z :: S) μ) : rd_W p l e R s m args below meth c Q nl G kd N r pc L (rd_I b :: rd_I a :: S) μ := by
  intro hM hL hS H locs ls hl hP hs
  have h2 := k hM hL (rd_okc hok (rd_okt (rd_okt hS))) H locs ls hl hP hs
  refine lv_iand C.1.1 C.1.2.1 hd ?_
  rw [hz]
  exact h2
theorem rd_ior (C : rd_Cx p s m args meth c cc nl own ret G) {a b z : Int} (hd : decode cc pc = .ok (.ior, 1)) (hz : rd_i a ||| rd_i b = rd_i z) (hok : rd_ok z) (k : rd_W p l e R s m args below meth c Q nl G kd N r (pc + 1) L (rd_I z :: S) μ) : rd_W p l e R s m args below meth c Q nl G kd N r pc L (rd_I b :: rd_I a :: S) μ := by
  intro hM hL hS H locs ls hl hP hs
  have h2 := k hM hL (rd_okc hok (rd_okt (rd_okt hS))) H locs ls hl hP hs
  refine lv_ior C.1.1 C.1.2.1 hd ?_
  rw [hz]
  exact h2
theorem rd_ishl (C : rd_Cx p s m args meth c cc nl own ret G) {a b z : Int} (hd : decode cc pc = .ok (.ishl, 1)) (hz : rd_i a <<< (rd_i b &&& 31) = rd_i z) (hok : rd_ok z) (k : rd_W p l e R s m args below meth c Q nl G kd N r (pc + 1) L (rd_I z :: S) μ) : rd_W p l e R s m args below meth c Q nl G kd N r pc L (rd_I b :: rd_I a :: S) μ := by
  intro hM hL hS H locs ls hl hP hs
  have h2 := k hM hL (rd_okc hok (rd_okt (rd_okt hS))) H locs ls hl hP hs
  refine lv_ishl C.1.1 C.1.2.1 hd ?_
  rw [hz]
  exact h2
theorem rd_ishr (C : rd_Cx p s m args meth c cc nl own ret G) {a b z : Int} (hd : decode cc pc = .ok (.ishr, 1)) (hz : rd_i a >>> (rd_i b &&& 31) = rd_i z) (hok : rd_ok z) (k : rd_W p l e R s m args below meth c Q nl G kd N r (pc + 1) L (rd_I z :: S) μ) : rd_W p l e R s m args below meth c Q nl G kd N r pc L (rd_I b :: rd_I a :: S) μ := by
  intro hM hL hS H locs ls hl hP hs
  have h2 := k hM hL (rd_okc hok (rd_okt (rd_okt hS))) H locs ls hl hP hs
  refine lv_ishr C.1.1 C.1.2.1 hd ?_
  rw [hz]
  exact h2
theorem rd_idiv (C : rd_Cx p s m args meth c cc nl own ret G) {a b z : Int} (hd : decode cc pc = .ok (.idiv, 1)) (hb0 : ¬ rd_i b = 0) (hz : rd_i a / rd_i b = rd_i z) (hok : rd_ok z) (k : rd_W p l e R s m args below meth c Q nl G kd N r (pc + 1) L (rd_I z :: S) μ) : rd_W p l e R s m args below meth c Q nl G kd N r pc L (rd_I b :: rd_I a :: S) μ := by
  intro hM hL hS H locs ls hl hP hs
  have h2 := k hM hL (rd_okc hok (rd_okt (rd_okt hS))) H locs ls hl hP hs
  refine lv_idiv C.1.1 C.1.2.1 hd hb0 ?_
  rw [hz]
  exact h2
theorem rd_irem (C : rd_Cx p s m args meth c cc nl own ret G) {a b z : Int} (hd : decode cc pc = .ok (.irem, 1)) (hb0 : ¬ rd_i b = 0) (hz : rd_i a - rd_i a / rd_i b * rd_i b = rd_i z) (hok : rd_ok z) (k : rd_W p l e R s m args below meth c Q nl G kd N r (pc + 1) L (rd_I z :: S) μ) : rd_W p l e R s m args below meth c Q nl G kd N r pc L (rd_I b :: rd_I a :: S) μ := by
  intro hM hL hS H locs ls hl hP hs
  have h2 := k hM hL (rd_okc hok (rd_okt (rd_okt hS))) H locs ls hl hP hs
  refine lv_irem C.1.1 C.1.2.1 hd hb0 ?_
  rw [hz]
  exact h2
theorem rd_dup (C : rd_Cx p s m args meth c cc nl own ret G) {x : rd_X} (hd : decode cc pc = .ok (.dup, 1)) (k : rd_W p l e R s m args below meth c Q nl G kd N r (pc + 1) L (x :: x :: S) μ) : rd_W p l e R s m args below meth c Q nl G kd N r pc L (x :: S) μ := by
  intro hM hL hS H locs ls hl hP hs
  exact lv_dup C.1.1 C.1.2.1 hd (rd_cat r x) (k hM hL (rd_okc (rd_okh hS) hS) H locs ls hl hP hs)
theorem rd_pop (C : rd_Cx p s m args meth c cc nl own ret G) {x : rd_X} (hd : decode cc pc = .ok (.pop, 1)) (k : rd_W p l e R s m args below meth c Q nl G kd N r (pc + 1) L S μ) : rd_W p l e R s m args below meth c Q nl G kd N r pc L (x :: S) μ := by
  intro hM hL hS H locs ls hl hP hs
  exact lv_pop C.1.1 C.1.2.1 hd (rd_cat r x) (k hM hL (rd_okt hS) H locs ls hl hP hs)
theorem rd_dup2 (C : rd_Cx p s m args meth c cc nl own ret G) {x y : rd_X} (hd : decode cc pc = .ok (.dup2, 1)) (k : rd_W p l e R s m args below meth c Q nl G kd N r (pc + 1) L (x :: y :: x :: y :: S) μ) : rd_W p l e R s m args below meth c Q nl G kd N r pc L (x :: y :: S) μ := by
  intro hM hL hS H locs ls hl hP hs
  exact lv_dup2_11 C.1.1 C.1.2.1 hd (rd_cat r x) (rd_cat r y) (k hM hL (rd_okc (rd_okh hS) (rd_okc (rd_okh (rd_okt hS)) hS)) H locs ls hl hP hs)
theorem rd_goto (C : rd_Cx p s m args meth c cc nl own ret G) {off : Int} {tgt : Nat} (hd : decode cc pc = .ok (.goto off, 3)) (ht : (pc : Int) + off = (tgt : Int)) (k : rd_W p l e R s m args below meth c Q nl G kd N r tgt L S μ) : rd_W p l e R s m args below meth c Q nl G kd N r pc L S μ := by
  intro hM hL hS H locs ls hl hP hs
  exact lv_goto C.1.1 C.1.2.1 hd ht (k hM hL hS H locs ls hl hP hs)
theorem rd_icmp_eq (C : rd_Cx p s m args meth c cc nl own ret G) {a b off : Int} {tgt : Nat} (hd : decode cc pc = .ok (.if_icmp .eq off, 3)) (ht : (pc : Int) + off = (tgt : Int)) (kt : a = b → rd_W p l e R s m args below meth c Q nl G kd N r tgt L S μ) (kf : ¬ (a = b) → rd_W p l e R s m args below meth c Q nl G kd N r (pc + 3) L S μ) : rd_W p l e R s m args below meth c Q nl G kd N r pc L (rd_I b :: rd_I a :: S) μ := by
  intro hM hL hS H locs ls hl hP hs
  have hb : rd_ok b := rd_okh hS
  have ha : rd_ok a := rd_okh (rd_okt hS)
  exact lv_icmp_eq C.1.1 C.1.2.1 hd ht (fun h => kt ((rd_eq ha hb).mp h) hM hL (rd_okt (rd_okt hS)) H locs ls hl hP hs) (fun h => kf (fun q => h ((rd_eq ha hb).mpr q)) hM hL (rd_okt (rd_okt hS)) H locs ls hl hP hs)
theorem rd_if_eq (C : rd_Cx p s m args meth c cc nl own ret G) {a off : Int} {tgt : Nat} (hd : decode cc pc = .ok (.ifCond .eq off, 3)) (ht : (pc : Int) + off = (tgt : Int)) (kt : a = 0 → rd_W p l e R s m args below meth c Q nl G kd N r tgt L S μ) (kf : ¬ (a = 0) → rd_W p l e R s m args below meth c Q nl G kd N r (pc + 3) L S μ) : rd_W p l e R s m args below meth c Q nl G kd N r pc L (rd_I a :: S) μ := by
  intro hM hL hS H locs ls hl hP hs
  have ha : rd_ok a := rd_okh hS
  have h0 := (rd_eq ha rd_ok0)
  rw [rd_z] at h0
  exact lv_if_eq C.1.1 C.1.2.1 hd ht (fun h => kt (h0.mp h) hM hL (rd_okt hS) H locs ls hl hP hs) (fun h => kf (fun q => h (h0.mpr q)) hM hL (rd_okt hS) H locs ls hl hP hs)
theorem rd_icmp_ne (C : rd_Cx p s m args meth c cc nl own ret G) {a b off : Int} {tgt : Nat} (hd : decode cc pc = .ok (.if_icmp .ne off, 3)) (ht : (pc : Int) + off = (tgt : Int)) (kt : a ≠ b → rd_W p l e R s m args below meth c Q nl G kd N r tgt L S μ) (kf : a = b → rd_W p l e R s m args below meth c Q nl G kd N r (pc + 3) L S μ) : rd_W p l e R s m args below meth c Q nl G kd N r pc L (rd_I b :: rd_I a :: S) μ := by
  intro hM hL hS H locs ls hl hP hs
  have hb : rd_ok b := rd_okh hS
  have ha : rd_ok a := rd_okh (rd_okt hS)
  exact lv_icmp_ne C.1.1 C.1.2.1 hd ht (fun h => kt ((not_congr (rd_eq ha hb)).mp h) hM hL (rd_okt (rd_okt hS)) H locs ls hl hP hs) (fun h => kf ((rd_eq ha hb).mp h) hM hL (rd_okt (rd_okt hS)) H locs ls hl hP hs)
theorem rd_if_ne (C : rd_Cx p s m args meth c cc nl own ret G) {a off : Int} {tgt : Nat} (hd : decode cc pc = .ok (.ifCond .ne off, 3)) (ht : (pc : Int) + off = (tgt : Int)) (kt : a ≠ 0 → rd_W p l e R s m args below meth c Q nl G kd N r tgt L S μ) (kf : a = 0 → rd_W p l e R s m args below meth c Q nl G kd N r (pc + 3) L S μ) : rd_W p l e R s m args below meth c Q nl G kd N r pc L (rd_I a :: S) μ := by
  intro hM hL hS H locs ls hl hP hs
  have ha : rd_ok a := rd_okh hS
  have h0 := rd_eq ha rd_ok0
  rw [rd_z] at h0
  exact lv_if_ne C.1.1 C.1.2.1 hd ht (fun h => kt (fun q => h (h0.mpr q)) hM hL (rd_okt hS) H locs ls hl hP hs) (fun h => kf (h0.mp h) hM hL (rd_okt hS) H locs ls hl hP hs)
theorem rd_icmp_lt (C : rd_Cx p s m args meth c cc nl own ret G) {a b off : Int} {tgt : Nat} (hd : decode cc pc = .ok (.if_icmp .lt off, 3)) (ht : (pc : Int) + off = (tgt : Int)) (kt : a < b → rd_W p l e R s m args below meth c Q nl G kd N r tgt L S μ) (kf : ¬ (a < b) → rd_W p l e R s m args below meth c Q nl G kd N r (pc + 3) L S μ) : rd_W p l e R s m args below meth c Q nl G kd N r pc L (rd_I b :: rd_I a :: S) μ := by
  intro hM hL hS H locs ls hl hP hs
  have hb : rd_ok b := rd_okh hS
  have ha : rd_ok a := rd_okh (rd_okt hS)
  exact lv_icmp_lt C.1.1 C.1.2.1 hd ht (fun h => kt ((rd_lt ha hb).mp h) hM hL (rd_okt (rd_okt hS)) H locs ls hl hP hs) (fun h => kf (fun q => h ((rd_lt ha hb).mpr q)) hM hL (rd_okt (rd_okt hS)) H locs ls hl hP hs)
theorem rd_if_lt (C : rd_Cx p s m args meth c cc nl own ret G) {a off : Int} {tgt : Nat} (hd : decode cc pc = .ok (.ifCond .lt off, 3)) (ht : (pc : Int) + off = (tgt : Int)) (kt : a < 0 → rd_W p l e R s m args below meth c Q nl G kd N r tgt L S μ) (kf : ¬ (a < 0) → rd_W p l e R s m args below meth c Q nl G kd N r (pc + 3) L S μ) : rd_W p l e R s m args below meth c Q nl G kd N r pc L (rd_I a :: S) μ := by
  intro hM hL hS H locs ls hl hP hs
  have ha : rd_ok a := rd_okh hS
  have h0 := (rd_lt ha rd_ok0)
  rw [rd_z] at h0
  exact lv_if_lt C.1.1 C.1.2.1 hd ht (fun h => kt (h0.mp h) hM hL (rd_okt hS) H locs ls hl hP hs) (fun h => kf (fun q => h (h0.mpr q)) hM hL (rd_okt hS) H locs ls hl hP hs)
theorem rd_icmp_ge (C : rd_Cx p s m args meth c cc nl own ret G) {a b off : Int} {tgt : Nat} (hd : decode cc pc = .ok (.if_icmp .ge off, 3)) (ht : (pc : Int) + off = (tgt : Int)) (kt : b ≤ a → rd_W p l e R s m args below meth c Q nl G kd N r tgt L S μ) (kf : ¬ (b ≤ a) → rd_W p l e R s m args below meth c Q nl G kd N r (pc + 3) L S μ) : rd_W p l e R s m args below meth c Q nl G kd N r pc L (rd_I b :: rd_I a :: S) μ := by
  intro hM hL hS H locs ls hl hP hs
  have hb : rd_ok b := rd_okh hS
  have ha : rd_ok a := rd_okh (rd_okt hS)
  exact lv_icmp_ge C.1.1 C.1.2.1 hd ht (fun h => kt ((rd_le hb ha).mp h) hM hL (rd_okt (rd_okt hS)) H locs ls hl hP hs) (fun h => kf (fun q => h ((rd_le hb ha).mpr q)) hM hL (rd_okt (rd_okt hS)) H locs ls hl hP hs)
theorem rd_if_ge (C : rd_Cx p s m args meth c cc nl own ret G) {a off : Int} {tgt : Nat} (hd : decode cc pc = .ok (.ifCond .ge off, 3)) (ht : (pc : Int) + off = (tgt : Int)) (kt : 0 ≤ a → rd_W p l e R s m args below meth c Q nl G kd N r tgt L S μ) (kf : ¬ (0 ≤ a) → rd_W p l e R s m args below meth c Q nl G kd N r (pc + 3) L S μ) : rd_W p l e R s m args below meth c Q nl G kd N r pc L (rd_I a :: S) μ := by
  intro hM hL hS H locs ls hl hP hs
  have ha : rd_ok a := rd_okh hS
  have h0 := (rd_le rd_ok0 ha)
  rw [rd_z] at h0
  exact lv_if_ge C.1.1 C.1.2.1 hd ht (fun h => kt (h0.mp h) hM hL (rd_okt hS) H locs ls hl hP hs) (fun h => kf (fun q => h (h0.mpr q)) hM hL (rd_okt hS) H locs ls hl hP hs)
theorem rd_icmp_gt (C : rd_Cx p s m args meth c cc nl own ret G) {a b off : Int} {tgt : Nat} (hd : decode cc pc = .ok (.if_icmp .gt off, 3)) (ht : (pc : Int) + off = (tgt : Int)) (kt : b < a → rd_W p l e R s m args below meth c Q nl G kd N r tgt L S μ) (kf : ¬ (b < a) → rd_W p l e R s m args below meth c Q nl G kd N r (pc + 3) L S μ) : rd_W p l e R s m args below meth c Q nl G kd N r pc L (rd_I b :: rd_I a :: S) μ := by
  intro hM hL hS H locs ls hl hP hs
  have hb : rd_ok b := rd_okh hS
  have ha : rd_ok a := rd_okh (rd_okt hS)
  exact lv_icmp_gt C.1.1 C.1.2.1 hd ht (fun h => kt ((rd_lt hb ha).mp h) hM hL (rd_okt (rd_okt hS)) H locs ls hl hP hs) (fun h => kf (fun q => h ((rd_lt hb ha).mpr q)) hM hL (rd_okt (rd_okt hS)) H locs ls hl hP hs)
theorem rd_if_gt (C : rd_Cx p s m args meth c cc nl own ret G) {a off : Int} {tgt : Nat} (hd : decode cc pc = .ok (.ifCond .gt off, 3)) (ht : (pc : Int) + off = (tgt : Int)) (kt : 0 < a → rd_W p l e R s m args below meth c Q nl G kd N r tgt L S μ) (kf : ¬ (0 < a) → rd_W p l e R s m args below meth c Q nl G kd N r (pc + 3) L S μ) : rd_W p l e R s m args below meth c Q nl G kd N r pc L (rd_I a :: S) μ := by
  intro hM hL hS H locs ls hl hP hs
  have ha : rd_ok a := rd_okh hS
  have h0 := (rd_lt rd_ok0 ha)
  rw [rd_z] at h0
  exact lv_if_gt C.1.1 C.1.2.1 hd ht (fun h => kt (h0.mp h) hM hL (rd_okt hS) H locs ls hl hP hs) (fun h => kf (fun q => h (h0.mpr q)) hM hL (rd_okt hS) H locs ls hl hP hs)
theorem rd_icmp_le (C : rd_Cx p s m args meth c cc nl own ret G) {a b off : Int} {tgt : Nat} (hd : decode cc pc = .ok (.if_icmp .le off, 3)) (ht : (pc : Int) + off = (tgt : Int)) (kt : a ≤ b → rd_W p l e R s m args below meth c Q nl G kd N r tgt L S μ) (kf : ¬ (a ≤ b) → rd_W p l e R s m args below meth c Q nl G kd N r (pc + 3) L S μ) : rd_W p l e R s m args below meth c Q nl G kd N r pc L (rd_I b :: rd_I a :: S) μ := by
  intro hM hL hS H locs ls hl hP hs
  have hb : rd_ok b := rd_okh hS
  have ha : rd_ok a := rd_okh (rd_okt hS)
  exact lv_icmp_le C.1.1 C.1.2.1 hd ht (fun h => kt ((rd_le ha hb).mp h) hM hL (rd_okt (rd_okt hS)) H locs ls hl hP hs) (fun h => kf (fun q => h ((rd_le ha hb).mpr q)) hM hL (rd_okt (rd_okt hS)) H locs ls hl hP hs)
theorem rd_if_le (C : rd_Cx p s m args meth c cc nl own ret G) {a off : Int} {tgt : Nat} (hd : decode cc pc = .ok (.ifCond .le off, 3)) (ht : (pc : Int) + off = (tgt : Int)) (kt : a ≤ 0 → rd_W p l e R s m args below meth c Q nl G kd N r tgt L S μ) (kf : ¬ (a ≤ 0) → rd_W p l e R s m args below meth c Q nl G kd N r (pc + 3) L S μ) : rd_W p l e R s m args below meth c Q nl G kd N r pc L (rd_I a :: S) μ := by
  intro hM hL hS H locs ls hl hP hs
  have ha : rd_ok a := rd_okh hS
  have h0 := (rd_le ha rd_ok0)
  rw [rd_z] at h0
  exact lv_if_le C.1.1 C.1.2.1 hd ht (fun h => kt (h0.mp h) hM hL (rd_okt hS) H locs ls hl hP hs) (fun h => kf (fun q => h (h0.mpr q)) hM hL (rd_okt hS) H locs ls hl hP hs)
theorem rd_ifnull_r (C : rd_Cx p s m args meth c cc nl own ret G) {q off : Int} (hd : decode cc pc = .ok (.ifnull off, 3)) (k : rd_W p l e R s m args below meth c Q nl G kd N r (pc + 3) L S μ) : rd_W p l e R s m args below meth c Q nl G kd N r pc L (rd_R q :: S) μ := by
  intro hM hL hS H locs ls hl hP hs
  exact lv_ifnull C.1.1 C.1.2.1 hd (k hM hL (rd_okt hS) H locs ls hl hP hs)
theorem rd_ifnull_n (C : rd_Cx p s m args meth c cc nl own ret G) {off : Int} {tgt : Nat} (hd : decode cc pc = .ok (.ifnull off, 3)) (ht : (pc : Int) + off = (tgt : Int)) (k : rd_W p l e R s m args below meth c Q nl G kd N r tgt L S μ) : rd_W p l e R s m args below meth c Q nl G kd N r pc L (rd_N :: S) μ := by
  intro hM hL hS H locs ls hl hP hs
  exact lv_ifnullN C.1.1 C.1.2.1 hd ht (k hM hL (rd_okt hS) H locs ls hl hP hs)
theorem rd_ifnonnull_r (C : rd_Cx p s m args meth c cc nl own ret G) {q off : Int} {tgt : Nat} (hd : decode cc pc = .ok (.ifnonnull off, 3)) (ht : (pc : Int) + off = (tgt : Int)) (k : rd_W p l e R s m args below meth c Q nl G kd N r tgt L S μ) : rd_W p l e R s m args below meth c Q nl G kd N r pc L (rd_R q :: S) μ := by
  intro hM hL hS H locs ls hl hP hs
  exact lv_ifnonnull C.1.1 C.1.2.1 hd ht (k hM hL (rd_okt hS) H locs ls hl hP hs)
theorem rd_ifnonnull_n (C : rd_Cx p s m args meth c cc nl own ret G) {off : Int} (hd : decode cc pc = .ok (.ifnonnull off, 3)) (k : rd_W p l e R s m args below meth c Q nl G kd N r (pc + 3) L S μ) : rd_W p l e R s m args below meth c Q nl G kd N r pc L (rd_N :: S) μ := by
  intro hM hL hS H locs ls hl hP hs
  exact lv_ifnonnullN C.1.1 C.1.2.1 hd (k hM hL (rd_okt hS) H locs ls hl hP hs)
theorem rd_null (C : rd_Cx p s m args meth c cc nl own ret G) (hd : decode cc pc = .ok (.aconst_null, 1)) (k : rd_W p l e R s m args below meth c Q nl G kd N r (pc + 1) L (rd_N :: S) μ) : rd_W p l e R s m args below meth c Q nl G kd N r pc L S μ := by
  intro hM hL hS H locs ls hl hP hs
  exact lv_null C.1.1 C.1.2.1 hd (k hM hL (rd_okc trivial hS) H locs ls hl hP hs)
theorem rd_swIn (C : rd_Cx p s m args meth c cc nl own ret G) {z dflt lo hi off : Int} {offs : Array Int} {len tgt : Nat} (hd : decode cc pc = .ok (.tableswitch dflt lo hi offs, len)) (h1 : lo ≤ z) (h2 : z ≤ hi) (ho : offs[(z - lo).toNat]? = some off) (ht : (pc : Int) + off = (tgt : Int)) (k : rd_W p l e R s m args below meth c Q nl G kd N r tgt L S μ) : rd_W p l e R s m args below meth c Q nl G kd N r pc L (rd_I z :: S) μ := by
  intro hM hL hS H locs ls hl hP hs
  have hz : rd_ok z := rd_okh hS
  exact lv_tableIn C.1.1 C.1.2.1 hd (by rw [rd_toInt hz]; omega) (by rw [rd_toInt hz]; omega) (by rw [rd_toInt hz]; exact ho) ht (k hM hL (rd_okt hS) H locs ls hl hP hs)
theorem rd_swOut (C : rd_Cx p s m args meth c cc nl own ret G) {z dflt lo hi : Int} {offs : Array Int} {len tgt : Nat} (hd : decode cc pc = .ok (.tableswitch dflt lo hi offs, len)) (h : z < lo ∨ hi < z) (ht : (pc : Int) + dflt = (tgt : Int)) (k : rd_W p l e R s m args below meth c Q nl G kd N r tgt L S μ) : rd_W p l e R s m args below meth c Q nl G kd N r pc L (rd_I z :: S) μ := by
  intro hM hL hS H locs ls hl hP hs
  have hz : rd_ok z := rd_okh hS
  exact lv_tableOut C.1.1 C.1.2.1 hd (by rw [rd_toInt hz]; exact h) ht (k hM hL (rd_okt hS) H locs ls hl hP hs)
theorem rd_lsw (C : rd_Cx p s m args meth c cc nl own ret G) {z dflt off : Int} {ps : Array (Int × Int)} {len tgt : Nat} (hd : decode cc pc = .ok (.lookupswitch dflt ps, len)) (hp : (ps.toList.zip (ps.toList.drop 1)).all (fun (a, next) => a.1 < next.1) = true) (ho : Op.lookupswitch.offset ps.toList dflt z = off) (ht : (pc : Int) + off = (tgt : Int)) (k : rd_W p l e R s m args below meth c Q nl G kd N r tgt L S μ) : rd_W p l e R s m args below meth c Q nl G kd N r pc L (rd_I z :: S) μ := by
  intro hM hL hS H locs ls hl hP hs
  have hz : rd_ok z := rd_okh hS
  exact lv_lookup C.1.1 C.1.2.1 hd hp (by rw [rd_toInt hz]; exact ho) ht (k hM hL (rd_okt hS) H locs ls hl hP hs)
theorem rd_i2c (C : rd_Cx p s m args meth c cc nl own ret G) {z : Int} (hd : decode cc pc = .ok (.i2c, 1)) (h0 : 0 ≤ z) (h1 : z < 65536) (k : rd_W p l e R s m args below meth c Q nl G kd N r (pc + 1) L (rd_I z :: S) μ) : rd_W p l e R s m args below meth c Q nl G kd N r pc L (rd_I z :: S) μ := by
  intro hM hL hS H locs ls hl hP hs
  refine lv_i2c (v := rd_i z) C.1.1 C.1.2.1 hd ?_ (k hM hL hS H locs ls hl hP hs)
  have e : rd_i z = nI z.toNat := by
    show Int32.ofInt z = Int32.ofNat z.toNat
    rw [← Int32.ofInt_eq_ofNat]
    congr 1
    omega
  rw [e, pk_char, pk_tn (by omega)]
  congr 1
  omega
end RDW
end
section
/-! reading and writing the cells -/
def rd_GF (k0 j ci : Nat) (Cn : String) (T : u_T) (n : Nat) (g : (Int → Int) → Int → rd_X) : Prop :=
  rd_cl[ci]? = some (Cn, T, n) ∧ j < n ∧ (∀ w ∈ u_ws Cn T n, w ∈ rd_T) ∧ ∀ (G : rd_G) (r : Nat) (f : Int → Int) (k : Int), ∃ fs, rd_cell G r f k k0 = .inr (ci, fs) ∧ fs[j]? = some (rd_val r (g f k))
def rd_PF (k0 j ci : Nat) (Cn : String) (T : u_T) (n : Nat) (jz : Int) (P : Int → Prop) : Prop :=
  rd_cl[ci]? = some (Cn, T, n) ∧ j < n ∧ (∀ w ∈ u_ws Cn T n, w ∈ rd_T) ∧ (∀ (G : rd_G) (r : Nat) (f : Int → Int) (k z : Int), ∃ fs, rd_cell G r f k k0 = .inr (ci, fs) ∧ j < fs.length ∧ rd_cell G r (rd_uf f jz z) k k0 = .inr (ci, fs.set j (.int (rd_i z)))) ∧
  (∃ ty0 : Nat → FieldType, ∀ k, k < n → parseFieldDescriptor (T k).2.2.1 = some (ty0 k)) ∧ (∀ a, a < n → ∀ b, b < n → a ≠ b → (T a).2.1 ≠ (T b).2.1) ∧ (T j).2.2.2 = false ∧ ∃ ty, parseFieldDescriptor (T j).2.2.1 = some ty ∧ ∀ z, P z → narrow ty (.int (rd_i z)) = .int (rd_i z) ∧ fits ty (.int (rd_i z)) = true
theorem rd_nb {z : Int} (h : z = 0 ∨ z = 1) : narrow .boolean (.int (rd_i z)) = .int (rd_i z) ∧ fits .boolean (.int (rd_i z)) = true := by
  rcases h with rfl | rfl <;> decide +kernel
theorem rd_ni (z : Int) (_ : True) : narrow .int (.int (rd_i z)) = .int (rd_i z) ∧ fits .int (.int (rd_i z)) = true := ⟨rfl, rfl⟩
def rd_AI (k0 : Nat) (n : Nat) : Prop := ∀ (G : rd_G) (r : Nat) (f : Int → Int) (k : Int), rd_cell G r f k k0 = .inl (G.2.1, n, .inl (rd_ri f))
theorem rd_ri_set (f : Int → Int) {j : Int} (h : 0 ≤ j) (z : Int) : upd (rd_ri f) j.toNat (rd_i z) = rd_ri (rd_uf f j z) := by
  funext a
  have e : (a = j.toNat) ↔ ((a : Int) = j) := by omega
  by_cases ha : (a : Int) = j
  · simp [upd, rd_ri, rd_uf, e, ha]
  · simp [upd, rd_ri, rd_uf, e, ha]
section RDM
variable {p : Program} {l : Launch} {e : Env} {R : Room} {s : State} {m : MethodId} {args : Array Value} {below : List Frame} {meth : Method} {c : Code} {Q : State → Prop}
variable {cc : ByteArray} {nl : Nat} {own : String} {ret : Option FieldType} {G : rd_G} {kd : Int → Nat} {N r : Nat}
variable {pc : Nat} {L S : List rd_X} {μ : rd_Mem}
theorem rd_get (C : rd_Cx p s m args meth c cc nl own ret G) {k0 j ci n idx : Nat} {Cn : String} {T : u_T} {g : (Int → Int) → Int → rd_X} {k : Int} {x : rd_X} (hg : rd_GF k0 j ci Cn T n g) (hw : (Cond.fieldLink own idx (T j).1 (T j).2.1 (T j).2.2.1) ∈ rd_T) (hd : decode cc pc = .ok (.getfield idx, 3)) (hk : 0 ≤ k ∧ k < N) (hc : kd k = k0) (hx : g (μ k) k = x) (hok : rd_okM μ → rd_okX x)
    (kk : rd_W p l e R s m args below meth c Q nl G kd N r (pc + 3) L (x :: S) μ) : rd_W p l e R s m args below meth c Q nl G kd N r pc L (rd_R k :: S) μ := by
  intro hM hL hS H locs ls hl hP hs
  obtain ⟨h1, h2, h3, h4⟩ := hg
  obtain ⟨fs, h5, h6⟩ := h4 G r (μ k) k
  have ha := rd_at (G := G) (kd := kd) (N := N) (r := r) μ hk.1 hk.2
  rw [hc, h5] at ha
  rw [hx] at h6
  exact va_get (D := G.1) C.1.1 C.1.2.1 C.1.2.2.2.2 h3 C.1.2.2.2.1 C.2.2.2.1 hP k.toNat ha h1 j h2 (C.1.2.2.2.2 _ hw) (fun _ h => h) h6 hd (kk hM hL (rd_okc (hok hM) (rd_okt hS)) H locs ls hl hP hs)
theorem rd_put (C : rd_Cx p s m args meth c cc nl own ret G) {k0 j ci n idx : Nat} {Cn : String} {T : u_T} {jz : Int} {P : Int → Prop} {k z : Int} (hg : rd_PF k0 j ci Cn T n jz P) (hw : (Cond.fieldLink own idx (T j).1 (T j).2.1 (T j).2.2.1) ∈ rd_T) (hd : decode cc pc = .ok (.putfield idx, 3)) (hk : 0 ≤ k ∧ k < N) (hc : kd k = k0) (hz : P z)
    (kk : rd_W p l e R s m args below meth c Q nl G kd N r (pc + 3) L S (rd_u μ k jz z)) : rd_W p l e R s m args below meth c Q nl G kd N r pc L (rd_I z :: rd_R k :: S) μ := by
  intro hM hL hS H locs ls hl hP hs
  obtain ⟨h1, h2, h3, h4, ⟨ty0, h5⟩, h6, h7, ty, h8, h9⟩ := hg
  obtain ⟨fs, g1, g2, g3⟩ := h4 G r (μ k) k z
  have ha := rd_at (G := G) (kd := kd) (N := N) (r := r) μ hk.1 hk.2
  rw [hc, g1] at ha
  refine va_put (D := G.1) C.1.1 C.1.2.1 C.1.2.2.2.2 h3 ty0 h5 h6 C.1.2.2.2.1 C.2.2.2.1 hP (rd_wsD G kd N r μ) hs k.toNat ha h1 j h2 (C.1.2.2.2.2 _ hw) (fun _ h => h) h7 h8 (h9 z hz).1 (h9 z hz).2 g2 hd (fun H1 locs1 hP1 _ hS1 => ?_)
  rw [rd_wset hk.1 hk.2 (μ' := rd_u μ k jz z) (by rw [rd_u_row, hc, g3]; rfl) (fun a ha => rd_u_ne μ jz z ha)] at hP1
  exact kk (rd_u_ok hM (rd_okh hS)) hL (rd_okt (rd_okt hS)) H1 locs1 ls hl hP1 hS1
theorem rd_iald (C : rd_Cx p s m args meth c cc nl own ret G) {k0 n : Nat} {k i : Int} (ha : rd_AI k0 n) (hd : decode cc pc = .ok (.iaload, 1)) (hk : 0 ≤ k ∧ k < N) (hc : kd k = k0) (hi : 0 ≤ i ∧ i < n)
    (kk : rd_W p l e R s m args below meth c Q nl G kd N r (pc + 1) L (rd_I (μ k i) :: S) μ) : rd_W p l e R s m args below meth c Q nl G kd N r pc L (rd_I i :: rd_R k :: S) μ := by
  intro hM hL hS H locs ls hl hP hs
  have hat := rd_at (G := G) (kd := kd) (N := N) (r := r) μ hk.1 hk.2
  rw [hc, ha G r (μ k) k] at hat
  have hio : rd_ok i := rd_okh hS
  have e1 : rd_ri (μ k) (rd_i i).toNatClampNeg = rd_i (μ k i) := by
    rw [rd_cl0 hio]; show rd_i (μ k ((i.toNat : Nat) : Int)) = _; congr 2; omega
  refine va_iald (D := G.1) C.1.1 C.1.2.1 C.2.2.2.1 hP k.toNat 0 hat rfl (rd_vin hi.1 hi.2 hio) hd ?_
  rw [e1]
  exact kk hM hL (rd_okc (hM k i) (rd_okt (rd_okt hS))) H locs ls hl hP hs
theorem rd_iast (C : rd_Cx p s m args meth c cc nl own ret G) {k0 n : Nat} {k i z : Int} (ha : rd_AI k0 n) (hd : decode cc pc = .ok (.iastore, 1)) (hk : 0 ≤ k ∧ k < N) (hc : kd k = k0) (hi : 0 ≤ i ∧ i < n)
    (kk : rd_W p l e R s m args below meth c Q nl G kd N r (pc + 1) L S (rd_u μ k i z)) : rd_W p l e R s m args below meth c Q nl G kd N r pc L (rd_I z :: rd_I i :: rd_R k :: S) μ := by
  intro hM hL hS H locs ls hl hP hs
  have hat := rd_at (G := G) (kd := kd) (N := N) (r := r) μ hk.1 hk.2
  rw [hc, ha G r (μ k) k] at hat
  have hio : rd_ok i := rd_okh (rd_okt hS)
  refine va_iast (D := G.1) C.1.1 C.1.2.1 C.2.2.2.1 hP (rd_wsD G kd N r μ) hs k.toNat 0 hat rfl (rd_vin hi.1 hi.2 hio) hd (fun H1 locs1 hP1 _ hS1 => ?_)
  rw [rd_cl0 hio, rd_ri_set _ hi.1, rd_wset hk.1 hk.2 (μ' := rd_u μ k i z) (by rw [rd_u_row, hc, ha]) (fun a ha => rd_u_ne μ i z ha)] at hP1
  exact kk (rd_u_ok hM (rd_okh hS)) hL (rd_okt (rd_okt (rd_okt hS))) H1 locs1 ls hl hP1 hS1
theorem rd_cald (C : rd_Cx p s m args meth c cc nl own ret G) {k i : Int} (hd : decode cc pc = .ok (.caload, 1)) (hk : 0 ≤ k ∧ k < N) (hc : kd k = 15) (hi : 0 ≤ i ∧ i < 60)
    (kk : rd_W p l e R s m args below meth c Q nl G kd N r (pc + 1) L (rd_I (μ k i) :: S) μ) : rd_W p l e R s m args below meth c Q nl G kd N r pc L (rd_I i :: rd_R k :: S) μ := by
  intro hM hL hS H locs ls hl hP hs
  have hat := rd_at (G := G) (kd := kd) (N := N) (r := r) μ hk.1 hk.2
  rw [hc] at hat
  have hio : rd_ok i := rd_okh hS
  have e1 : rd_ri (μ k) (rd_i i).toNatClampNeg = rd_i (μ k i) := by
    rw [rd_cl0 hio]; show rd_i (μ k ((i.toNat : Nat) : Int)) = _; congr 2; omega
  refine va_cald (D := G.1) (f := rd_ri (μ k)) (n := 60) C.1.1 C.1.2.1 C.2.2.2.1 hP k.toNat 1 hat rfl (rd_vin hi.1 hi.2 hio) hd ?_
  rw [e1]
  exact kk hM hL (rd_okc (hM k i) (rd_okt (rd_okt hS))) H locs ls hl hP hs
theorem rd_narc {z : Int} (h0 : 0 ≤ z) (h1 : z < 65536) : vp_nar .char (rd_i z) = rd_i z := by
  rw [vp_nar_char]
  have e : rd_i z = nI z.toNat := by
    show Int32.ofInt z = Int32.ofNat z.toNat
    rw [← Int32.ofInt_eq_ofNat]
    congr 1
    omega
  have h2 := pk_char (rd_i z)
  rw [e] at h2 ⊢
  rw [pk_tn (by omega), Nat.mod_eq_of_lt (by omega)] at h2
  exact h2
theorem rd_cast (C : rd_Cx p s m args meth c cc nl own ret G) {k i z : Int} (hd : decode cc pc = .ok (.castore, 1)) (hk : 0 ≤ k ∧ k < N) (hc : kd k = 15) (hi : 0 ≤ i ∧ i < 60) (hz : 0 ≤ z ∧ z < 65536)
    (kk : rd_W p l e R s m args below meth c Q nl G kd N r (pc + 1) L S (rd_u μ k i z)) : rd_W p l e R s m args below meth c Q nl G kd N r pc L (rd_I z :: rd_I i :: rd_R k :: S) μ := by
  intro hM hL hS H locs ls hl hP hs
  have hat := rd_at (G := G) (kd := kd) (N := N) (r := r) μ hk.1 hk.2
  rw [hc] at hat
  have hio : rd_ok i := rd_okh (rd_okt hS)
  refine va_cast (D := G.1) (f := rd_ri (μ k)) (n := 60) C.1.1 C.1.2.1 C.2.2.2.1 hP (rd_wsD G kd N r μ) hs k.toNat 1 hat rfl (rd_vin hi.1 hi.2 hio) hd (fun H1 locs1 hP1 _ hS1 => ?_)
  rw [rd_cl0 hio, rd_narc hz.1 hz.2, rd_ri_set _ hi.1, rd_wset hk.1 hk.2 (μ' := rd_u μ k i z) (by rw [rd_u_row, hc]; rfl) (fun a ha => rd_u_ne μ i z ha)] at hP1
  exact kk (rd_u_ok hM (rd_okh hS)) hL (rd_okt (rd_okt (rd_okt hS))) H1 locs1 ls hl hP1 hS1
theorem rd_alen (C : rd_Cx p s m args meth c cc nl own ret G) {k0 n : Nat} {k : Int} (ha : ∀ (G : rd_G) (r : Nat) (f : Int → Int) (k : Int), ∃ (t : Nat) (a : ClassId) (ty : FieldType) (x : vp_A), rd_cell G r f k k0 = .inl (a, x) ∧ x.1 = n ∧ (rd_tys G)[t]? = some (a, ty)) (hd : decode cc pc = .ok (.arraylength, 1)) (hk : 0 ≤ k ∧ k < N) (hc : kd k = k0) {z : Int} (hz : (n : Int) = z) (hok : rd_ok z)
    (kk : rd_W p l e R s m args below meth c Q nl G kd N r (pc + 1) L (rd_I z :: S) μ) : rd_W p l e R s m args below meth c Q nl G kd N r pc L (rd_R k :: S) μ := by
  intro hM hL hS H locs ls hl hP hs
  have hat := rd_at (G := G) (kd := kd) (N := N) (r := r) μ hk.1 hk.2
  obtain ⟨t, a, ty, x, h1, h2, h3⟩ := ha G r (μ k) k
  rw [hc, h1] at hat
  exact va_alen (D := G.1) C.1.1 C.1.2.1 C.2.2.2.1 hP k.toNat t hat h3 (v := rd_i z) (by rw [h2, ← hz]; exact (Int32.ofInt_eq_ofNat).symm) hd (kk hM hL (rd_okc hok (rd_okt hS)) H locs ls hl hP hs)
theorem rd_aald16 (C : rd_Cx p s m args meth c cc nl own ret G) {k i k' : Int} (hd : decode cc pc = .ok (.aaload, 1)) (hk : 0 ≤ k ∧ k < N) (hc : kd k = 16) (hi : 0 ≤ i ∧ i < 10) (hk' : k + 1 + 5 * i = k')
    (kk : rd_W p l e R s m args below meth c Q nl G kd N r (pc + 1) L (rd_R k' :: S) μ) : rd_W p l e R s m args below meth c Q nl G kd N r pc L (rd_I i :: rd_R k :: S) μ := by
  intro hM hL hS H locs ls hl hP hs
  have hat := rd_at (G := G) (kd := kd) (N := N) (r := r) μ hk.1 hk.2
  rw [hc] at hat
  have hio : rd_ok i := rd_okh hS
  refine va_aldq (D := G.1) (C := RX7) (n := 10) (f := fun j => some (r + (k + 1 + 5 * (j : Int)).toNat)) C.1.1 C.1.2.1 C.2.2.2.1 hP k.toNat 2 hat rfl (rd_vin hi.1 hi.2 hio) hd ?_
  have e1 : (va_rf (some (r + (k + 1 + 5 * (((rd_i i).toNatClampNeg : Nat) : Int)).toNat))) = rd_val r (rd_R k') := by
    rw [rd_cl0 hio]; show Value.ref _ = Value.ref _; congr 3; omega
  show W p l e R s m args below meth c H locs 0 0 Q (F0 m (pc + 1) ls (va_rf (some (r + (k + 1 + 5 * (((rd_i i).toNatClampNeg : Nat) : Int)).toNat)) :: S.map (rd_val r)))
  rw [e1]
  exact kk hM hL (rd_okc trivial (rd_okt (rd_okt hS))) H locs ls hl hP hs
theorem rd_aald17 (C : rd_Cx p s m args meth c cc nl own ret G) {k i k' : Int} (hd : decode cc pc = .ok (.aaload, 1)) (hk : 0 ≤ k ∧ k < N) (hc : kd k = 17) (hi : 0 ≤ i ∧ i < 4) (hk' : k + 1 + 61 * μ k i = k')
    (kk : rd_W p l e R s m args below meth c Q nl G kd N r (pc + 1) L (rd_R k' :: S) μ) : rd_W p l e R s m args below meth c Q nl G kd N r pc L (rd_I i :: rd_R k :: S) μ := by
  intro hM hL hS H locs ls hl hP hs
  have hat := rd_at (G := G) (kd := kd) (N := N) (r := r) μ hk.1 hk.2
  rw [hc] at hat
  have hio : rd_ok i := rd_okh hS
  refine va_aldq (D := G.1) (C := RX8) (n := 4) (f := fun j => some (r + (k + 1 + 61 * μ k (j : Int)).toNat)) C.1.1 C.1.2.1 C.2.2.2.1 hP k.toNat 3 hat rfl (rd_vin hi.1 hi.2 hio) hd ?_
  have ei : ((i.toNat : Nat) : Int) = i := by omega
  have e1 : (va_rf (some (r + (k + 1 + 61 * μ k (((rd_i i).toNatClampNeg : Nat) : Int)).toNat))) = rd_val r (rd_R k') := by
    rw [rd_cl0 hio, ei, hk']; rfl
  show W p l e R s m args below meth c H locs 0 0 Q (F0 m (pc + 1) ls (va_rf (some (r + (k + 1 + 61 * μ k (((rd_i i).toNatClampNeg : Nat) : Int)).toNat)) :: S.map (rd_val r)))
  rw [e1]
  exact kk hM hL (rd_okc trivial (rd_okt (rd_okt hS))) H locs ls hl hP hs
theorem rd_aast17 (C : rd_Cx p s m args meth c cc nl own ret G) {k i q t : Int} (hd : decode cc pc = .ok (.aastore, 1)) (hk : 0 ≤ k ∧ k < N) (hc : kd k = 17) (hi : 0 ≤ i ∧ i < 4) (hq : 0 ≤ q ∧ q < N) (hqc : kd q = 8) (ht : k + 1 + 61 * t = q) (hto : rd_ok t)
    (kk : rd_W p l e R s m args below meth c Q nl G kd N r (pc + 1) L S (rd_u μ k i t)) : rd_W p l e R s m args below meth c Q nl G kd N r pc L (rd_R q :: rd_I i :: rd_R k :: S) μ := by
  intro hM hL hS H locs ls hl hP hs
  have hat := rd_at (G := G) (kd := kd) (N := N) (r := r) μ hk.1 hk.2
  have haq := rd_at (G := G) (kd := kd) (N := N) (r := r) μ hq.1 hq.2
  rw [hc] at hat
  rw [hqc] at haq
  have hio : rd_ok i := rd_okh (rd_okt hS)
  refine va_astq (D := G.1) (r := (RX8, TX8, 4)) (n := 4) (f := fun j => some (r + (k + 1 + 61 * μ k (j : Int)).toNat)) C.1.1 C.1.2.1 C.2.2.2.1 hP (rd_wsD G kd N r μ) hs k.toNat 3 q.toNat 8 hat rfl haq rfl (rd_vin hi.1 hi.2 hio) hd (fun H1 locs1 hP1 _ hS1 => ?_)
  rw [rd_cl0 hio, rd_wset hk.1 hk.2 (μ' := rd_u μ k i t) (by
    rw [rd_u_row, hc]
    show (Sum.inl (_, _, _) : va_E) = Sum.inl (_, _, _)
    congr 5
    congr 1
    congr 1
    congr 1
    funext j
    show va_up _ _ _ j = some (r + (k + 1 + 61 * rd_uf (μ k) i t (j : Int)).toNat)
    by_cases hj : (j : Int) = i
    · have hj' : j = i.toNat := by omega
      simp [va_up, rd_uf, hj', ← ht]
      congr 2
      omega
    · have hj' : ¬ j = i.toNat := by omega
      simp [va_up, rd_uf, hj, hj']) (fun a ha => rd_u_ne μ i t ha)] at hP1
  exact kk (rd_u_ok hM hto) hL (rd_okt (rd_okt (rd_okt hS))) H1 locs1 ls hl hP1 hS1
end RDM
end
section
/-! contracts and calls -/
def rd_Pc (G : rd_G) (kd : Int → Nat) (N r : Nat) (as : List rd_X) (μ : rd_Mem) : Array Value → State → Prop := fun v U => v = (as.map (rd_val r)).toArray ∧ rd_okM μ ∧ rd_okL as ∧ va_P G.1 rd_cl (rd_ws G kd N r μ) U.heap ∧ rd_Ke G U
def rd_Qc (G : rd_G) (kd : Int → Nat) (N r : Nat) (Post : Option rd_X → rd_Mem → Prop) : Array Value → State → Outcome → State → Prop := fun _ st oc t => (∃ (v : Option rd_X) (μ' : rd_Mem), oc = .returned (v.map (rd_val r)) ∧ Post v μ' ∧ rd_okM μ' ∧ rd_okO v ∧ va_P G.1 rd_cl (rd_ws G kd N r μ') t.heap) ∧ va_F (rd_A r N) st t
def rd_M (l : Launch) (G : rd_G) (kd : Int → Nat) (N r : Nat) (y : MethodName) (cc : ByteArray) (nl : Nat) (ret : Option FieldType) (rm : Room) (as : List rd_X) (μ : rd_Mem) (Post : Option rd_X → rd_Mem → Prop) : Prop :=
  Met l y (.code y cc nl ret :: rd_T) rm (rd_Pc G kd N r as μ) (rd_Qc G kd N r Post) 0 0 (rd_A r N)
def rd_rm (fr lo : Nat) : Room := { frames := fr, cells := 0, slots := 0, locals := lo }
theorem rd_goodT {w : Cond} (h : w ∈ rd_T) : (w.onTables && w.keeps) = true ∨ ∃ ty, w = .arrayClass ty := good_of_word (List.mem_filter.mp h).2
theorem rd_goodws {ws : List Cond} (h : ∀ w ∈ ws, w ∈ rd_T) : GoodIn rd_T ws := fun w hw => ⟨h w hw, rd_goodT (h w hw)⟩
theorem rd_goodc {w : Cond} (h : w ∈ rd_T) : GoodIn rd_T (w :: rd_T) := rd_goodws (fun x hx => (List.mem_cons.mp hx).elim (fun e => e ▸ h) id)
theorem rd_blind {G : rd_G} {kd : Int → Nat} {N r : Nat} {as : List rd_X} {μ : rd_Mem} : FrameBlind (rd_Pc G kd N r as μ) := fun a U g mk h =>
  ⟨h.1, h.2.1, h.2.2.1, h.2.2.2.1, rd_Ke.same (u := U) (U := U.calling g mk a) rfl h.2.2.2.2⟩
theorem rd_sl (r : Nat) (as : List rd_X) : lg_sl (as.map (rd_val r)) = as.map (fun x => Slot.val (rd_val r x)) := by
  have e : ∀ x : rd_X, (if (rd_val r x).category = 2 then [Slot.val (rd_val r x), Slot.second] else [Slot.val (rd_val r x)]) = [Slot.val (rd_val r x)] := fun x => by rw [if_neg]; rw [rd_cat]; decide
  induction as with
  | nil => rfl
  | cons a as ih =>
    simp only [lg_sl, List.map_cons, List.flatMap_cons, e] at ih ⊢
    rw [ih]; rfl
theorem rd_enter {l : Launch} {G : rd_G} {kd : Int → Nat} {N r : Nat} {y : MethodName} {cc : ByteArray} {nl : Nat} {ret : Option FieldType} {rm : Room} {as : List rd_X} {μ : rd_Mem} {Post : Option rd_X → rd_Mem → Prop} (hy : plainName y.cls = true) (hlen : as.length ≤ nl) (L0 : List rd_X) (h0 : as ++ List.replicate (nl - as.length) rd_J = L0)
    (body : ∀ (p : Program) (e : Env) (s : State) (m : MethodId) (args : Array Value) (below : List Frame) (meth : Method) (c : Code), rd_Cx p s m args meth c cc nl y.cls ret G →
      rd_W p l e rm s m args below meth c (MQ below (rd_Qc G kd N r Post) args s 0 0 (rd_A r N)) nl G kd N r 0 L0 [] μ) : rd_M l G kd N r y cc nl ret rm as μ Post := by
  subst h0
  refine Met.ofW (cc := cc) (maxL := nl) (ret := ret) hy rfl ?_
  intro p e s m args below meth c s₁ B hml hv
  obtain ⟨rfl, hM, hL, hP, hK⟩ := hv
  have hts := atoms_spec (ws := .code y cc nl ret :: rd_T) B.pre
  have hown : s.vm.findClass y.cls = some m.cls := findClass_of_methodNamed B.named
  have C : rd_Cx p s m (as.map (rd_val r)).toArray meth c cc nl y.cls ret G := ⟨⟨B.exec, B.bytes, hml, hown, fun w hw => hts w (List.mem_cons_of_mem _ hw)⟩, B.returns, B.notSynchronized, hK⟩
  have hl := lv_entry (as.map (rd_val r)) (n := nl) (by rw [rd_sl]; simpa using hlen)
  rw [lg_entry_eq]
  have hb := body p e s m (as.map (rd_val r)).toArray below meth c C
  refine hb hM ?_ rd_okn s.heap [] _ ⟨hl.1, hl.2.1, fun i x hx => ?_⟩ hP va_S.rf
  · exact rd_oka hL (fun x hx => by rw [(List.mem_replicate.mp hx).2]; trivial)
  · by_cases hi : i < as.length
    · rw [List.getElem?_append_left hi] at hx
      right
      rw [rd_sl]
      have e1 : (as.map (fun x => Slot.val (rd_val r x)) ++ List.replicate (nl - (as.map (fun x => Slot.val (rd_val r x))).length) Slot.unset)[i]? = some (Slot.val (rd_val r x)) := by
        rw [List.getElem?_append_left (by simpa using hi), List.getElem?_map, hx]; rfl
      simpa using e1
    · left
      rw [List.getElem?_append_right (by omega)] at hx
      exact (List.mem_replicate.mp (List.mem_of_getElem? hx)).2
def rd_KC (k0 : Nat) (Cn : String) : Prop := ∀ (G : rd_G) (r : Nat) (f : Int → Int) (k : Int), ∃ ci fs q, rd_cell G r f k k0 = .inr (ci, fs) ∧ rd_cl[ci]? = some q ∧ q.1 = Cn
section RDC
variable {p : Program} {l : Launch} {e : Env} {R : Room} {s : State} {m : MethodId} {args : Array Value} {below : List Frame} {meth : Method} {c : Code} {Q : State → Prop}
variable {cc : ByteArray} {nl : Nat} {own : String} {ret : Option FieldType} {G : rd_G} {kd : Int → Nat} {N r : Nat}
variable {pc : Nat} {L S : List rd_X} {μ : rd_Mem}
theorem rd_cont {Post : Option rd_X → rd_Mem → Prop} {a : Array Value} {H : Heap} {locs : List Loc} {ls : Array Slot} {st0 rest : List Value} {n : Nat} (hr : va_Run p l e R s m args below meth c H locs 0 0 0 0 (F0 m pc ls st0) rest (rd_Qc G kd N r Post a) (rd_A r N)) (hS : va_S (rd_A r N) s.heap H locs)
    (kk : ∀ (v : Option rd_X) (μ' : rd_Mem) (H1 : Heap) (locs1 : List Loc), Post v μ' → rd_okM μ' → rd_okO v → va_P G.1 rd_cl (rd_ws G kd N r μ') H1 → va_S (rd_A r N) s.heap H1 locs1 → W p l e R s m args below meth c H1 locs1 0 0 Q (F0 m (pc + 3) ls ((v.map (rd_val r)).toList ++ rest))) : W p l e R s m args below meth c H locs 0 0 Q (F0 m pc ls st0) := by
  intro T hT X
  obtain ⟨v, st₀, t, T', L, h0, X', hL, e1, e2, ⟨⟨v', μ', hv, hp, hM, hO, hP⟩, hz, hk⟩, st⟩ := hr T hT X
  cases hv
  rw [h0] at hz hk
  obtain ⟨t2, a1, b1⟩ := kk v' μ' T'.heap (locs ++ L) hp hM hO (by rw [e1]; exact hP)
    ⟨Nat.le_trans hS.1 (by rw [e1]; exact hz), fun q h1 h2 => by rw [e1, hk q (Nat.lt_of_lt_of_le h1 hS.1) h2]; exact hS.2.1 q h1 h2, fun q hq => by
      rcases List.mem_append.mp hq with h | h
      · exact hS.2.2 q h
      · exact hL q h⟩ T' rfl X'
  exact ⟨t2, st t2 a1, b1⟩
theorem rd_room {st : List rd_X} {ls : Array Slot} {r0 : List Value} (h : st.length ≤ 8) : 2 * (F0 m pc ls r0).monitorRoom + ((st.map (rd_val r)).map fun v => v.category).sum ≤ 8 := by
  refine lv_room ?_
  have e : ((st.map (rd_val r)).map fun v => v.category) = List.replicate st.length 1 := by
    rw [List.map_map]
    refine List.eq_replicate_iff.mpr ⟨by simp, fun b hb => ?_⟩
    obtain ⟨x, -, rfl⟩ := List.mem_map.mp hb
    exact rd_cat r x
  rw [e]; simpa using h
def rd_lim (y : MethodName) (n maxL : Nat) (rm R : Room) : Prop := (y.cls ≠ "java/lang/invoke/MethodHandle" ∧ y.cls ≠ "java/lang/invoke/VarHandle" ∧ (parseMethodDescriptor y.desc).map (fun d => d.parameters.length) = some n) ∧ rm.cells = 0 ∧ rm.slots = 0 ∧ rm.frames + 1 ≤ R.frames ∧ 8 + (maxL + 11) + rm.locals ≤ R.locals
theorem rd_okrev {as st : List rd_X} {x : rd_X} (h : rd_okL (as.reverse ++ x :: st)) : rd_okL (x :: as) ∧ rd_okL st :=
  ⟨fun y hy => h y (by rcases List.mem_cons.mp hy with rfl | h1
                       · simp
                       · simp [h1]), fun y hy => h y (by simp [hy])⟩
theorem rd_okrevS {as st : List rd_X} (h : rd_okL (as.reverse ++ st)) : rd_okL as ∧ rd_okL st := ⟨fun y hy => h y (by simp [hy]), fun y hy => h y (by simp [hy])⟩
theorem rd_callV (C : rd_Cx p s m args meth c cc nl own ret G) {y : MethodName} {bytes : ByteArray} {maxL n idx k0 : Nat} {ret' : Option FieldType} {rm : Room} {k : Int} {as st : List rd_X} {Post : Option rd_X → rd_Mem → Prop} (hM : rd_M l G kd N r y bytes maxL ret' rm (rd_R k :: as) μ Post)
    (hlink : (.methodLink own idx y : Cond) ∈ rd_T) (hinst : (.instanceMethod y : Cond) ∈ rd_T) (hsel : (.selects y.cls y y : Cond) ∈ rd_T) (hcode : (.code y bytes maxL ret' : Cond) ∈ rd_T) (hini : (.initialized y.cls : Cond) ∈ rd_T) (hlim : rd_lim y n maxL rm R) (hn : as.length = n) (hkc : rd_KC k0 y.cls) (hd : decode cc pc = .ok (.invokevirtual idx, 3)) (hk : 0 ≤ k ∧ k < N) (hc : kd k = k0) (hst : st = as.reverse ++ rd_R k :: S) (h8 : S.length ≤ 8)
    (kk : ∀ (v : Option rd_X) (μ' : rd_Mem), Post v μ' → rd_W p l e R s m args below meth c Q nl G kd N r (pc + 3) L (v.toList ++ S) μ') : rd_W p l e R s m args below meth c Q nl G kd N r pc L st μ := by
  subst hst
  intro hMm hL hS H locs ls hl hP hs
  obtain ⟨hd1, hd2, hd3, hd4⟩ := hlim
  have hts := C.1.2.2.2.2
  have hat := rd_at (G := G) (kd := kd) (N := N) (r := r) μ hk.1 hk.2
  rw [hc] at hat
  obtain ⟨ci, fs, q, h1, h2, h3⟩ := hkc G r (μ k) k
  rw [h1] at hat
  obtain ⟨hOa, hOs⟩ := rd_okrev hS
  have hcb : CallB R s args own idx y bytes maxL ret' (.code y bytes maxL ret' :: rd_T) rm 0 0 n := callB_of n hts (rd_goodc hcode) rfl hd2 hd3 (hts _ hini) (hts _ hlink) hd1 hd4
  refine rd_cont (va_runV (As := as.map (rd_val r)) (rest := S.map (rd_val r)) C.1 hM ⟨hcb, hts _ hinst, hts _ hsel⟩ ⟨rd_blind, by
      have h4 := va_recv C.2.2.2.1 hP h2 hat
      rw [h3] at h4
      exact h4, fun U hU hW => ⟨rfl, hMm, hOa, by rw [hU]; exact hP, C.2.2.2.warm hW⟩⟩ rfl (by simpa using hn) hl.1 ?_ (rd_room h8) hd ⟨Nat.zero_le _, Nat.zero_le _⟩) hs (fun v μ' H1 locs1 hp hM' hO' hP' hs' => ?_) (n := 0)
  · simp [rd_val]
  · have h5 := kk v μ' hp hM' hL (rd_oka (fun x hx => by
      cases v with
      | none => simp at hx
      | some y => simp at hx; subst hx; exact hO' _ rfl) hOs) H1 locs1 ls hl hP' hs'
    have e : ((v.map (rd_val r)).toList ++ S.map (rd_val r)) = (v.toList ++ S).map (rd_val r) := by cases v <;> rfl
    rw [e]
    exact h5
theorem rd_callS (C : rd_Cx p s m args meth c cc nl own ret G) {y : MethodName} {bytes : ByteArray} {maxL n idx : Nat} {ret' : Option FieldType} {rm : Room} {as st : List rd_X} {Post : Option rd_X → rd_Mem → Prop} (hM : rd_M l G kd N r y bytes maxL ret' rm as μ Post)
    (hlink : (.methodLink own idx y : Cond) ∈ rd_T) (hstat : (.static y : Cond) ∈ rd_T) (hcode : (.code y bytes maxL ret' : Cond) ∈ rd_T) (hini : (.initialized y.cls : Cond) ∈ rd_T) (hlim : rd_lim y n maxL rm R) (hn : as.length = n) (hd : decode cc pc = .ok (.invokestatic idx, 3)) (hst : st = as.reverse ++ S) (h8 : S.length ≤ 8)
    (kk : ∀ (v : Option rd_X) (μ' : rd_Mem), Post v μ' → rd_W p l e R s m args below meth c Q nl G kd N r (pc + 3) L (v.toList ++ S) μ') : rd_W p l e R s m args below meth c Q nl G kd N r pc L st μ := by
  subst hst
  intro hMm hL hS H locs ls hl hP hs
  obtain ⟨hd1, hd2, hd3, hd4⟩ := hlim
  have hts := C.1.2.2.2.2
  obtain ⟨hOa, hOs⟩ := rd_okrevS hS
  have hcb : CallB R s args own idx y bytes maxL ret' (.code y bytes maxL ret' :: rd_T) rm 0 0 n := callB_of n hts (rd_goodc hcode) rfl hd2 hd3 (hts _ hini) (hts _ hlink) hd1 hd4
  refine rd_cont (va_runS (As := as.map (rd_val r)) (rest := S.map (rd_val r)) C.1 hM ⟨hcb, hts _ hstat⟩ ⟨rd_blind, fun U hU hW => ⟨rfl, hMm, hOa, by rw [hU]; exact hP, C.2.2.2.warm hW⟩⟩ rfl (by simpa using hn) hl.1 ?_ (rd_room h8) hd ⟨Nat.zero_le _, Nat.zero_le _⟩) hs (fun v μ' H1 locs1 hp hM' hO' hP' hs' => ?_) (n := 0)
  · simp
  · have h5 := kk v μ' hp hM' hL (rd_oka (fun x hx => by
      cases v with
      | none => simp at hx
      | some y => simp at hx; subst hx; exact hO' _ rfl) hOs) H1 locs1 ls hl hP' hs'
    have e : ((v.map (rd_val r)).toList ++ S.map (rd_val r)) = (v.toList ++ S).map (rd_val r) := by cases v <;> rfl
    rw [e]
    exact h5
theorem rd_callSN (C : rd_Cx p s m args meth c cc nl own ret G) {y : MethodName} {bytes : ByteArray} {maxL n idx : Nat} {host : String} {ret' : Option FieldType} {rm : Room} {as st : List rd_X} {Post : Option rd_X → rd_Mem → Prop} (hM : rd_M l G kd N r y bytes maxL ret' rm as μ Post)
    (hlink : (.methodLinkNest own idx y host : Cond) ∈ rd_nest) (hstat : (.static y : Cond) ∈ rd_T) (hcode : (.code y bytes maxL ret' : Cond) ∈ rd_T) (hini : (.initialized y.cls : Cond) ∈ rd_T) (hlim : rd_lim y n maxL rm R) (hn : as.length = n) (hd : decode cc pc = .ok (.invokestatic idx, 3)) (hst : st = as.reverse ++ S) (h8 : S.length ≤ 8)
    (kk : ∀ (v : Option rd_X) (μ' : rd_Mem), Post v μ' → rd_W p l e R s m args below meth c Q nl G kd N r (pc + 3) L (v.toList ++ S) μ') : rd_W p l e R s m args below meth c Q nl G kd N r pc L st μ := by
  subst hst
  intro hMm hL hS H locs ls hl hP hs
  obtain ⟨hd1, hd2, hd3, hd4⟩ := hlim
  have hts := C.1.2.2.2.2
  obtain ⟨hOa, hOs⟩ := rd_okrevS hS
  have hcb := va_cnB (args := args) (R := R) (rm := rm) n hts (rd_goodc hcode) rfl hd2 hd3 (C.2.2.2.2 _ hlink) (hts _ hini) hd1 hd4
  refine rd_cont (va_runSN (As := as.map (rd_val r)) (rest := S.map (rd_val r)) C.1 hM ⟨hcb, hts _ hstat, trivial⟩ ⟨rd_blind, fun U hU hW => ⟨rfl, hMm, hOa, by rw [hU]; exact hP, C.2.2.2.warm hW⟩⟩ rfl (by simpa using hn) hl.1 ?_ (rd_room h8) hd ⟨Nat.zero_le _, Nat.zero_le _⟩) hs (fun v μ' H1 locs1 hp hM' hO' hP' hs' => ?_) (n := 0)
  · simp
  · have h5 := kk v μ' hp hM' hL (rd_oka (fun x hx => by
      cases v with
      | none => simp at hx
      | some y => simp at hx; subst hx; exact hO' _ rfl) hOs) H1 locs1 ls hl hP' hs'
    have e : ((v.map (rd_val r)).toList ++ S.map (rd_val r)) = (v.toList ++ S).map (rd_val r) := by cases v <;> rfl
    rw [e]
    exact h5
/-! the ends -/
theorem rd_end {v : Option rd_X} {Post : Option rd_X → rd_Mem → Prop} {H : Heap} {locs : List Loc} (hp : Post v μ) (hM : rd_okM μ) (hO : rd_okO v) (hP : va_P G.1 rd_cl (rd_ws G kd N r μ) H) (hS : va_S (rd_A r N) s.heap H locs) (t : State) (ht : t.heap = H) (hW : s.WarmedH t.vm) : rd_Qc G kd N r Post args s (.returned (v.map (rd_val r))) t :=
  ⟨⟨v, μ, rfl, hp, hM, hO, by rw [ht]; exact hP⟩, hS.F ht⟩
theorem rd_iret {Post : Option rd_X → rd_Mem → Prop} (C : rd_Cx p s m args meth c cc nl own (some .int) G) {z : Int} (hd : decode cc pc = .ok (.ireturn, 1)) (hp : Post (some (rd_I z)) μ) : rd_W p l e R s m args below meth c (MQ below (rd_Qc G kd N r Post) args s 0 0 (rd_A r N)) nl G kd N r pc L [rd_I z] μ := by
  intro hM hL hS H locs ls hl hP hs
  have hlk : meth.locks = false := C.2.2.1
  exact W.iret (v := rd_i z) C.1.1 C.1.2.1 C.2.1 (fun t ht hW => rd_end (v := some (rd_I z)) hp hM (fun x hx => by cases hx; exact rd_okh hS) hP hs t ht hW) hs.2.2 hd hlk
theorem rd_zret {Post : Option rd_X → rd_Mem → Prop} (C : rd_Cx p s m args meth c cc nl own (some .boolean) G) {z : Int} (hd : decode cc pc = .ok (.ireturn, 1)) (hz : z = 0 ∨ z = 1) (hp : Post (some (rd_I z)) μ) : rd_W p l e R s m args below meth c (MQ below (rd_Qc G kd N r Post) args s 0 0 (rd_A r N)) nl G kd N r pc L [rd_I z] μ := by
  intro hM hL hS H locs ls hl hP hs
  have hlk : meth.locks = false := C.2.2.1
  exact W.zret (v := rd_i z) C.1.1 C.1.2.1 C.2.1 (rd_nb hz).1 (fun t ht hW => rd_end (v := some (rd_I z)) hp hM (fun x hx => by cases hx; exact rd_okh hS) hP hs t ht hW) hs.2.2 hd hlk
theorem rd_cret {Post : Option rd_X → rd_Mem → Prop} (C : rd_Cx p s m args meth c cc nl own (some .char) G) {z : Int} (hd : decode cc pc = .ok (.ireturn, 1)) (hz : 0 ≤ z ∧ z < 65536) (hp : Post (some (rd_I z)) μ) : rd_W p l e R s m args below meth c (MQ below (rd_Qc G kd N r Post) args s 0 0 (rd_A r N)) nl G kd N r pc L [rd_I z] μ := by
  intro hM hL hS H locs ls hl hP hs
  have hlk : meth.locks = false := C.2.2.1
  have e : narrow .char (.int (rd_i z)) = .int (rd_i z) := by
    have h1 := rd_narc hz.1 hz.2
    rw [vp_nar_char] at h1
    show Value.int _ = _
    rw [h1]
  exact W.zret (v := rd_i z) C.1.1 C.1.2.1 C.2.1 e (fun t ht hW => rd_end (v := some (rd_I z)) hp hM (fun x hx => by cases hx; exact rd_okh hS) hP hs t ht hW) hs.2.2 hd hlk
theorem rd_aret {Post : Option rd_X → rd_Mem → Prop} {cn : String} (C : rd_Cx p s m args meth c cc nl own (some (.object cn)) G) {z : Option Int} (hd : decode cc pc = .ok (.areturn, 1)) (hp : Post (some (.inr (.inl z))) μ) : rd_W p l e R s m args below meth c (MQ below (rd_Qc G kd N r Post) args s 0 0 (rd_A r N)) nl G kd N r pc L [.inr (.inl z)] μ := by
  intro hM hL hS H locs ls hl hP hs
  have hlk : meth.locks = false := C.2.2.1
  exact W.aret (v := rd_val r (.inr (.inl z))) C.1.1 C.1.2.1 C.2.1 (Or.inl ⟨_, rfl⟩) (by cases z with | none => exact Or.inl rfl | some z => exact Or.inr ⟨_, rfl⟩) (fun t ht hW => rd_end (v := some (.inr (.inl z))) hp hM (fun x hx => by cases hx; trivial) hP hs t ht hW) hs.2.2 hd hlk
theorem rd_fret {Post : Option rd_X → rd_Mem → Prop} (C : rd_Cx p s m args meth c cc nl own (some .float) G) {f : UInt32} (hd : decode cc pc = .ok (.freturn, 1)) (hp : Post (some (rd_F f)) μ) : rd_W p l e R s m args below meth c (MQ below (rd_Qc G kd N r Post) args s 0 0 (rd_A r N)) nl G kd N r pc L [rd_F f] μ := by
  intro hM hL hS H locs ls hl hP hs
  have hlk : meth.locks = false := C.2.2.1
  exact W.fret (v := f) C.1.1 C.1.2.1 C.2.1 (fun t ht hW => rd_end (v := some (rd_F f)) hp hM (fun x hx => by cases hx; trivial) hP hs t ht hW) hs.2.2 hd hlk
theorem rd_vret {Post : Option rd_X → rd_Mem → Prop} (C : rd_Cx p s m args meth c cc nl own none G) (hd : decode cc pc = .ok (.return_, 1)) (hp : Post none μ) : rd_W p l e R s m args below meth c (MQ below (rd_Qc G kd N r Post) args s 0 0 (rd_A r N)) nl G kd N r pc L [] μ := by
  intro hM hL hS H locs ls hl hP hs
  have hlk : meth.locks = false := C.2.2.1
  exact W.vret C.1.1 C.1.2.1 C.2.1 (fun t ht hW => rd_end (v := none) hp hM (fun x hx => by cases hx) hP hs t ht hW) hs.2.2 hd hlk
/-! the JDK's -/
theorem rd_mmax (C : rd_Cx p s m args meth c cc nl own ret G) {a b z : Int} {idx : Nat} (hlink : (.methodLink own idx Lib.Math.max.name : Cond) ∈ rd_T) (hstat : (.static Lib.Math.max.name : Cond) ∈ rd_T) (hini : (.initialized "java/lang/Math" : Cond) ∈ rd_T) (hcode : (.code Lib.Math.max.name Lib.Math.max.code 2 (some .int) : Cond) ∈ rd_T) (hR : 1 ≤ R.frames ∧ 21 ≤ R.locals) (h8 : S.length ≤ 8) (hd : decode cc pc = .ok (.invokestatic idx, 3)) (hz : (if a < b then b else a) = z)
    (kk : rd_W p l e R s m args below meth c Q nl G kd N r (pc + 3) L (rd_I z :: S) μ) : rd_W p l e R s m args below meth c Q nl G kd N r pc L (rd_I b :: rd_I a :: S) μ := by
  intro hM hL hS H locs ls hl hP hs
  have hts := C.1.2.2.2.2
  have hb : rd_ok b := rd_okh hS
  have ha : rd_ok a := rd_okh (rd_okt hS)
  have h0 := rd_room (m := m) (pc := pc) (r := r) (ls := ls) (r0 := []) h8
  refine va_mmax C.1.1 C.1.2.1 (by rw [C.1.2.2.1, hl.1]) C.1.2.2.2.1 (hts _ hlink) (hts _ hstat) (hts _ hini) (hts _ hcode) hR.1 (by omega) (Nat.zero_le _) (Nat.zero_le _) hd ?_
  have e : (if rd_i a < rd_i b then rd_i b else rd_i a) = rd_i z := by
    subst hz
    by_cases h : a < b
    · rw [if_pos ((rd_lt ha hb).mpr h), if_pos h]
    · rw [if_neg (fun q => h ((rd_lt ha hb).mp q)), if_neg h]
  rw [e]
  exact kk hM hL (rd_okc (by subst hz; show rd_ok _; split <;> assumption) (rd_okt (rd_okt hS))) H locs ls hl hP hs
theorem rd_mmin (C : rd_Cx p s m args meth c cc nl own ret G) {a b z : Int} {idx : Nat} (hlink : (.methodLink own idx Lib.Math.min.name : Cond) ∈ rd_T) (hstat : (.static Lib.Math.min.name : Cond) ∈ rd_T) (hini : (.initialized "java/lang/Math" : Cond) ∈ rd_T) (hcode : (.code Lib.Math.min.name Lib.Math.min.code 2 (some .int) : Cond) ∈ rd_T) (hR : 1 ≤ R.frames ∧ 21 ≤ R.locals) (h8 : S.length ≤ 8) (hd : decode cc pc = .ok (.invokestatic idx, 3)) (hz : (if b < a then b else a) = z)
    (kk : rd_W p l e R s m args below meth c Q nl G kd N r (pc + 3) L (rd_I z :: S) μ) : rd_W p l e R s m args below meth c Q nl G kd N r pc L (rd_I b :: rd_I a :: S) μ := by
  intro hM hL hS H locs ls hl hP hs
  have hts := C.1.2.2.2.2
  have hb : rd_ok b := rd_okh hS
  have ha : rd_ok a := rd_okh (rd_okt hS)
  have h0 := rd_room (m := m) (pc := pc) (r := r) (ls := ls) (r0 := []) h8
  refine va_mmin C.1.1 C.1.2.1 (by rw [C.1.2.2.1, hl.1]) C.1.2.2.2.1 (hts _ hlink) (hts _ hstat) (hts _ hini) (hts _ hcode) hR.1 (by omega) (Nat.zero_le _) (Nat.zero_le _) hd ?_
  have e : (if rd_i b < rd_i a then rd_i b else rd_i a) = rd_i z := by
    subst hz
    by_cases h : b < a
    · rw [if_pos ((rd_lt hb ha).mpr h), if_pos h]
    · rw [if_neg (fun q => h ((rd_lt hb ha).mp q)), if_neg h]
  rw [e]
  exact kk hM hL (rd_okc (by subst hz; show rd_ok _; split <;> assumption) (rd_okt (rd_okt hS))) H locs ls hl hP hs
def rd_cp (μ : rd_Mem) (k1 k0 n : Int) : rd_Mem := fun a b => if a = k1 then (if 0 ≤ b ∧ b < n then μ k0 b else μ a b) else μ a b
theorem rd_acopy (C : rd_Cx p s m args meth c cc nl own ret G) {k0 n : Nat} {k1 k2 nz : Int} {idx : Nat} (ha : rd_AI k0 n) (hlink : (.methodLink own idx arraycopyName : Cond) ∈ rd_T) (hnat : (.native arraycopyName : Cond) ∈ rd_T) (hstat : (.static arraycopyName : Cond) ∈ rd_T) (hini : (.initialized "java/lang/System" : Cond) ∈ rd_T) (hR : 1 ≤ R.frames ∧ 8 + (nativeFrameWords "java/lang/System" "arraycopy" 5 + 11) ≤ R.locals) (h8 : S.length ≤ 8) (hd : decode cc pc = .ok (.invokestatic idx, 3)) (hk1 : 0 ≤ k1 ∧ k1 < N) (hc1 : kd k1 = k0) (hk2 : 0 ≤ k2 ∧ k2 < N) (hc2 : kd k2 = k0) (hnz : nz = (n : Int)) (hn : n < 2147483648)
    (kk : rd_W p l e R s m args below meth c Q nl G kd N r (pc + 3) L S (rd_cp μ k2 k1 nz)) : rd_W p l e R s m args below meth c Q nl G kd N r pc L (rd_I nz :: rd_I 0 :: rd_R k2 :: rd_I 0 :: rd_R k1 :: S) μ := by
  intro hM hL hS H locs ls hl hP hs
  subst hnz
  have hts := C.1.2.2.2.2
  have hat1 := rd_at (G := G) (kd := kd) (N := N) (r := r) μ hk1.1 hk1.2
  have hat2 := rd_at (G := G) (kd := kd) (N := N) (r := r) μ hk2.1 hk2.2
  rw [hc1, ha G r (μ k1) k1] at hat1
  rw [hc2, ha G r (μ k2) k2] at hat2
  have hnn : rd_ok ((n : Int)) := ⟨by omega, by omega⟩
  have e0 : (rd_i 0).toNatClampNeg = 0 := by rw [rd_cl0 rd_ok0]; rfl
  have en : (rd_i (n : Int)).toNatClampNeg = n := by rw [rd_cl0 hnn]; omega
  have h0 := rd_room (m := m) (pc := pc) (r := r) (ls := ls) (r0 := []) h8
  refine va_copyi (D := G.1) (sp := rd_i 0) (dp := rd_i 0) (n := rd_i n) (ty := .int) C.1.1 C.1.2.1 (by rw [C.1.2.2.1, hl.1]) C.1.2.2.2.1 (hts _ hlink) (hts _ hnat) (hts _ hstat) (hts _ hini) C.2.2.2.1 hP (rd_wsD G kd N r μ) hs k1.toNat k2.toNat 0 0 hat1 hat2 rfl rfl rfl
    (by rw [rd_z]; decide) (by rw [rd_z]; decide) (by rw [← rd_z, rd_lt hnn rd_ok0]; omega) (by rw [e0, en]; omega) (by rw [e0, en]; omega) (fun i _ => rfl) hR.1 (by omega) hd (fun H1 locs1 hP1 _ hS1 => ?_)
  rw [e0, en, rd_wset hk2.1 hk2.2 (μ' := rd_cp μ k2 k1 n) (by
    rw [hc2, ha]
    congr 4
    funext j
    simp only [va_cpy, rd_ri, rd_cp, if_true]
    by_cases hj : j < n
    · have h3 : (0 : Int) ≤ (j : Int) ∧ (j : Int) < n := ⟨by omega, by omega⟩
      have h4 : (0 ≤ j ∧ j < 0 + n) := ⟨by omega, by omega⟩
      rw [if_pos h3, if_pos h4]
      simp
    · have h3 : ¬ ((0 : Int) ≤ (j : Int) ∧ (j : Int) < n) := by omega
      have h4 : ¬ (0 ≤ j ∧ j < 0 + n) := by omega
      rw [if_neg h3, if_neg h4]) (fun a ha => by funext b; simp [rd_cp, ha])] at hP1
  refine kk (fun a b => ?_) hL (rd_okt (rd_okt (rd_okt (rd_okt (rd_okt hS))))) H1 locs1 ls hl hP1 hS1
  unfold rd_cp
  split
  · split
    · exact hM _ _
    · exact hM _ _
  · exact hM _ _
end RDC
end
section
theorem rd_kcl0 : rd_KC 0 RX0 := fun G r f k => ⟨_, _, _, rfl, rfl, rfl⟩
theorem rd_g0_0 : rd_GF 0 0 0 RX0 TX0 3 (fun f _ => rd_I (f 0)) := ⟨rfl, by decide, ru_X0, fun G r f k => ⟨_, rfl, rfl⟩⟩
theorem rd_p0_0 : rd_PF 0 0 0 RX0 TX0 3 0 (fun _ => True) := ⟨rfl, by decide, ru_X0, fun G r f k z => ⟨_, rfl, Nat.le_of_ble_eq_true rfl, by simp [rd_cell, rd_uf]⟩, ⟨tyX0, tyX0_ok⟩, nmX0, rfl, .int, tyX0_ok 0 (by decide), rd_ni⟩
theorem rd_g0_1 : rd_GF 0 1 0 RX0 TX0 3 (fun _ k => rd_R (k + 1)) := ⟨rfl, by decide, ru_X0, fun G r f k => ⟨_, rfl, rfl⟩⟩
theorem rd_g0_2 : rd_GF 0 2 0 RX0 TX0 3 (fun _ k => rd_R (k + 2)) := ⟨rfl, by decide, ru_X0, fun G r f k => ⟨_, rfl, rfl⟩⟩
theorem rd_kcl1 : rd_KC 1 RX1 := fun G r f k => ⟨_, _, _, rfl, rfl, rfl⟩
theorem rd_g1_0 : rd_GF 1 0 1 RX1 TX1 1 (fun _ k => rd_R (k + 1)) := ⟨rfl, by decide, ru_X1, fun G r f k => ⟨_, rfl, rfl⟩⟩
theorem rd_kcl2 : rd_KC 2 RX2 := fun G r f k => ⟨_, _, _, rfl, rfl, rfl⟩
theorem rd_g2_0 : rd_GF 2 0 2 RX2 TX2 2 (fun f _ => rd_I (f 0)) := ⟨rfl, by decide, ru_X2, fun G r f k => ⟨_, rfl, rfl⟩⟩
theorem rd_p2_0 : rd_PF 2 0 2 RX2 TX2 2 0 (fun _ => True) := ⟨rfl, by decide, ru_X2, fun G r f k z => ⟨_, rfl, Nat.le_of_ble_eq_true rfl, by simp [rd_cell, rd_uf]⟩, ⟨tyX2, tyX2_ok⟩, nmX2, rfl, .int, tyX2_ok 0 (by decide), rd_ni⟩
theorem rd_g2_1 : rd_GF 2 1 2 RX2 TX2 2 (fun _ k => rd_R (k + 1)) := ⟨rfl, by decide, ru_X2, fun G r f k => ⟨_, rfl, rfl⟩⟩
theorem rd_kcl3 : rd_KC 3 RX3 := fun G r f k => ⟨_, _, _, rfl, rfl, rfl⟩
theorem rd_g3_0 : rd_GF 3 0 3 RX3 TX3 3 (fun f _ => rd_I (f 0)) := ⟨rfl, by decide, ru_X3, fun G r f k => ⟨_, rfl, rfl⟩⟩
theorem rd_p3_0 : rd_PF 3 0 3 RX3 TX3 3 0 (fun _ => True) := ⟨rfl, by decide, ru_X3, fun G r f k z => ⟨_, rfl, Nat.le_of_ble_eq_true rfl, by simp [rd_cell, rd_uf]⟩, ⟨tyX3, tyX3_ok⟩, nmX3, rfl, .int, tyX3_ok 0 (by decide), rd_ni⟩
theorem rd_g3_1 : rd_GF 3 1 3 RX3 TX3 3 (fun _ k => rd_R (k + 1)) := ⟨rfl, by decide, ru_X3, fun G r f k => ⟨_, rfl, rfl⟩⟩
theorem rd_g3_2 : rd_GF 3 2 3 RX3 TX3 3 (fun _ k => rd_R (k + 2)) := ⟨rfl, by decide, ru_X3, fun G r f k => ⟨_, rfl, rfl⟩⟩
theorem rd_kcl4 : rd_KC 4 RX4 := fun G r f k => ⟨_, _, _, rfl, rfl, rfl⟩
theorem rd_g4_0 : rd_GF 4 0 4 RX4 TX4 4 (fun f _ => rd_I (f 0)) := ⟨rfl, by decide, ru_X4, fun G r f k => ⟨_, rfl, rfl⟩⟩
theorem rd_p4_0 : rd_PF 4 0 4 RX4 TX4 4 0 (fun _ => True) := ⟨rfl, by decide, ru_X4, fun G r f k z => ⟨_, rfl, Nat.le_of_ble_eq_true rfl, by simp [rd_cell, rd_uf]⟩, ⟨tyX4, tyX4_ok⟩, nmX4, rfl, .int, tyX4_ok 0 (by decide), rd_ni⟩
theorem rd_g4_1 : rd_GF 4 1 4 RX4 TX4 4 (fun f _ => rd_I (f 1)) := ⟨rfl, by decide, ru_X4, fun G r f k => ⟨_, rfl, rfl⟩⟩
theorem rd_p4_1 : rd_PF 4 1 4 RX4 TX4 4 1 (fun _ => True) := ⟨rfl, by decide, ru_X4, fun G r f k z => ⟨_, rfl, Nat.le_of_ble_eq_true rfl, by simp [rd_cell, rd_uf]⟩, ⟨tyX4, tyX4_ok⟩, nmX4, rfl, .int, tyX4_ok 1 (by decide), rd_ni⟩
theorem rd_g4_2 : rd_GF 4 2 4 RX4 TX4 4 (fun f _ => rd_I (f 2)) := ⟨rfl, by decide, ru_X4, fun G r f k => ⟨_, rfl, rfl⟩⟩
theorem rd_p4_2 : rd_PF 4 2 4 RX4 TX4 4 2 (fun _ => True) := ⟨rfl, by decide, ru_X4, fun G r f k z => ⟨_, rfl, Nat.le_of_ble_eq_true rfl, by simp [rd_cell, rd_uf]⟩, ⟨tyX4, tyX4_ok⟩, nmX4, rfl, .int, tyX4_ok 2 (by decide), rd_ni⟩
theorem rd_g4_3 : rd_GF 4 3 4 RX4 TX4 4 (fun f _ => rd_I (f 3)) := ⟨rfl, by decide, ru_X4, fun G r f k => ⟨_, rfl, rfl⟩⟩
theorem rd_p4_3 : rd_PF 4 3 4 RX4 TX4 4 3 (fun _ => True) := ⟨rfl, by decide, ru_X4, fun G r f k z => ⟨_, rfl, Nat.le_of_ble_eq_true rfl, by simp [rd_cell, rd_uf]⟩, ⟨tyX4, tyX4_ok⟩, nmX4, rfl, .int, tyX4_ok 3 (by decide), rd_ni⟩
theorem rd_kcl5 : rd_KC 5 RX5 := fun G r f k => ⟨_, _, _, rfl, rfl, rfl⟩
theorem rd_g5_0 : rd_GF 5 0 5 RX5 TX5 2 (fun f _ => rd_I (f 0)) := ⟨rfl, by decide, ru_X5, fun G r f k => ⟨_, rfl, rfl⟩⟩
theorem rd_p5_0 : rd_PF 5 0 5 RX5 TX5 2 0 (fun _ => True) := ⟨rfl, by decide, ru_X5, fun G r f k z => ⟨_, rfl, Nat.le_of_ble_eq_true rfl, by simp [rd_cell, rd_uf]⟩, ⟨tyX5, tyX5_ok⟩, nmX5, rfl, .int, tyX5_ok 0 (by decide), rd_ni⟩
theorem rd_g5_1 : rd_GF 5 1 5 RX5 TX5 2 (fun _ k => rd_R (k + 1)) := ⟨rfl, by decide, ru_X5, fun G r f k => ⟨_, rfl, rfl⟩⟩
theorem rd_kcl6 : rd_KC 6 RX6 := fun G r f k => ⟨_, _, _, rfl, rfl, rfl⟩
theorem rd_g6_0 : rd_GF 6 0 6 RX6 TX6 9 (fun f _ => rd_I (f 0)) := ⟨rfl, by decide, ru_X6, fun G r f k => ⟨_, rfl, rfl⟩⟩
theorem rd_p6_0 : rd_PF 6 0 6 RX6 TX6 9 0 (fun _ => True) := ⟨rfl, by decide, ru_X6, fun G r f k z => ⟨_, rfl, Nat.le_of_ble_eq_true rfl, by simp [rd_cell, rd_uf]⟩, ⟨tyX6, tyX6_ok⟩, nmX6, rfl, .int, tyX6_ok 0 (by decide), rd_ni⟩
theorem rd_g6_1 : rd_GF 6 1 6 RX6 TX6 9 (fun f _ => rd_I (f 1)) := ⟨rfl, by decide, ru_X6, fun G r f k => ⟨_, rfl, rfl⟩⟩
theorem rd_p6_1 : rd_PF 6 1 6 RX6 TX6 9 1 (fun _ => True) := ⟨rfl, by decide, ru_X6, fun G r f k z => ⟨_, rfl, Nat.le_of_ble_eq_true rfl, by simp [rd_cell, rd_uf]⟩, ⟨tyX6, tyX6_ok⟩, nmX6, rfl, .int, tyX6_ok 1 (by decide), rd_ni⟩
theorem rd_g6_2 : rd_GF 6 2 6 RX6 TX6 9 (fun f _ => rd_I (f 2)) := ⟨rfl, by decide, ru_X6, fun G r f k => ⟨_, rfl, rfl⟩⟩
theorem rd_p6_2 : rd_PF 6 2 6 RX6 TX6 9 2 (fun _ => True) := ⟨rfl, by decide, ru_X6, fun G r f k z => ⟨_, rfl, Nat.le_of_ble_eq_true rfl, by simp [rd_cell, rd_uf]⟩, ⟨tyX6, tyX6_ok⟩, nmX6, rfl, .int, tyX6_ok 2 (by decide), rd_ni⟩
theorem rd_g6_3 : rd_GF 6 3 6 RX6 TX6 9 (fun f _ => rd_I (f 3)) := ⟨rfl, by decide, ru_X6, fun G r f k => ⟨_, rfl, rfl⟩⟩
theorem rd_p6_3 : rd_PF 6 3 6 RX6 TX6 9 3 (fun _ => True) := ⟨rfl, by decide, ru_X6, fun G r f k z => ⟨_, rfl, Nat.le_of_ble_eq_true rfl, by simp [rd_cell, rd_uf]⟩, ⟨tyX6, tyX6_ok⟩, nmX6, rfl, .int, tyX6_ok 3 (by decide), rd_ni⟩
theorem rd_g6_4 : rd_GF 6 4 6 RX6 TX6 9 (fun f _ => rd_I (f 4)) := ⟨rfl, by decide, ru_X6, fun G r f k => ⟨_, rfl, rfl⟩⟩
theorem rd_p6_4 : rd_PF 6 4 6 RX6 TX6 9 4 (fun _ => True) := ⟨rfl, by decide, ru_X6, fun G r f k z => ⟨_, rfl, Nat.le_of_ble_eq_true rfl, by simp [rd_cell, rd_uf]⟩, ⟨tyX6, tyX6_ok⟩, nmX6, rfl, .int, tyX6_ok 4 (by decide), rd_ni⟩
theorem rd_g6_5 : rd_GF 6 5 6 RX6 TX6 9 (fun f _ => rd_I (f 5)) := ⟨rfl, by decide, ru_X6, fun G r f k => ⟨_, rfl, rfl⟩⟩
theorem rd_p6_5 : rd_PF 6 5 6 RX6 TX6 9 5 (fun _ => True) := ⟨rfl, by decide, ru_X6, fun G r f k z => ⟨_, rfl, Nat.le_of_ble_eq_true rfl, by simp [rd_cell, rd_uf]⟩, ⟨tyX6, tyX6_ok⟩, nmX6, rfl, .int, tyX6_ok 5 (by decide), rd_ni⟩
theorem rd_g6_6 : rd_GF 6 6 6 RX6 TX6 9 (fun _ k => rd_R (k + 1)) := ⟨rfl, by decide, ru_X6, fun G r f k => ⟨_, rfl, rfl⟩⟩
theorem rd_g6_7 : rd_GF 6 7 6 RX6 TX6 9 (fun _ k => rd_R (k + 2)) := ⟨rfl, by decide, ru_X6, fun G r f k => ⟨_, rfl, rfl⟩⟩
theorem rd_g6_8 : rd_GF 6 8 6 RX6 TX6 9 (fun _ k => rd_R (k + 3)) := ⟨rfl, by decide, ru_X6, fun G r f k => ⟨_, rfl, rfl⟩⟩
theorem rd_kcl7 : rd_KC 7 RX7 := fun G r f k => ⟨_, _, _, rfl, rfl, rfl⟩
theorem rd_g7_0 : rd_GF 7 0 7 RX7 TX7 8 (fun f _ => rd_I (f 0)) := ⟨rfl, by decide, ru_X7, fun G r f k => ⟨_, rfl, rfl⟩⟩
theorem rd_p7_0 : rd_PF 7 0 7 RX7 TX7 8 0 (fun z => z = 0 ∨ z = 1) := ⟨rfl, by decide, ru_X7, fun G r f k z => ⟨_, rfl, Nat.le_of_ble_eq_true rfl, by simp [rd_cell, rd_uf]⟩, ⟨tyX7, tyX7_ok⟩, nmX7, rfl, .boolean, tyX7_ok 0 (by decide), fun _ h => rd_nb h⟩
theorem rd_g7_1 : rd_GF 7 1 7 RX7 TX7 8 (fun f _ => rd_I (f 1)) := ⟨rfl, by decide, ru_X7, fun G r f k => ⟨_, rfl, rfl⟩⟩
theorem rd_p7_1 : rd_PF 7 1 7 RX7 TX7 8 1 (fun z => z = 0 ∨ z = 1) := ⟨rfl, by decide, ru_X7, fun G r f k z => ⟨_, rfl, Nat.le_of_ble_eq_true rfl, by simp [rd_cell, rd_uf]⟩, ⟨tyX7, tyX7_ok⟩, nmX7, rfl, .boolean, tyX7_ok 1 (by decide), fun _ h => rd_nb h⟩
theorem rd_g7_2 : rd_GF 7 2 7 RX7 TX7 8 (fun f _ => rd_I (f 2)) := ⟨rfl, by decide, ru_X7, fun G r f k => ⟨_, rfl, rfl⟩⟩
theorem rd_p7_2 : rd_PF 7 2 7 RX7 TX7 8 2 (fun _ => True) := ⟨rfl, by decide, ru_X7, fun G r f k z => ⟨_, rfl, Nat.le_of_ble_eq_true rfl, by simp [rd_cell, rd_uf]⟩, ⟨tyX7, tyX7_ok⟩, nmX7, rfl, .int, tyX7_ok 2 (by decide), rd_ni⟩
theorem rd_g7_3 : rd_GF 7 3 7 RX7 TX7 8 (fun f _ => rd_I (f 3)) := ⟨rfl, by decide, ru_X7, fun G r f k => ⟨_, rfl, rfl⟩⟩
theorem rd_p7_3 : rd_PF 7 3 7 RX7 TX7 8 3 (fun _ => True) := ⟨rfl, by decide, ru_X7, fun G r f k z => ⟨_, rfl, Nat.le_of_ble_eq_true rfl, by simp [rd_cell, rd_uf]⟩, ⟨tyX7, tyX7_ok⟩, nmX7, rfl, .int, tyX7_ok 3 (by decide), rd_ni⟩
theorem rd_g7_4 : rd_GF 7 4 7 RX7 TX7 8 (fun _ k => rd_R (k + 1)) := ⟨rfl, by decide, ru_X7, fun G r f k => ⟨_, rfl, rfl⟩⟩
theorem rd_g7_5 : rd_GF 7 5 7 RX7 TX7 8 (fun _ k => rd_R (k + 2)) := ⟨rfl, by decide, ru_X7, fun G r f k => ⟨_, rfl, rfl⟩⟩
theorem rd_g7_6 : rd_GF 7 6 7 RX7 TX7 8 (fun _ k => rd_R (k + 3)) := ⟨rfl, by decide, ru_X7, fun G r f k => ⟨_, rfl, rfl⟩⟩
theorem rd_g7_7 : rd_GF 7 7 7 RX7 TX7 8 (fun _ k => rd_R (k + 4)) := ⟨rfl, by decide, ru_X7, fun G r f k => ⟨_, rfl, rfl⟩⟩
theorem rd_kcl8 : rd_KC 8 RX8 := fun G r f k => ⟨_, _, _, rfl, rfl, rfl⟩
theorem rd_g8_0 : rd_GF 8 0 8 RX8 TX8 4 (fun f _ => rd_I (f 0)) := ⟨rfl, by decide, ru_X8, fun G r f k => ⟨_, rfl, rfl⟩⟩
theorem rd_p8_0 : rd_PF 8 0 8 RX8 TX8 4 0 (fun _ => True) := ⟨rfl, by decide, ru_X8, fun G r f k z => ⟨_, rfl, Nat.le_of_ble_eq_true rfl, by simp [rd_cell, rd_uf]⟩, ⟨tyX8, tyX8_ok⟩, nmX8, rfl, .int, tyX8_ok 0 (by decide), rd_ni⟩
theorem rd_g8_1 : rd_GF 8 1 8 RX8 TX8 4 (fun _ k => rd_R (k + 1)) := ⟨rfl, by decide, ru_X8, fun G r f k => ⟨_, rfl, rfl⟩⟩
theorem rd_g8_2 : rd_GF 8 2 8 RX8 TX8 4 (fun _ k => rd_R (k + 54)) := ⟨rfl, by decide, ru_X8, fun G r f k => ⟨_, rfl, rfl⟩⟩
theorem rd_g8_3 : rd_GF 8 3 8 RX8 TX8 4 (fun _ k => rd_R (k + 57)) := ⟨rfl, by decide, ru_X8, fun G r f k => ⟨_, rfl, rfl⟩⟩
theorem rd_kcl9 : rd_KC 9 RX9 := fun G r f k => ⟨_, _, _, rfl, rfl, rfl⟩
theorem rd_g9_0 : rd_GF 9 0 9 RX9 TX9 5 (fun _ k => rd_R (k + 1)) := ⟨rfl, by decide, ru_X9, fun G r f k => ⟨_, rfl, rfl⟩⟩
theorem rd_g9_1 : rd_GF 9 1 9 RX9 TX9 5 (fun _ k => rd_R (k + 62)) := ⟨rfl, by decide, ru_X9, fun G r f k => ⟨_, rfl, rfl⟩⟩
theorem rd_g9_2 : rd_GF 9 2 9 RX9 TX9 5 (fun _ k => rd_R (k + 308)) := ⟨rfl, by decide, ru_X9, fun G r f k => ⟨_, rfl, rfl⟩⟩
theorem rd_g9_3 : rd_GF 9 3 9 RX9 TX9 5 (fun _ k => rd_R (k + 310)) := ⟨rfl, by decide, ru_X9, fun G r f k => ⟨_, rfl, rfl⟩⟩
theorem rd_g9_4 : rd_GF 9 4 9 RX9 TX9 5 (fun _ k => rd_R (k + 311)) := ⟨rfl, by decide, ru_X9, fun G r f k => ⟨_, rfl, rfl⟩⟩
theorem rd_kcl10 : rd_KC 10 RX10 := fun G r f k => ⟨_, _, _, rfl, rfl, rfl⟩
theorem rd_g10_0 : rd_GF 10 0 10 RX10 TX10 9 (fun _ k => rd_R (k + 1)) := ⟨rfl, by decide, ru_X10, fun G r f k => ⟨_, rfl, rfl⟩⟩
theorem rd_g10_1 : rd_GF 10 1 10 RX10 TX10 9 (fun f _ => rd_I (f 1)) := ⟨rfl, by decide, ru_X10, fun G r f k => ⟨_, rfl, rfl⟩⟩
theorem rd_p10_1 : rd_PF 10 1 10 RX10 TX10 9 1 (fun _ => True) := ⟨rfl, by decide, ru_X10, fun G r f k z => ⟨_, rfl, Nat.le_of_ble_eq_true rfl, by simp [rd_cell, rd_uf]⟩, ⟨tyX10, tyX10_ok⟩, nmX10, rfl, .int, tyX10_ok 1 (by decide), rd_ni⟩
theorem rd_g10_2 : rd_GF 10 2 10 RX10 TX10 9 (fun _ k => rd_R (k + 2)) := ⟨rfl, by decide, ru_X10, fun G r f k => ⟨_, rfl, rfl⟩⟩
theorem rd_g10_3 : rd_GF 10 3 10 RX10 TX10 9 (fun f _ => rd_I (f 3)) := ⟨rfl, by decide, ru_X10, fun G r f k => ⟨_, rfl, rfl⟩⟩
theorem rd_p10_3 : rd_PF 10 3 10 RX10 TX10 9 3 (fun _ => True) := ⟨rfl, by decide, ru_X10, fun G r f k z => ⟨_, rfl, Nat.le_of_ble_eq_true rfl, by simp [rd_cell, rd_uf]⟩, ⟨tyX10, tyX10_ok⟩, nmX10, rfl, .int, tyX10_ok 3 (by decide), rd_ni⟩
theorem rd_g10_4 : rd_GF 10 4 10 RX10 TX10 9 (fun f _ => rd_I (f 4)) := ⟨rfl, by decide, ru_X10, fun G r f k => ⟨_, rfl, rfl⟩⟩
theorem rd_p10_4 : rd_PF 10 4 10 RX10 TX10 9 4 (fun _ => True) := ⟨rfl, by decide, ru_X10, fun G r f k z => ⟨_, rfl, Nat.le_of_ble_eq_true rfl, by simp [rd_cell, rd_uf]⟩, ⟨tyX10, tyX10_ok⟩, nmX10, rfl, .int, tyX10_ok 4 (by decide), rd_ni⟩
theorem rd_g10_5 : rd_GF 10 5 10 RX10 TX10 9 (fun f _ => rd_I (f 5)) := ⟨rfl, by decide, ru_X10, fun G r f k => ⟨_, rfl, rfl⟩⟩
theorem rd_p10_5 : rd_PF 10 5 10 RX10 TX10 9 5 (fun _ => True) := ⟨rfl, by decide, ru_X10, fun G r f k z => ⟨_, rfl, Nat.le_of_ble_eq_true rfl, by simp [rd_cell, rd_uf]⟩, ⟨tyX10, tyX10_ok⟩, nmX10, rfl, .int, tyX10_ok 5 (by decide), rd_ni⟩
theorem rd_g10_6 : rd_GF 10 6 10 RX10 TX10 9 (fun f _ => rd_I (f 6)) := ⟨rfl, by decide, ru_X10, fun G r f k => ⟨_, rfl, rfl⟩⟩
theorem rd_p10_6 : rd_PF 10 6 10 RX10 TX10 9 6 (fun _ => True) := ⟨rfl, by decide, ru_X10, fun G r f k z => ⟨_, rfl, Nat.le_of_ble_eq_true rfl, by simp [rd_cell, rd_uf]⟩, ⟨tyX10, tyX10_ok⟩, nmX10, rfl, .int, tyX10_ok 6 (by decide), rd_ni⟩
theorem rd_g10_7 : rd_GF 10 7 10 RX10 TX10 9 (fun _ k => rd_R (k + 3)) := ⟨rfl, by decide, ru_X10, fun G r f k => ⟨_, rfl, rfl⟩⟩
theorem rd_g10_8 : rd_GF 10 8 10 RX10 TX10 9 (fun _ k => rd_R (k + 4)) := ⟨rfl, by decide, ru_X10, fun G r f k => ⟨_, rfl, rfl⟩⟩
theorem rd_ai11 : rd_AI 11 10 := fun G r f k => rfl
theorem rd_al11 : ∀ (G : rd_G) (r : Nat) (f : Int → Int) (k : Int), ∃ (t : Nat) (a : ClassId) (ty : FieldType) (x : vp_A), rd_cell G r f k 11 = .inl (a, x) ∧ x.1 = 10 ∧ (rd_tys G)[t]? = some (a, ty) := fun G r f k => ⟨0, _, _, _, rfl, rfl, rfl⟩
theorem rd_ai12 : rd_AI 12 6 := fun G r f k => rfl
theorem rd_al12 : ∀ (G : rd_G) (r : Nat) (f : Int → Int) (k : Int), ∃ (t : Nat) (a : ClassId) (ty : FieldType) (x : vp_A), rd_cell G r f k 12 = .inl (a, x) ∧ x.1 = 6 ∧ (rd_tys G)[t]? = some (a, ty) := fun G r f k => ⟨0, _, _, _, rfl, rfl, rfl⟩
theorem rd_ai13 : rd_AI 13 8 := fun G r f k => rfl
theorem rd_al13 : ∀ (G : rd_G) (r : Nat) (f : Int → Int) (k : Int), ∃ (t : Nat) (a : ClassId) (ty : FieldType) (x : vp_A), rd_cell G r f k 13 = .inl (a, x) ∧ x.1 = 8 ∧ (rd_tys G)[t]? = some (a, ty) := fun G r f k => ⟨0, _, _, _, rfl, rfl, rfl⟩
theorem rd_ai14 : rd_AI 14 40 := fun G r f k => rfl
theorem rd_al14 : ∀ (G : rd_G) (r : Nat) (f : Int → Int) (k : Int), ∃ (t : Nat) (a : ClassId) (ty : FieldType) (x : vp_A), rd_cell G r f k 14 = .inl (a, x) ∧ x.1 = 40 ∧ (rd_tys G)[t]? = some (a, ty) := fun G r f k => ⟨0, _, _, _, rfl, rfl, rfl⟩
theorem rd_ai18 : rd_AI 18 2380 := fun G r f k => rfl
theorem rd_al18 : ∀ (G : rd_G) (r : Nat) (f : Int → Int) (k : Int), ∃ (t : Nat) (a : ClassId) (ty : FieldType) (x : vp_A), rd_cell G r f k 18 = .inl (a, x) ∧ x.1 = 2380 ∧ (rd_tys G)[t]? = some (a, ty) := fun G r f k => ⟨0, _, _, _, rfl, rfl, rfl⟩
theorem rd_ai19 : rd_AI 19 60 := fun G r f k => rfl
theorem rd_al19 : ∀ (G : rd_G) (r : Nat) (f : Int → Int) (k : Int), ∃ (t : Nat) (a : ClassId) (ty : FieldType) (x : vp_A), rd_cell G r f k 19 = .inl (a, x) ∧ x.1 = 60 ∧ (rd_tys G)[t]? = some (a, ty) := fun G r f k => ⟨0, _, _, _, rfl, rfl, rfl⟩
theorem rd_ai20 : rd_AI 20 4 := fun G r f k => rfl
theorem rd_al20 : ∀ (G : rd_G) (r : Nat) (f : Int → Int) (k : Int), ∃ (t : Nat) (a : ClassId) (ty : FieldType) (x : vp_A), rd_cell G r f k 20 = .inl (a, x) ∧ x.1 = 4 ∧ (rd_tys G)[t]? = some (a, ty) := fun G r f k => ⟨0, _, _, _, rfl, rfl, rfl⟩
theorem rd_ai21 : rd_AI 21 100 := fun G r f k => rfl
theorem rd_al21 : ∀ (G : rd_G) (r : Nat) (f : Int → Int) (k : Int), ∃ (t : Nat) (a : ClassId) (ty : FieldType) (x : vp_A), rd_cell G r f k 21 = .inl (a, x) ∧ x.1 = 100 ∧ (rd_tys G)[t]? = some (a, ty) := fun G r f k => ⟨0, _, _, _, rfl, rfl, rfl⟩
theorem rd_al15 : ∀ (G : rd_G) (r : Nat) (f : Int → Int) (k : Int), ∃ (t : Nat) (a : ClassId) (ty : FieldType) (x : vp_A), rd_cell G r f k 15 = .inl (a, x) ∧ x.1 = 60 ∧ (rd_tys G)[t]? = some (a, ty) := fun G r f k => ⟨1, _, _, _, rfl, rfl, rfl⟩
theorem rd_al16 : ∀ (G : rd_G) (r : Nat) (f : Int → Int) (k : Int), ∃ (t : Nat) (a : ClassId) (ty : FieldType) (x : vp_A), rd_cell G r f k 16 = .inl (a, x) ∧ x.1 = 10 ∧ (rd_tys G)[t]? = some (a, ty) := fun G r f k => ⟨2, _, _, _, rfl, rfl, rfl⟩
theorem rd_al17 : ∀ (G : rd_G) (r : Nat) (f : Int → Int) (k : Int), ∃ (t : Nat) (a : ClassId) (ty : FieldType) (x : vp_A), rd_cell G r f k 17 = .inl (a, x) ∧ x.1 = 4 ∧ (rd_tys G)[t]? = some (a, ty) := fun G r f k => ⟨3, _, _, _, rfl, rfl, rfl⟩
/-! which cell is what: the class's block of 313, the check's of 5 -/
def rd_kb (p : Int) : Nat := if p = 0 then 8 else if p = 1 then 0 else if p = 2 then 11 else if p = 3 then 16 else if p < 54 then (if (p - 4) % 5 = 0 then 7 else if (p - 4) % 5 = 4 then 11 else 12) else if p = 54 then 3 else if p < 57 then 13 else if p = 57 then 6 else 14
def rd_kc (k : Int) : Nat := if k = 0 then 9 else if k < 62 then rd_kb (k - 1) else if k = 62 then 2 else if k = 63 then 17 else if k < 308 then rd_kb ((k - 64) % 61) else if k = 308 then 5 else if k = 309 then 15 else if k = 310 then 4 else if k = 311 then 1 else 11
def rd_km (k : Int) : Nat := if k = 0 then 10 else if k = 1 then 18 else if k = 2 then 19 else if k = 3 then 20 else 21
def rd_isS (kd : Int → Nat) (N : Nat) (o : Int) : Prop := (0 ≤ o ∧ o < N) ∧ (0 ≤ o + 1 ∧ o + 1 < N) ∧ (0 ≤ o + 2 ∧ o + 2 < N) ∧ (0 ≤ o + 3 ∧ o + 3 < N) ∧ (0 ≤ o + 4 ∧ o + 4 < N) ∧ kd o = 7 ∧ kd (o + 1) = 12 ∧ kd (o + 2) = 12 ∧ kd (o + 3) = 12 ∧ kd (o + 4) = 11
/-- the blocks of the states: 1 is the present one, 64 + 61 t the kept ones -/
def rd_isB (b : Int) : Prop := b = 1 ∨ b = 64 ∨ b = 125 ∨ b = 186 ∨ b = 247
theorem rd_slB {b i : Int} (hb : rd_isB b) (h0 : 0 ≤ i) (h1 : i < 10) : rd_isS rd_kc 313 (b + 4 + 5 * i) := by
  have hi : i = 0 ∨ i = 1 ∨ i = 2 ∨ i = 3 ∨ i = 4 ∨ i = 5 ∨ i = 6 ∨ i = 7 ∨ i = 8 ∨ i = 9 := by omega
  unfold rd_isB at hb
  unfold rd_isS
  refine ⟨⟨by omega, by omega⟩, ⟨by omega, by omega⟩, ⟨by omega, by omega⟩, ⟨by omega, by omega⟩, ⟨by omega, by omega⟩, ?_⟩
  rcases hb with rfl | rfl | rfl | rfl | rfl <;> rcases hi with rfl | rfl | rfl | rfl | rfl | rfl | rfl | rfl | rfl | rfl <;> decide
theorem rd_sl1 {i : Int} (h0 : 0 ≤ i) (h1 : i < 10) : rd_isS rd_kc 313 (5 + 5 * i) := rd_slB (b := 1) (Or.inl rfl) h0 h1
def rd_isT (b : Int) : Prop := (0 ≤ b ∧ b + 60 < ((313 : Nat) : Int)) ∧ rd_kc b = 8 ∧ rd_kc (b + 1) = 0 ∧ rd_kc (b + 2) = 11 ∧ rd_kc (b + 3) = 16 ∧ rd_kc (b + 54) = 3 ∧ rd_kc (b + 55) = 13 ∧ rd_kc (b + 56) = 13 ∧ rd_kc (b + 57) = 6 ∧ rd_kc (b + 58) = 14 ∧ rd_kc (b + 59) = 14 ∧ rd_kc (b + 60) = 14
theorem rd_isB.t {b : Int} (hb : rd_isB b) : rd_isT b := by
  unfold rd_isB at hb; unfold rd_isT
  rcases hb with rfl | rfl | rfl | rfl | rfl <;> decide

theorem rd_b0 : (0 : Int) ≤ 0 ∧ (0 : Int) < ((313 : Nat) : Int) := by decide
theorem rd_k0 : rd_kc 0 = 9 := by decide
theorem rd_b1 : (0 : Int) ≤ 1 ∧ (1 : Int) < ((313 : Nat) : Int) := by decide
theorem rd_k1 : rd_kc 1 = 8 := by decide
theorem rd_b2 : (0 : Int) ≤ 2 ∧ (2 : Int) < ((313 : Nat) : Int) := by decide
theorem rd_k2 : rd_kc 2 = 0 := by decide
theorem rd_b3 : (0 : Int) ≤ 3 ∧ (3 : Int) < ((313 : Nat) : Int) := by decide
theorem rd_k3 : rd_kc 3 = 11 := by decide
theorem rd_b4 : (0 : Int) ≤ 4 ∧ (4 : Int) < ((313 : Nat) : Int) := by decide
theorem rd_k4 : rd_kc 4 = 16 := by decide
theorem rd_b55 : (0 : Int) ≤ 55 ∧ (55 : Int) < ((313 : Nat) : Int) := by decide
theorem rd_k55 : rd_kc 55 = 3 := by decide
theorem rd_b56 : (0 : Int) ≤ 56 ∧ (56 : Int) < ((313 : Nat) : Int) := by decide
theorem rd_k56 : rd_kc 56 = 13 := by decide
theorem rd_b57 : (0 : Int) ≤ 57 ∧ (57 : Int) < ((313 : Nat) : Int) := by decide
theorem rd_k57 : rd_kc 57 = 13 := by decide
theorem rd_b58 : (0 : Int) ≤ 58 ∧ (58 : Int) < ((313 : Nat) : Int) := by decide
theorem rd_k58 : rd_kc 58 = 6 := by decide
theorem rd_b59 : (0 : Int) ≤ 59 ∧ (59 : Int) < ((313 : Nat) : Int) := by decide
theorem rd_k59 : rd_kc 59 = 14 := by decide
theorem rd_b60 : (0 : Int) ≤ 60 ∧ (60 : Int) < ((313 : Nat) : Int) := by decide
theorem rd_k60 : rd_kc 60 = 14 := by decide
theorem rd_b61 : (0 : Int) ≤ 61 ∧ (61 : Int) < ((313 : Nat) : Int) := by decide
theorem rd_k61 : rd_kc 61 = 14 := by decide
theorem rd_b62 : (0 : Int) ≤ 62 ∧ (62 : Int) < ((313 : Nat) : Int) := by decide
theorem rd_k62 : rd_kc 62 = 2 := by decide
theorem rd_b63 : (0 : Int) ≤ 63 ∧ (63 : Int) < ((313 : Nat) : Int) := by decide
theorem rd_k63 : rd_kc 63 = 17 := by decide
theorem rd_b308 : (0 : Int) ≤ 308 ∧ (308 : Int) < ((313 : Nat) : Int) := by decide
theorem rd_k308 : rd_kc 308 = 5 := by decide
theorem rd_b309 : (0 : Int) ≤ 309 ∧ (309 : Int) < ((313 : Nat) : Int) := by decide
theorem rd_k309 : rd_kc 309 = 15 := by decide
theorem rd_b310 : (0 : Int) ≤ 310 ∧ (310 : Int) < ((313 : Nat) : Int) := by decide
theorem rd_k310 : rd_kc 310 = 4 := by decide
theorem rd_b311 : (0 : Int) ≤ 311 ∧ (311 : Int) < ((313 : Nat) : Int) := by decide
theorem rd_k311 : rd_kc 311 = 1 := by decide
theorem rd_b312 : (0 : Int) ≤ 312 ∧ (312 : Int) < ((313 : Nat) : Int) := by decide
theorem rd_k312 : rd_kc 312 = 11 := by decide
theorem rd_c0 : (0 : Int) ≤ 0 ∧ (0 : Int) < ((5 : Nat) : Int) := by decide
theorem rd_m0 : rd_km 0 = 10 := by decide
theorem rd_c1 : (0 : Int) ≤ 1 ∧ (1 : Int) < ((5 : Nat) : Int) := by decide
theorem rd_m1 : rd_km 1 = 18 := by decide
theorem rd_c2 : (0 : Int) ≤ 2 ∧ (2 : Int) < ((5 : Nat) : Int) := by decide
theorem rd_m2 : rd_km 2 = 19 := by decide
theorem rd_c3 : (0 : Int) ≤ 3 ∧ (3 : Int) < ((5 : Nat) : Int) := by decide
theorem rd_m3 : rd_km 3 = 20 := by decide
theorem rd_c4 : (0 : Int) ≤ 4 ∧ (4 : Int) < ((5 : Nat) : Int) := by decide
theorem rd_m4 : rd_km 4 = 21 := by decide
end
section
/-! reading behind writes -/
theorem rd_u_s (μ : rd_Mem) (k j z : Int) : rd_u μ k j z k j = z := by simp [rd_u]
theorem rd_u_j (μ : rd_Mem) (k z : Int) {j b : Int} (h : b ≠ j) : rd_u μ k j z k b = μ k b := by simp [rd_u, h]
theorem rd_u_k (μ : rd_Mem) (j z : Int) {k a b : Int} (h : a ≠ k) : rd_u μ k j z a b = μ a b := by simp [rd_u, h]
theorem rd_cp_k (μ : rd_Mem) (k0 n : Int) {k1 a b : Int} (h : a ≠ k1) : rd_cp μ k1 k0 n a b = μ a b := by simp [rd_cp, h]
theorem rd_cp_s (μ : rd_Mem) {k1 k0 n b : Int} (h : 0 ≤ b ∧ b < n) : rd_cp μ k1 k0 n k1 b = μ k0 b := by simp [rd_cp, h]
section RDX
variable {p : Program} {l : Launch} {e : Env} {R : Room} {s : State} {m : MethodId} {args : Array Value} {below : List Frame} {meth : Method} {c : Code} {Q : State → Prop}
variable {cc : ByteArray} {nl : Nat} {own : String} {ret : Option FieldType} {G : rd_G} {kd : Int → Nat} {N r : Nat}
variable {pc : Nat} {L S : List rd_X} {μ : rd_Mem}
theorem rd_getx (C : rd_Cx p s m args meth c cc nl own ret G) {k0 j ci n idx : Nat} {Cn : String} {T : u_T} {jz k z w : Int} (hg : rd_GF k0 j ci Cn T n (fun f _ => rd_I (f jz))) (hw : (Cond.fieldLink own idx (T j).1 (T j).2.1 (T j).2.2.1) ∈ rd_T) (hd : decode cc pc = .ok (.getfield idx, 3)) (hk : 0 ≤ k ∧ k < N) (hc : kd k = k0) (hw2 : μ k jz = w) (hx : w = z)
    (kk : rd_W p l e R s m args below meth c Q nl G kd N r (pc + 3) L (rd_I z :: S) μ) : rd_W p l e R s m args below meth c Q nl G kd N r pc L (rd_R k :: S) μ := by
  subst hx; subst hw2
  exact rd_get C hg hw hd hk hc rfl (fun h => h _ _) kk
theorem rd_ialdx (C : rd_Cx p s m args meth c cc nl own ret G) {k0 n : Nat} {k i z : Int} (ha : rd_AI k0 n) (hd : decode cc pc = .ok (.iaload, 1)) (hk : 0 ≤ k ∧ k < N) (hc : kd k = k0) (hi : 0 ≤ i ∧ i < n) (hx : μ k i = z)
    (kk : rd_W p l e R s m args below meth c Q nl G kd N r (pc + 1) L (rd_I z :: S) μ) : rd_W p l e R s m args below meth c Q nl G kd N r pc L (rd_I i :: rd_R k :: S) μ := by
  subst hx
  exact rd_iald C ha hd hk hc hi kk
theorem rd_caldx (C : rd_Cx p s m args meth c cc nl own ret G) {k i z : Int} (hd : decode cc pc = .ok (.caload, 1)) (hk : 0 ≤ k ∧ k < N) (hc : kd k = 15) (hi : 0 ≤ i ∧ i < 60) (hx : μ k i = z)
    (kk : rd_W p l e R s m args below meth c Q nl G kd N r (pc + 1) L (rd_I z :: S) μ) : rd_W p l e R s m args below meth c Q nl G kd N r pc L (rd_I i :: rd_R k :: S) μ := by
  subst hx
  exact rd_cald C hd hk hc hi kk
end RDX
theorem rp_X9_init : yX9_init.cls ≠ "java/lang/invoke/MethodHandle" ∧ yX9_init.cls ≠ "java/lang/invoke/VarHandle" ∧ (parseMethodDescriptor yX9_init.desc).map (fun d => d.parameters.length) = some 0 := by decide +kernel
theorem rp_X8_init : yX8_init.cls ≠ "java/lang/invoke/MethodHandle" ∧ yX8_init.cls ≠ "java/lang/invoke/VarHandle" ∧ (parseMethodDescriptor yX8_init.desc).map (fun d => d.parameters.length) = some 0 := by decide +kernel
theorem rp_X0_init : yX0_init.cls ≠ "java/lang/invoke/MethodHandle" ∧ yX0_init.cls ≠ "java/lang/invoke/VarHandle" ∧ (parseMethodDescriptor yX0_init.desc).map (fun d => d.parameters.length) = some 0 := by decide +kernel
theorem rp_X7_init : yX7_init.cls ≠ "java/lang/invoke/MethodHandle" ∧ yX7_init.cls ≠ "java/lang/invoke/VarHandle" ∧ (parseMethodDescriptor yX7_init.desc).map (fun d => d.parameters.length) = some 0 := by decide +kernel
theorem rp_X7_clear : yX7_clear.cls ≠ "java/lang/invoke/MethodHandle" ∧ yX7_clear.cls ≠ "java/lang/invoke/VarHandle" ∧ (parseMethodDescriptor yX7_clear.desc).map (fun d => d.parameters.length) = some 0 := by decide +kernel
theorem rp_X3_init : yX3_init.cls ≠ "java/lang/invoke/MethodHandle" ∧ yX3_init.cls ≠ "java/lang/invoke/VarHandle" ∧ (parseMethodDescriptor yX3_init.desc).map (fun d => d.parameters.length) = some 0 := by decide +kernel
theorem rp_X6_init : yX6_init.cls ≠ "java/lang/invoke/MethodHandle" ∧ yX6_init.cls ≠ "java/lang/invoke/VarHandle" ∧ (parseMethodDescriptor yX6_init.desc).map (fun d => d.parameters.length) = some 0 := by decide +kernel
theorem rp_X2_init : yX2_init.cls ≠ "java/lang/invoke/MethodHandle" ∧ yX2_init.cls ≠ "java/lang/invoke/VarHandle" ∧ (parseMethodDescriptor yX2_init.desc).map (fun d => d.parameters.length) = some 0 := by decide +kernel
theorem rp_X5_init : yX5_init.cls ≠ "java/lang/invoke/MethodHandle" ∧ yX5_init.cls ≠ "java/lang/invoke/VarHandle" ∧ (parseMethodDescriptor yX5_init.desc).map (fun d => d.parameters.length) = some 0 := by decide +kernel
theorem rp_X4_init : yX4_init.cls ≠ "java/lang/invoke/MethodHandle" ∧ yX4_init.cls ≠ "java/lang/invoke/VarHandle" ∧ (parseMethodDescriptor yX4_init.desc).map (fun d => d.parameters.length) = some 0 := by decide +kernel
theorem rp_X1_init : yX1_init.cls ≠ "java/lang/invoke/MethodHandle" ∧ yX1_init.cls ≠ "java/lang/invoke/VarHandle" ∧ (parseMethodDescriptor yX1_init.desc).map (fun d => d.parameters.length) = some 0 := by decide +kernel
theorem rp_X9_addSlide : yX9_addSlide.cls ≠ "java/lang/invoke/MethodHandle" ∧ yX9_addSlide.cls ≠ "java/lang/invoke/VarHandle" ∧ (parseMethodDescriptor yX9_addSlide.desc).map (fun d => d.parameters.length) = some 0 := by decide +kernel
theorem rp_X0_lowestFree : yX0_lowestFree.cls ≠ "java/lang/invoke/MethodHandle" ∧ yX0_lowestFree.cls ≠ "java/lang/invoke/VarHandle" ∧ (parseMethodDescriptor yX0_lowestFree.desc).map (fun d => d.parameters.length) = some 0 := by decide +kernel
theorem rp_X2_keep : yX2_keep.cls ≠ "java/lang/invoke/MethodHandle" ∧ yX2_keep.cls ≠ "java/lang/invoke/VarHandle" ∧ (parseMethodDescriptor yX2_keep.desc).map (fun d => d.parameters.length) = some 1 := by decide +kernel
theorem rp_X2_dropOldest : yX2_dropOldest.cls ≠ "java/lang/invoke/MethodHandle" ∧ yX2_dropOldest.cls ≠ "java/lang/invoke/VarHandle" ∧ (parseMethodDescriptor yX2_dropOldest.desc).map (fun d => d.parameters.length) = some 0 := by decide +kernel
theorem rp_X8_copyFrom : yX8_copyFrom.cls ≠ "java/lang/invoke/MethodHandle" ∧ yX8_copyFrom.cls ≠ "java/lang/invoke/VarHandle" ∧ (parseMethodDescriptor yX8_copyFrom.desc).map (fun d => d.parameters.length) = some 1 := by decide +kernel
theorem rp_X0_copyFrom : yX0_copyFrom.cls ≠ "java/lang/invoke/MethodHandle" ∧ yX0_copyFrom.cls ≠ "java/lang/invoke/VarHandle" ∧ (parseMethodDescriptor yX0_copyFrom.desc).map (fun d => d.parameters.length) = some 1 := by decide +kernel
theorem rp_X7_copyFrom : yX7_copyFrom.cls ≠ "java/lang/invoke/MethodHandle" ∧ yX7_copyFrom.cls ≠ "java/lang/invoke/VarHandle" ∧ (parseMethodDescriptor yX7_copyFrom.desc).map (fun d => d.parameters.length) = some 1 := by decide +kernel
theorem rp_X3_copyFrom : yX3_copyFrom.cls ≠ "java/lang/invoke/MethodHandle" ∧ yX3_copyFrom.cls ≠ "java/lang/invoke/VarHandle" ∧ (parseMethodDescriptor yX3_copyFrom.desc).map (fun d => d.parameters.length) = some 1 := by decide +kernel
theorem rp_X6_copyFrom : yX6_copyFrom.cls ≠ "java/lang/invoke/MethodHandle" ∧ yX6_copyFrom.cls ≠ "java/lang/invoke/VarHandle" ∧ (parseMethodDescriptor yX6_copyFrom.desc).map (fun d => d.parameters.length) = some 1 := by decide +kernel
theorem rp_X0_putSlide : yX0_putSlide.cls ≠ "java/lang/invoke/MethodHandle" ∧ yX0_putSlide.cls ≠ "java/lang/invoke/VarHandle" ∧ (parseMethodDescriptor yX0_putSlide.desc).map (fun d => d.parameters.length) = some 1 := by decide +kernel
theorem rp_X9_isWithin : yX9_isWithin.cls ≠ "java/lang/invoke/MethodHandle" ∧ yX9_isWithin.cls ≠ "java/lang/invoke/VarHandle" ∧ (parseMethodDescriptor yX9_isWithin.desc).map (fun d => d.parameters.length) = some 3 := by decide +kernel
theorem rp_X0_putInOrder : yX0_putInOrder.cls ≠ "java/lang/invoke/MethodHandle" ∧ yX0_putInOrder.cls ≠ "java/lang/invoke/VarHandle" ∧ (parseMethodDescriptor yX0_putInOrder.desc).map (fun d => d.parameters.length) = some 2 := by decide +kernel
theorem rp_X9_removeSlide : yX9_removeSlide.cls ≠ "java/lang/invoke/MethodHandle" ∧ yX9_removeSlide.cls ≠ "java/lang/invoke/VarHandle" ∧ (parseMethodDescriptor yX9_removeSlide.desc).map (fun d => d.parameters.length) = some 1 := by decide +kernel
theorem rp_X0_find : yX0_find.cls ≠ "java/lang/invoke/MethodHandle" ∧ yX0_find.cls ≠ "java/lang/invoke/VarHandle" ∧ (parseMethodDescriptor yX0_find.desc).map (fun d => d.parameters.length) = some 1 := by decide +kernel
theorem rp_X0_dropSlide : yX0_dropSlide.cls ≠ "java/lang/invoke/MethodHandle" ∧ yX0_dropSlide.cls ≠ "java/lang/invoke/VarHandle" ∧ (parseMethodDescriptor yX0_dropSlide.desc).map (fun d => d.parameters.length) = some 1 := by decide +kernel
theorem rp_X0_dropFromOrder : yX0_dropFromOrder.cls ≠ "java/lang/invoke/MethodHandle" ∧ yX0_dropFromOrder.cls ≠ "java/lang/invoke/VarHandle" ∧ (parseMethodDescriptor yX0_dropFromOrder.desc).map (fun d => d.parameters.length) = some 1 := by decide +kernel
theorem rp_X0_placeOf : yX0_placeOf.cls ≠ "java/lang/invoke/MethodHandle" ∧ yX0_placeOf.cls ≠ "java/lang/invoke/VarHandle" ∧ (parseMethodDescriptor yX0_placeOf.desc).map (fun d => d.parameters.length) = some 1 := by decide +kernel
theorem rp_X7_dropLinksTo : yX7_dropLinksTo.cls ≠ "java/lang/invoke/MethodHandle" ∧ yX7_dropLinksTo.cls ≠ "java/lang/invoke/VarHandle" ∧ (parseMethodDescriptor yX7_dropLinksTo.desc).map (fun d => d.parameters.length) = some 1 := by decide +kernel
theorem rp_X9_moveSlide : yX9_moveSlide.cls ≠ "java/lang/invoke/MethodHandle" ∧ yX9_moveSlide.cls ≠ "java/lang/invoke/VarHandle" ∧ (parseMethodDescriptor yX9_moveSlide.desc).map (fun d => d.parameters.length) = some 2 := by decide +kernel
theorem rp_X9_hide : yX9_hide.cls ≠ "java/lang/invoke/MethodHandle" ∧ yX9_hide.cls ≠ "java/lang/invoke/VarHandle" ∧ (parseMethodDescriptor yX9_hide.desc).map (fun d => d.parameters.length) = some 2 := by decide +kernel
theorem rp_X0_countHidden : yX0_countHidden.cls ≠ "java/lang/invoke/MethodHandle" ∧ yX0_countHidden.cls ≠ "java/lang/invoke/VarHandle" ∧ (parseMethodDescriptor yX0_countHidden.desc).map (fun d => d.parameters.length) = some 0 := by decide +kernel
theorem rp_X9_setPause : yX9_setPause.cls ≠ "java/lang/invoke/MethodHandle" ∧ yX9_setPause.cls ≠ "java/lang/invoke/VarHandle" ∧ (parseMethodDescriptor yX9_setPause.desc).map (fun d => d.parameters.length) = some 2 := by decide +kernel
theorem rp_X9_addItem : yX9_addItem.cls ≠ "java/lang/invoke/MethodHandle" ∧ yX9_addItem.cls ≠ "java/lang/invoke/VarHandle" ∧ (parseMethodDescriptor yX9_addItem.desc).map (fun d => d.parameters.length) = some 4 := by decide +kernel
theorem rp_X7_putItem : yX7_putItem.cls ≠ "java/lang/invoke/MethodHandle" ∧ yX7_putItem.cls ≠ "java/lang/invoke/VarHandle" ∧ (parseMethodDescriptor yX7_putItem.desc).map (fun d => d.parameters.length) = some 3 := by decide +kernel
theorem rp_X9_removeItem : yX9_removeItem.cls ≠ "java/lang/invoke/MethodHandle" ∧ yX9_removeItem.cls ≠ "java/lang/invoke/VarHandle" ∧ (parseMethodDescriptor yX9_removeItem.desc).map (fun d => d.parameters.length) = some 2 := by decide +kernel
theorem rp_X7_dropItem : yX7_dropItem.cls ≠ "java/lang/invoke/MethodHandle" ∧ yX7_dropItem.cls ≠ "java/lang/invoke/VarHandle" ∧ (parseMethodDescriptor yX7_dropItem.desc).map (fun d => d.parameters.length) = some 1 := by decide +kernel
theorem rp_X8_clampStep : yX8_clampStep.cls ≠ "java/lang/invoke/MethodHandle" ∧ yX8_clampStep.cls ≠ "java/lang/invoke/VarHandle" ∧ (parseMethodDescriptor yX8_clampStep.desc).map (fun d => d.parameters.length) = some 0 := by decide +kernel
theorem rp_X8_here : yX8_here.cls ≠ "java/lang/invoke/MethodHandle" ∧ yX8_here.cls ≠ "java/lang/invoke/VarHandle" ∧ (parseMethodDescriptor yX8_here.desc).map (fun d => d.parameters.length) = some 0 := by decide +kernel
theorem rp_X7_finalStep : yX7_finalStep.cls ≠ "java/lang/invoke/MethodHandle" ∧ yX7_finalStep.cls ≠ "java/lang/invoke/VarHandle" ∧ (parseMethodDescriptor yX7_finalStep.desc).map (fun d => d.parameters.length) = some 0 := by decide +kernel
theorem rp_X9_link : yX9_link.cls ≠ "java/lang/invoke/MethodHandle" ∧ yX9_link.cls ≠ "java/lang/invoke/VarHandle" ∧ (parseMethodDescriptor yX9_link.desc).map (fun d => d.parameters.length) = some 3 := by decide +kernel
theorem rp_X7_targetOf : yX7_targetOf.cls ≠ "java/lang/invoke/MethodHandle" ∧ yX7_targetOf.cls ≠ "java/lang/invoke/VarHandle" ∧ (parseMethodDescriptor yX7_targetOf.desc).map (fun d => d.parameters.length) = some 1 := by decide +kernel
theorem rp_X7_countLinks : yX7_countLinks.cls ≠ "java/lang/invoke/MethodHandle" ∧ yX7_countLinks.cls ≠ "java/lang/invoke/VarHandle" ∧ (parseMethodDescriptor yX7_countLinks.desc).map (fun d => d.parameters.length) = some 0 := by decide +kernel
theorem rp_X7_setTarget : yX7_setTarget.cls ≠ "java/lang/invoke/MethodHandle" ∧ yX7_setTarget.cls ≠ "java/lang/invoke/VarHandle" ∧ (parseMethodDescriptor yX7_setTarget.desc).map (fun d => d.parameters.length) = some 2 := by decide +kernel
theorem rp_X9_unlink : yX9_unlink.cls ≠ "java/lang/invoke/MethodHandle" ∧ yX9_unlink.cls ≠ "java/lang/invoke/VarHandle" ∧ (parseMethodDescriptor yX9_unlink.desc).map (fun d => d.parameters.length) = some 2 := by decide +kernel
theorem rp_X9_note : yX9_note.cls ≠ "java/lang/invoke/MethodHandle" ∧ yX9_note.cls ≠ "java/lang/invoke/VarHandle" ∧ (parseMethodDescriptor yX9_note.desc).map (fun d => d.parameters.length) = some 2 := by decide +kernel
theorem rp_X3_placeOf : yX3_placeOf.cls ≠ "java/lang/invoke/MethodHandle" ∧ yX3_placeOf.cls ≠ "java/lang/invoke/VarHandle" ∧ (parseMethodDescriptor yX3_placeOf.desc).map (fun d => d.parameters.length) = some 1 := by decide +kernel
theorem rp_X3_dropAt : yX3_dropAt.cls ≠ "java/lang/invoke/MethodHandle" ∧ yX3_dropAt.cls ≠ "java/lang/invoke/VarHandle" ∧ (parseMethodDescriptor yX3_dropAt.desc).map (fun d => d.parameters.length) = some 1 := by decide +kernel
theorem rp_X3_putAt : yX3_putAt.cls ≠ "java/lang/invoke/MethodHandle" ∧ yX3_putAt.cls ≠ "java/lang/invoke/VarHandle" ∧ (parseMethodDescriptor yX3_putAt.desc).map (fun d => d.parameters.length) = some 3 := by decide +kernel
theorem rp_X9_setEnd : yX9_setEnd.cls ≠ "java/lang/invoke/MethodHandle" ∧ yX9_setEnd.cls ≠ "java/lang/invoke/VarHandle" ∧ (parseMethodDescriptor yX9_setEnd.desc).map (fun d => d.parameters.length) = some 1 := by decide +kernel
theorem rp_X9_start : yX9_start.cls ≠ "java/lang/invoke/MethodHandle" ∧ yX9_start.cls ≠ "java/lang/invoke/VarHandle" ∧ (parseMethodDescriptor yX9_start.desc).map (fun d => d.parameters.length) = some 0 := by decide +kernel
theorem rp_X0_nextShown : yX0_nextShown.cls ≠ "java/lang/invoke/MethodHandle" ∧ yX0_nextShown.cls ≠ "java/lang/invoke/VarHandle" ∧ (parseMethodDescriptor yX0_nextShown.desc).map (fun d => d.parameters.length) = some 1 := by decide +kernel
theorem rp_X0_numberAt : yX0_numberAt.cls ≠ "java/lang/invoke/MethodHandle" ∧ yX0_numberAt.cls ≠ "java/lang/invoke/VarHandle" ∧ (parseMethodDescriptor yX0_numberAt.desc).map (fun d => d.parameters.length) = some 1 := by decide +kernel
theorem rp_X6_begin : yX6_begin.cls ≠ "java/lang/invoke/MethodHandle" ∧ yX6_begin.cls ≠ "java/lang/invoke/VarHandle" ∧ (parseMethodDescriptor yX6_begin.desc).map (fun d => d.parameters.length) = some 1 := by decide +kernel
theorem rp_X6_clear : yX6_clear.cls ≠ "java/lang/invoke/MethodHandle" ∧ yX6_clear.cls ≠ "java/lang/invoke/VarHandle" ∧ (parseMethodDescriptor yX6_clear.desc).map (fun d => d.parameters.length) = some 0 := by decide +kernel
theorem rp_X9_stop : yX9_stop.cls ≠ "java/lang/invoke/MethodHandle" ∧ yX9_stop.cls ≠ "java/lang/invoke/VarHandle" ∧ (parseMethodDescriptor yX9_stop.desc).map (fun d => d.parameters.length) = some 0 := by decide +kernel
theorem rp_X9_forward : yX9_forward.cls ≠ "java/lang/invoke/MethodHandle" ∧ yX9_forward.cls ≠ "java/lang/invoke/VarHandle" ∧ (parseMethodDescriptor yX9_forward.desc).map (fun d => d.parameters.length) = some 0 := by decide +kernel
theorem rp_X8_canMake : yX8_canMake.cls ≠ "java/lang/invoke/MethodHandle" ∧ yX8_canMake.cls ≠ "java/lang/invoke/VarHandle" ∧ (parseMethodDescriptor yX8_canMake.desc).map (fun d => d.parameters.length) = some 2 := by decide +kernel
theorem rp_X8_isOver : yX8_isOver.cls ≠ "java/lang/invoke/MethodHandle" ∧ yX8_isOver.cls ≠ "java/lang/invoke/VarHandle" ∧ (parseMethodDescriptor yX8_isOver.desc).map (fun d => d.parameters.length) = some 0 := by decide +kernel
theorem rp_X8_nextNumber : yX8_nextNumber.cls ≠ "java/lang/invoke/MethodHandle" ∧ yX8_nextNumber.cls ≠ "java/lang/invoke/VarHandle" ∧ (parseMethodDescriptor yX8_nextNumber.desc).map (fun d => d.parameters.length) = some 0 := by decide +kernel
theorem rp_X8_backPlace : yX8_backPlace.cls ≠ "java/lang/invoke/MethodHandle" ∧ yX8_backPlace.cls ≠ "java/lang/invoke/VarHandle" ∧ (parseMethodDescriptor yX8_backPlace.desc).map (fun d => d.parameters.length) = some 0 := by decide +kernel
theorem rp_X6_trailValue : yX6_trailValue.cls ≠ "java/lang/invoke/MethodHandle" ∧ yX6_trailValue.cls ≠ "java/lang/invoke/VarHandle" ∧ (parseMethodDescriptor yX6_trailValue.desc).map (fun d => d.parameters.length) = some 2 := by decide +kernel
theorem rp_X8_make : yX8_make.cls ≠ "java/lang/invoke/MethodHandle" ∧ yX8_make.cls ≠ "java/lang/invoke/VarHandle" ∧ (parseMethodDescriptor yX8_make.desc).map (fun d => d.parameters.length) = some 2 := by decide +kernel
theorem rp_X8_goForward : yX8_goForward.cls ≠ "java/lang/invoke/MethodHandle" ∧ yX8_goForward.cls ≠ "java/lang/invoke/VarHandle" ∧ (parseMethodDescriptor yX8_goForward.desc).map (fun d => d.parameters.length) = some 0 := by decide +kernel
theorem rp_X6_moveTo : yX6_moveTo.cls ≠ "java/lang/invoke/MethodHandle" ∧ yX6_moveTo.cls ≠ "java/lang/invoke/VarHandle" ∧ (parseMethodDescriptor yX6_moveTo.desc).map (fun d => d.parameters.length) = some 3 := by decide +kernel
theorem rp_X6_dropOldest : yX6_dropOldest.cls ≠ "java/lang/invoke/MethodHandle" ∧ yX6_dropOldest.cls ≠ "java/lang/invoke/VarHandle" ∧ (parseMethodDescriptor yX6_dropOldest.desc).map (fun d => d.parameters.length) = some 0 := by decide +kernel
theorem rp_X8_goBack : yX8_goBack.cls ≠ "java/lang/invoke/MethodHandle" ∧ yX8_goBack.cls ≠ "java/lang/invoke/VarHandle" ∧ (parseMethodDescriptor yX8_goBack.desc).map (fun d => d.parameters.length) = some 0 := by decide +kernel
theorem rp_X6_returnTo : yX6_returnTo.cls ≠ "java/lang/invoke/MethodHandle" ∧ yX6_returnTo.cls ≠ "java/lang/invoke/VarHandle" ∧ (parseMethodDescriptor yX6_returnTo.desc).map (fun d => d.parameters.length) = some 1 := by decide +kernel
theorem rp_X8_goByKey : yX8_goByKey.cls ≠ "java/lang/invoke/MethodHandle" ∧ yX8_goByKey.cls ≠ "java/lang/invoke/VarHandle" ∧ (parseMethodDescriptor yX8_goByKey.desc).map (fun d => d.parameters.length) = some 1 := by decide +kernel
theorem rp_X8_passSeconds : yX8_passSeconds.cls ≠ "java/lang/invoke/MethodHandle" ∧ yX8_passSeconds.cls ≠ "java/lang/invoke/VarHandle" ∧ (parseMethodDescriptor yX8_passSeconds.desc).map (fun d => d.parameters.length) = some 1 := by decide +kernel
theorem rp_X8_isPauseOver : yX8_isPauseOver.cls ≠ "java/lang/invoke/MethodHandle" ∧ yX8_isPauseOver.cls ≠ "java/lang/invoke/VarHandle" ∧ (parseMethodDescriptor yX8_isPauseOver.desc).map (fun d => d.parameters.length) = some 0 := by decide +kernel
theorem rp_X9_back : yX9_back.cls ≠ "java/lang/invoke/MethodHandle" ∧ yX9_back.cls ≠ "java/lang/invoke/VarHandle" ∧ (parseMethodDescriptor yX9_back.desc).map (fun d => d.parameters.length) = some 0 := by decide +kernel
theorem rp_X9_press : yX9_press.cls ≠ "java/lang/invoke/MethodHandle" ∧ yX9_press.cls ≠ "java/lang/invoke/VarHandle" ∧ (parseMethodDescriptor yX9_press.desc).map (fun d => d.parameters.length) = some 1 := by decide +kernel
theorem rp_X9_tick : yX9_tick.cls ≠ "java/lang/invoke/MethodHandle" ∧ yX9_tick.cls ≠ "java/lang/invoke/VarHandle" ∧ (parseMethodDescriptor yX9_tick.desc).map (fun d => d.parameters.length) = some 1 := by decide +kernel
theorem rp_X9_append : yX9_append.cls ≠ "java/lang/invoke/MethodHandle" ∧ yX9_append.cls ≠ "java/lang/invoke/VarHandle" ∧ (parseMethodDescriptor yX9_append.desc).map (fun d => d.parameters.length) = some 1 := by decide +kernel
theorem rp_X5_addSign : yX5_addSign.cls ≠ "java/lang/invoke/MethodHandle" ∧ yX5_addSign.cls ≠ "java/lang/invoke/VarHandle" ∧ (parseMethodDescriptor yX5_addSign.desc).map (fun d => d.parameters.length) = some 1 := by decide +kernel
theorem rp_X9_clearText : yX9_clearText.cls ≠ "java/lang/invoke/MethodHandle" ∧ yX9_clearText.cls ≠ "java/lang/invoke/VarHandle" ∧ (parseMethodDescriptor yX9_clearText.desc).map (fun d => d.parameters.length) = some 0 := by decide +kernel
theorem rp_X9_fault : yX9_fault.cls ≠ "java/lang/invoke/MethodHandle" ∧ yX9_fault.cls ≠ "java/lang/invoke/VarHandle" ∧ (parseMethodDescriptor yX9_fault.desc).map (fun d => d.parameters.length) = some 0 := by decide +kernel
theorem rp_X5_findFault : yX5_findFault.cls ≠ "java/lang/invoke/MethodHandle" ∧ yX5_findFault.cls ≠ "java/lang/invoke/VarHandle" ∧ (parseMethodDescriptor yX5_findFault.desc).map (fun d => d.parameters.length) = some 0 := by decide +kernel
theorem rp_X5_signAt : yX5_signAt.cls ≠ "java/lang/invoke/MethodHandle" ∧ yX5_signAt.cls ≠ "java/lang/invoke/VarHandle" ∧ (parseMethodDescriptor yX5_signAt.desc).map (fun d => d.parameters.length) = some 1 := by decide +kernel
theorem rp_X5_expectedBehind : yX5_expectedBehind.cls ≠ "java/lang/invoke/MethodHandle" ∧ yX5_expectedBehind.cls ≠ "java/lang/invoke/VarHandle" ∧ (parseMethodDescriptor yX5_expectedBehind.desc).map (fun d => d.parameters.length) = some 2 := by decide +kernel
theorem rp_X5_expectedBehindLetter : yX5_expectedBehindLetter.cls ≠ "java/lang/invoke/MethodHandle" ∧ yX5_expectedBehindLetter.cls ≠ "java/lang/invoke/VarHandle" ∧ (parseMethodDescriptor yX5_expectedBehindLetter.desc).map (fun d => d.parameters.length) = some 1 := by decide +kernel
theorem rp_X5_isDigit : yX5_isDigit.cls ≠ "java/lang/invoke/MethodHandle" ∧ yX5_isDigit.cls ≠ "java/lang/invoke/VarHandle" ∧ (parseMethodDescriptor yX5_isDigit.desc).map (fun d => d.parameters.length) = some 1 := by decide +kernel
theorem rp_X5_expectedBehindMove : yX5_expectedBehindMove.cls ≠ "java/lang/invoke/MethodHandle" ∧ yX5_expectedBehindMove.cls ≠ "java/lang/invoke/VarHandle" ∧ (parseMethodDescriptor yX5_expectedBehindMove.desc).map (fun d => d.parameters.length) = some 1 := by decide +kernel
theorem rp_X9_run : yX9_run.cls ≠ "java/lang/invoke/MethodHandle" ∧ yX9_run.cls ≠ "java/lang/invoke/VarHandle" ∧ (parseMethodDescriptor yX9_run.desc).map (fun d => d.parameters.length) = some 0 := by decide +kernel
theorem rp_X4_clear : yX4_clear.cls ≠ "java/lang/invoke/MethodHandle" ∧ yX4_clear.cls ≠ "java/lang/invoke/VarHandle" ∧ (parseMethodDescriptor yX4_clear.desc).map (fun d => d.parameters.length) = some 0 := by decide +kernel
theorem rp_X5_isMove : yX5_isMove.cls ≠ "java/lang/invoke/MethodHandle" ∧ yX5_isMove.cls ≠ "java/lang/invoke/VarHandle" ∧ (parseMethodDescriptor yX5_isMove.desc).map (fun d => d.parameters.length) = some 1 := by decide +kernel
theorem rp_X5_numberBehind : yX5_numberBehind.cls ≠ "java/lang/invoke/MethodHandle" ∧ yX5_numberBehind.cls ≠ "java/lang/invoke/VarHandle" ∧ (parseMethodDescriptor yX5_numberBehind.desc).map (fun d => d.parameters.length) = some 1 := by decide +kernel
theorem rp_X4_tell : yX4_tell.cls ≠ "java/lang/invoke/MethodHandle" ∧ yX4_tell.cls ≠ "java/lang/invoke/VarHandle" ∧ (parseMethodDescriptor yX4_tell.desc).map (fun d => d.parameters.length) = some 3 := by decide +kernel
theorem rp_X9_why : yX9_why.cls ≠ "java/lang/invoke/MethodHandle" ∧ yX9_why.cls ≠ "java/lang/invoke/VarHandle" ∧ (parseMethodDescriptor yX9_why.desc).map (fun d => d.parameters.length) = some 1 := by decide +kernel
theorem rp_X9_undo : yX9_undo.cls ≠ "java/lang/invoke/MethodHandle" ∧ yX9_undo.cls ≠ "java/lang/invoke/VarHandle" ∧ (parseMethodDescriptor yX9_undo.desc).map (fun d => d.parameters.length) = some 0 := by decide +kernel
theorem rp_X2_restore : yX2_restore.cls ≠ "java/lang/invoke/MethodHandle" ∧ yX2_restore.cls ≠ "java/lang/invoke/VarHandle" ∧ (parseMethodDescriptor yX2_restore.desc).map (fun d => d.parameters.length) = some 1 := by decide +kernel
theorem rp_X9_slides : yX9_slides.cls ≠ "java/lang/invoke/MethodHandle" ∧ yX9_slides.cls ≠ "java/lang/invoke/VarHandle" ∧ (parseMethodDescriptor yX9_slides.desc).map (fun d => d.parameters.length) = some 0 := by decide +kernel
theorem rp_X9_slideAt : yX9_slideAt.cls ≠ "java/lang/invoke/MethodHandle" ∧ yX9_slideAt.cls ≠ "java/lang/invoke/VarHandle" ∧ (parseMethodDescriptor yX9_slideAt.desc).map (fun d => d.parameters.length) = some 1 := by decide +kernel
theorem rp_X9_slide : yX9_slide.cls ≠ "java/lang/invoke/MethodHandle" ∧ yX9_slide.cls ≠ "java/lang/invoke/VarHandle" ∧ (parseMethodDescriptor yX9_slide.desc).map (fun d => d.parameters.length) = some 2 := by decide +kernel
theorem rp_X9_asNumber : yX9_asNumber.cls ≠ "java/lang/invoke/MethodHandle" ∧ yX9_asNumber.cls ≠ "java/lang/invoke/VarHandle" ∧ (parseMethodDescriptor yX9_asNumber.desc).map (fun d => d.parameters.length) = some 1 := by decide +kernel
theorem rp_X9_item : yX9_item.cls ≠ "java/lang/invoke/MethodHandle" ∧ yX9_item.cls ≠ "java/lang/invoke/VarHandle" ∧ (parseMethodDescriptor yX9_item.desc).map (fun d => d.parameters.length) = some 3 := by decide +kernel
theorem rp_X9_target : yX9_target.cls ≠ "java/lang/invoke/MethodHandle" ∧ yX9_target.cls ≠ "java/lang/invoke/VarHandle" ∧ (parseMethodDescriptor yX9_target.desc).map (fun d => d.parameters.length) = some 2 := by decide +kernel
theorem rp_X9_picture : yX9_picture.cls ≠ "java/lang/invoke/MethodHandle" ∧ yX9_picture.cls ≠ "java/lang/invoke/VarHandle" ∧ (parseMethodDescriptor yX9_picture.desc).map (fun d => d.parameters.length) = some 2 := by decide +kernel
theorem rp_X7_maskAt : yX7_maskAt.cls ≠ "java/lang/invoke/MethodHandle" ∧ yX7_maskAt.cls ≠ "java/lang/invoke/VarHandle" ∧ (parseMethodDescriptor yX7_maskAt.desc).map (fun d => d.parameters.length) = some 1 := by decide +kernel
theorem rp_X7_isSeen : yX7_isSeen.cls ≠ "java/lang/invoke/MethodHandle" ∧ yX7_isSeen.cls ≠ "java/lang/invoke/VarHandle" ∧ (parseMethodDescriptor yX7_isSeen.desc).map (fun d => d.parameters.length) = some 2 := by decide +kernel
theorem rp_X9_now : yX9_now.cls ≠ "java/lang/invoke/MethodHandle" ∧ yX9_now.cls ≠ "java/lang/invoke/VarHandle" ∧ (parseMethodDescriptor yX9_now.desc).map (fun d => d.parameters.length) = some 1 := by decide +kernel
theorem rp_X9_trail : yX9_trail.cls ≠ "java/lang/invoke/MethodHandle" ∧ yX9_trail.cls ≠ "java/lang/invoke/VarHandle" ∧ (parseMethodDescriptor yX9_trail.desc).map (fun d => d.parameters.length) = some 2 := by decide +kernel
theorem rp_X9_labels : yX9_labels.cls ≠ "java/lang/invoke/MethodHandle" ∧ yX9_labels.cls ≠ "java/lang/invoke/VarHandle" ∧ (parseMethodDescriptor yX9_labels.desc).map (fun d => d.parameters.length) = some 0 := by decide +kernel
theorem rp_X7_sumTagsAt : yX7_sumTagsAt.cls ≠ "java/lang/invoke/MethodHandle" ∧ yX7_sumTagsAt.cls ≠ "java/lang/invoke/VarHandle" ∧ (parseMethodDescriptor yX7_sumTagsAt.desc).map (fun d => d.parameters.length) = some 1 := by decide +kernel
theorem rp_X9_noteNow : yX9_noteNow.cls ≠ "java/lang/invoke/MethodHandle" ∧ yX9_noteNow.cls ≠ "java/lang/invoke/VarHandle" ∧ (parseMethodDescriptor yX9_noteNow.desc).map (fun d => d.parameters.length) = some 0 := by decide +kernel
theorem rp_X3_latestAt : yX3_latestAt.cls ≠ "java/lang/invoke/MethodHandle" ∧ yX3_latestAt.cls ≠ "java/lang/invoke/VarHandle" ∧ (parseMethodDescriptor yX3_latestAt.desc).map (fun d => d.parameters.length) = some 1 := by decide +kernel
theorem rp_X9_end : yX9_end.cls ≠ "java/lang/invoke/MethodHandle" ∧ yX9_end.cls ≠ "java/lang/invoke/VarHandle" ∧ (parseMethodDescriptor yX9_end.desc).map (fun d => d.parameters.length) = some 0 := by decide +kernel
theorem rp_X9_meanSteps : yX9_meanSteps.cls ≠ "java/lang/invoke/MethodHandle" ∧ yX9_meanSteps.cls ≠ "java/lang/invoke/VarHandle" ∧ (parseMethodDescriptor yX9_meanSteps.desc).map (fun d => d.parameters.length) = some 0 := by decide +kernel
theorem rp_X0_sumSteps : yX0_sumSteps.cls ≠ "java/lang/invoke/MethodHandle" ∧ yX0_sumSteps.cls ≠ "java/lang/invoke/VarHandle" ∧ (parseMethodDescriptor yX0_sumSteps.desc).map (fun d => d.parameters.length) = some 0 := by decide +kernel
theorem rp_X9_movesLeft : yX9_movesLeft.cls ≠ "java/lang/invoke/MethodHandle" ∧ yX9_movesLeft.cls ≠ "java/lang/invoke/VarHandle" ∧ (parseMethodDescriptor yX9_movesLeft.desc).map (fun d => d.parameters.length) = some 0 := by decide +kernel
theorem rp_X1_countMoves : yX1_countMoves.cls ≠ "java/lang/invoke/MethodHandle" ∧ yX1_countMoves.cls ≠ "java/lang/invoke/VarHandle" ∧ (parseMethodDescriptor yX1_countMoves.desc).map (fun d => d.parameters.length) = some 1 := by decide +kernel
theorem rp_X1_movesOn : yX1_movesOn.cls ≠ "java/lang/invoke/MethodHandle" ∧ yX1_movesOn.cls ≠ "java/lang/invoke/VarHandle" ∧ (parseMethodDescriptor yX1_movesOn.desc).map (fun d => d.parameters.length) = some 2 := by decide +kernel
theorem rp_X9_fewest : yX9_fewest.cls ≠ "java/lang/invoke/MethodHandle" ∧ yX9_fewest.cls ≠ "java/lang/invoke/VarHandle" ∧ (parseMethodDescriptor yX9_fewest.desc).map (fun d => d.parameters.length) = some 1 := by decide +kernel
theorem rp_X1_leastMoves : yX1_leastMoves.cls ≠ "java/lang/invoke/MethodHandle" ∧ yX1_leastMoves.cls ≠ "java/lang/invoke/VarHandle" ∧ (parseMethodDescriptor yX1_leastMoves.desc).map (fun d => d.parameters.length) = some 2 := by decide +kernel
theorem rp_X1_lower : yX1_lower.cls ≠ "java/lang/invoke/MethodHandle" ∧ yX1_lower.cls ≠ "java/lang/invoke/VarHandle" ∧ (parseMethodDescriptor yX1_lower.desc).map (fun d => d.parameters.length) = some 2 := by decide +kernel
theorem rp_X1_spreadFrom : yX1_spreadFrom.cls ≠ "java/lang/invoke/MethodHandle" ∧ yX1_spreadFrom.cls ≠ "java/lang/invoke/VarHandle" ∧ (parseMethodDescriptor yX1_spreadFrom.desc).map (fun d => d.parameters.length) = some 2 := by decide +kernel
theorem rp_X9_secondsLeft : yX9_secondsLeft.cls ≠ "java/lang/invoke/MethodHandle" ∧ yX9_secondsLeft.cls ≠ "java/lang/invoke/VarHandle" ∧ (parseMethodDescriptor yX9_secondsLeft.desc).map (fun d => d.parameters.length) = some 0 := by decide +kernel
theorem rp_X1_countSeconds : yX1_countSeconds.cls ≠ "java/lang/invoke/MethodHandle" ∧ yX1_countSeconds.cls ≠ "java/lang/invoke/VarHandle" ∧ (parseMethodDescriptor yX1_countSeconds.desc).map (fun d => d.parameters.length) = some 1 := by decide +kernel
theorem rp_X9_backTo : yX9_backTo.cls ≠ "java/lang/invoke/MethodHandle" ∧ yX9_backTo.cls ≠ "java/lang/invoke/VarHandle" ∧ (parseMethodDescriptor yX9_backTo.desc).map (fun d => d.parameters.length) = some 0 := by decide +kernel
theorem rp_X10_init : yX10_init.cls ≠ "java/lang/invoke/MethodHandle" ∧ yX10_init.cls ≠ "java/lang/invoke/VarHandle" ∧ (parseMethodDescriptor yX10_init.desc).map (fun d => d.parameters.length) = some 0 := by decide +kernel
theorem rp_X10_addSlide : yX10_addSlide.cls ≠ "java/lang/invoke/MethodHandle" ∧ yX10_addSlide.cls ≠ "java/lang/invoke/VarHandle" ∧ (parseMethodDescriptor yX10_addSlide.desc).map (fun d => d.parameters.length) = some 0 := by decide +kernel
theorem rp_X10_save : yX10_save.cls ≠ "java/lang/invoke/MethodHandle" ∧ yX10_save.cls ≠ "java/lang/invoke/VarHandle" ∧ (parseMethodDescriptor yX10_save.desc).map (fun d => d.parameters.length) = some 0 := by decide +kernel
theorem rp_X10_copies : yX10_copies.cls ≠ "java/lang/invoke/MethodHandle" ∧ yX10_copies.cls ≠ "java/lang/invoke/VarHandle" ∧ (parseMethodDescriptor yX10_copies.desc).map (fun d => d.parameters.length) = some 2 := by decide +kernel
theorem rp_X10_of : yX10_of.cls ≠ "java/lang/invoke/MethodHandle" ∧ yX10_of.cls ≠ "java/lang/invoke/VarHandle" ∧ (parseMethodDescriptor yX10_of.desc).map (fun d => d.parameters.length) = some 2 := by decide +kernel
theorem rp_X10_lay : yX10_lay.cls ≠ "java/lang/invoke/MethodHandle" ∧ yX10_lay.cls ≠ "java/lang/invoke/VarHandle" ∧ (parseMethodDescriptor yX10_lay.desc).map (fun d => d.parameters.length) = some 3 := by decide +kernel
theorem rp_X10_removeSlide : yX10_removeSlide.cls ≠ "java/lang/invoke/MethodHandle" ∧ yX10_removeSlide.cls ≠ "java/lang/invoke/VarHandle" ∧ (parseMethodDescriptor yX10_removeSlide.desc).map (fun d => d.parameters.length) = some 1 := by decide +kernel
theorem rp_X10_isSlide : yX10_isSlide.cls ≠ "java/lang/invoke/MethodHandle" ∧ yX10_isSlide.cls ≠ "java/lang/invoke/VarHandle" ∧ (parseMethodDescriptor yX10_isSlide.desc).map (fun d => d.parameters.length) = some 1 := by decide +kernel
theorem rp_X10_in : yX10_in.cls ≠ "java/lang/invoke/MethodHandle" ∧ yX10_in.cls ≠ "java/lang/invoke/VarHandle" ∧ (parseMethodDescriptor yX10_in.desc).map (fun d => d.parameters.length) = some 3 := by decide +kernel
theorem rp_X10_takesOut : yX10_takesOut.cls ≠ "java/lang/invoke/MethodHandle" ∧ yX10_takesOut.cls ≠ "java/lang/invoke/VarHandle" ∧ (parseMethodDescriptor yX10_takesOut.desc).map (fun d => d.parameters.length) = some 1 := by decide +kernel
theorem rp_X10_placeOf : yX10_placeOf.cls ≠ "java/lang/invoke/MethodHandle" ∧ yX10_placeOf.cls ≠ "java/lang/invoke/VarHandle" ∧ (parseMethodDescriptor yX10_placeOf.desc).map (fun d => d.parameters.length) = some 1 := by decide +kernel
theorem rp_X10_moveSlide : yX10_moveSlide.cls ≠ "java/lang/invoke/MethodHandle" ∧ yX10_moveSlide.cls ≠ "java/lang/invoke/VarHandle" ∧ (parseMethodDescriptor yX10_moveSlide.desc).map (fun d => d.parameters.length) = some 2 := by decide +kernel
theorem rp_X10_hide : yX10_hide.cls ≠ "java/lang/invoke/MethodHandle" ∧ yX10_hide.cls ≠ "java/lang/invoke/VarHandle" ∧ (parseMethodDescriptor yX10_hide.desc).map (fun d => d.parameters.length) = some 2 := by decide +kernel
theorem rp_X10_setPause : yX10_setPause.cls ≠ "java/lang/invoke/MethodHandle" ∧ yX10_setPause.cls ≠ "java/lang/invoke/VarHandle" ∧ (parseMethodDescriptor yX10_setPause.desc).map (fun d => d.parameters.length) = some 2 := by decide +kernel
theorem rp_X10_addItem : yX10_addItem.cls ≠ "java/lang/invoke/MethodHandle" ∧ yX10_addItem.cls ≠ "java/lang/invoke/VarHandle" ∧ (parseMethodDescriptor yX10_addItem.desc).map (fun d => d.parameters.length) = some 4 := by decide +kernel
theorem rp_X10_removeItem : yX10_removeItem.cls ≠ "java/lang/invoke/MethodHandle" ∧ yX10_removeItem.cls ≠ "java/lang/invoke/VarHandle" ∧ (parseMethodDescriptor yX10_removeItem.desc).map (fun d => d.parameters.length) = some 2 := by decide +kernel
theorem rp_X10_isItem : yX10_isItem.cls ≠ "java/lang/invoke/MethodHandle" ∧ yX10_isItem.cls ≠ "java/lang/invoke/VarHandle" ∧ (parseMethodDescriptor yX10_isItem.desc).map (fun d => d.parameters.length) = some 2 := by decide +kernel
theorem rp_X10_finalStep : yX10_finalStep.cls ≠ "java/lang/invoke/MethodHandle" ∧ yX10_finalStep.cls ≠ "java/lang/invoke/VarHandle" ∧ (parseMethodDescriptor yX10_finalStep.desc).map (fun d => d.parameters.length) = some 1 := by decide +kernel
theorem rp_X10_link : yX10_link.cls ≠ "java/lang/invoke/MethodHandle" ∧ yX10_link.cls ≠ "java/lang/invoke/VarHandle" ∧ (parseMethodDescriptor yX10_link.desc).map (fun d => d.parameters.length) = some 3 := by decide +kernel
theorem rp_X10_isKey : yX10_isKey.cls ≠ "java/lang/invoke/MethodHandle" ∧ yX10_isKey.cls ≠ "java/lang/invoke/VarHandle" ∧ (parseMethodDescriptor yX10_isKey.desc).map (fun d => d.parameters.length) = some 1 := by decide +kernel
theorem rp_X10_links : yX10_links.cls ≠ "java/lang/invoke/MethodHandle" ∧ yX10_links.cls ≠ "java/lang/invoke/VarHandle" ∧ (parseMethodDescriptor yX10_links.desc).map (fun d => d.parameters.length) = some 1 := by decide +kernel
theorem rp_X10_unlink : yX10_unlink.cls ≠ "java/lang/invoke/MethodHandle" ∧ yX10_unlink.cls ≠ "java/lang/invoke/VarHandle" ∧ (parseMethodDescriptor yX10_unlink.desc).map (fun d => d.parameters.length) = some 2 := by decide +kernel
theorem rp_X10_note : yX10_note.cls ≠ "java/lang/invoke/MethodHandle" ∧ yX10_note.cls ≠ "java/lang/invoke/VarHandle" ∧ (parseMethodDescriptor yX10_note.desc).map (fun d => d.parameters.length) = some 2 := by decide +kernel
theorem rp_X10_notePlace : yX10_notePlace.cls ≠ "java/lang/invoke/MethodHandle" ∧ yX10_notePlace.cls ≠ "java/lang/invoke/VarHandle" ∧ (parseMethodDescriptor yX10_notePlace.desc).map (fun d => d.parameters.length) = some 1 := by decide +kernel
theorem rp_X10_setEnd : yX10_setEnd.cls ≠ "java/lang/invoke/MethodHandle" ∧ yX10_setEnd.cls ≠ "java/lang/invoke/VarHandle" ∧ (parseMethodDescriptor yX10_setEnd.desc).map (fun d => d.parameters.length) = some 1 := by decide +kernel
theorem rp_X10_start : yX10_start.cls ≠ "java/lang/invoke/MethodHandle" ∧ yX10_start.cls ≠ "java/lang/invoke/VarHandle" ∧ (parseMethodDescriptor yX10_start.desc).map (fun d => d.parameters.length) = some 0 := by decide +kernel
theorem rp_X10_shownFrom : yX10_shownFrom.cls ≠ "java/lang/invoke/MethodHandle" ∧ yX10_shownFrom.cls ≠ "java/lang/invoke/VarHandle" ∧ (parseMethodDescriptor yX10_shownFrom.desc).map (fun d => d.parameters.length) = some 1 := by decide +kernel
theorem rp_X10_isShown : yX10_isShown.cls ≠ "java/lang/invoke/MethodHandle" ∧ yX10_isShown.cls ≠ "java/lang/invoke/VarHandle" ∧ (parseMethodDescriptor yX10_isShown.desc).map (fun d => d.parameters.length) = some 1 := by decide +kernel
theorem rp_X10_stop : yX10_stop.cls ≠ "java/lang/invoke/MethodHandle" ∧ yX10_stop.cls ≠ "java/lang/invoke/VarHandle" ∧ (parseMethodDescriptor yX10_stop.desc).map (fun d => d.parameters.length) = some 0 := by decide +kernel
theorem rp_X10_forward : yX10_forward.cls ≠ "java/lang/invoke/MethodHandle" ∧ yX10_forward.cls ≠ "java/lang/invoke/VarHandle" ∧ (parseMethodDescriptor yX10_forward.desc).map (fun d => d.parameters.length) = some 0 := by decide +kernel
theorem rp_X10_isOn : yX10_isOn.cls ≠ "java/lang/invoke/MethodHandle" ∧ yX10_isOn.cls ≠ "java/lang/invoke/VarHandle" ∧ (parseMethodDescriptor yX10_isOn.desc).map (fun d => d.parameters.length) = some 0 := by decide +kernel
theorem rp_X10_isOver : yX10_isOver.cls ≠ "java/lang/invoke/MethodHandle" ∧ yX10_isOver.cls ≠ "java/lang/invoke/VarHandle" ∧ (parseMethodDescriptor yX10_isOver.desc).map (fun d => d.parameters.length) = some 0 := by decide +kernel
theorem rp_X10_canForward : yX10_canForward.cls ≠ "java/lang/invoke/MethodHandle" ∧ yX10_canForward.cls ≠ "java/lang/invoke/VarHandle" ∧ (parseMethodDescriptor yX10_canForward.desc).map (fun d => d.parameters.length) = some 0 := by decide +kernel
theorem rp_X10_nextOf : yX10_nextOf.cls ≠ "java/lang/invoke/MethodHandle" ∧ yX10_nextOf.cls ≠ "java/lang/invoke/VarHandle" ∧ (parseMethodDescriptor yX10_nextOf.desc).map (fun d => d.parameters.length) = some 1 := by decide +kernel
theorem rp_X10_forwards : yX10_forwards.cls ≠ "java/lang/invoke/MethodHandle" ∧ yX10_forwards.cls ≠ "java/lang/invoke/VarHandle" ∧ (parseMethodDescriptor yX10_forwards.desc).map (fun d => d.parameters.length) = some 0 := by decide +kernel
theorem rp_X10_comes : yX10_comes.cls ≠ "java/lang/invoke/MethodHandle" ∧ yX10_comes.cls ≠ "java/lang/invoke/VarHandle" ∧ (parseMethodDescriptor yX10_comes.desc).map (fun d => d.parameters.length) = some 3 := by decide +kernel
theorem rp_X10_back : yX10_back.cls ≠ "java/lang/invoke/MethodHandle" ∧ yX10_back.cls ≠ "java/lang/invoke/VarHandle" ∧ (parseMethodDescriptor yX10_back.desc).map (fun d => d.parameters.length) = some 0 := by decide +kernel
theorem rp_X10_backPlace : yX10_backPlace.cls ≠ "java/lang/invoke/MethodHandle" ∧ yX10_backPlace.cls ≠ "java/lang/invoke/VarHandle" ∧ (parseMethodDescriptor yX10_backPlace.desc).map (fun d => d.parameters.length) = some 0 := by decide +kernel
theorem rp_X10_backs : yX10_backs.cls ≠ "java/lang/invoke/MethodHandle" ∧ yX10_backs.cls ≠ "java/lang/invoke/VarHandle" ∧ (parseMethodDescriptor yX10_backs.desc).map (fun d => d.parameters.length) = some 0 := by decide +kernel
theorem rp_X10_press : yX10_press.cls ≠ "java/lang/invoke/MethodHandle" ∧ yX10_press.cls ≠ "java/lang/invoke/VarHandle" ∧ (parseMethodDescriptor yX10_press.desc).map (fun d => d.parameters.length) = some 1 := by decide +kernel
theorem rp_X10_canPress : yX10_canPress.cls ≠ "java/lang/invoke/MethodHandle" ∧ yX10_canPress.cls ≠ "java/lang/invoke/VarHandle" ∧ (parseMethodDescriptor yX10_canPress.desc).map (fun d => d.parameters.length) = some 1 := by decide +kernel
theorem rp_X10_presses : yX10_presses.cls ≠ "java/lang/invoke/MethodHandle" ∧ yX10_presses.cls ≠ "java/lang/invoke/VarHandle" ∧ (parseMethodDescriptor yX10_presses.desc).map (fun d => d.parameters.length) = some 1 := by decide +kernel
theorem rp_X10_tick : yX10_tick.cls ≠ "java/lang/invoke/MethodHandle" ∧ yX10_tick.cls ≠ "java/lang/invoke/VarHandle" ∧ (parseMethodDescriptor yX10_tick.desc).map (fun d => d.parameters.length) = some 1 := by decide +kernel
theorem rp_X10_ticks : yX10_ticks.cls ≠ "java/lang/invoke/MethodHandle" ∧ yX10_ticks.cls ≠ "java/lang/invoke/VarHandle" ∧ (parseMethodDescriptor yX10_ticks.desc).map (fun d => d.parameters.length) = some 1 := by decide +kernel
theorem rp_X10_append : yX10_append.cls ≠ "java/lang/invoke/MethodHandle" ∧ yX10_append.cls ≠ "java/lang/invoke/VarHandle" ∧ (parseMethodDescriptor yX10_append.desc).map (fun d => d.parameters.length) = some 1 := by decide +kernel
theorem rp_X10_clearText : yX10_clearText.cls ≠ "java/lang/invoke/MethodHandle" ∧ yX10_clearText.cls ≠ "java/lang/invoke/VarHandle" ∧ (parseMethodDescriptor yX10_clearText.desc).map (fun d => d.parameters.length) = some 0 := by decide +kernel
theorem rp_X10_fault : yX10_fault.cls ≠ "java/lang/invoke/MethodHandle" ∧ yX10_fault.cls ≠ "java/lang/invoke/VarHandle" ∧ (parseMethodDescriptor yX10_fault.desc).map (fun d => d.parameters.length) = some 0 := by decide +kernel
theorem rp_X10_isText : yX10_isText.cls ≠ "java/lang/invoke/MethodHandle" ∧ yX10_isText.cls ≠ "java/lang/invoke/VarHandle" ∧ (parseMethodDescriptor yX10_isText.desc).map (fun d => d.parameters.length) = some 0 := by decide +kernel
theorem rp_X10_readsMove : yX10_readsMove.cls ≠ "java/lang/invoke/MethodHandle" ∧ yX10_readsMove.cls ≠ "java/lang/invoke/VarHandle" ∧ (parseMethodDescriptor yX10_readsMove.desc).map (fun d => d.parameters.length) = some 0 := by decide +kernel
theorem rp_X10_sign : yX10_sign.cls ≠ "java/lang/invoke/MethodHandle" ∧ yX10_sign.cls ≠ "java/lang/invoke/VarHandle" ∧ (parseMethodDescriptor yX10_sign.desc).map (fun d => d.parameters.length) = some 0 := by decide +kernel
theorem rp_X10_takes : yX10_takes.cls ≠ "java/lang/invoke/MethodHandle" ∧ yX10_takes.cls ≠ "java/lang/invoke/VarHandle" ∧ (parseMethodDescriptor yX10_takes.desc).map (fun d => d.parameters.length) = some 1 := by decide +kernel
theorem rp_X10_run : yX10_run.cls ≠ "java/lang/invoke/MethodHandle" ∧ yX10_run.cls ≠ "java/lang/invoke/VarHandle" ∧ (parseMethodDescriptor yX10_run.desc).map (fun d => d.parameters.length) = some 0 := by decide +kernel
theorem rp_X10_isMade : yX10_isMade.cls ≠ "java/lang/invoke/MethodHandle" ∧ yX10_isMade.cls ≠ "java/lang/invoke/VarHandle" ∧ (parseMethodDescriptor yX10_isMade.desc).map (fun d => d.parameters.length) = some 0 := by decide +kernel
theorem rp_X10_why : yX10_why.cls ≠ "java/lang/invoke/MethodHandle" ∧ yX10_why.cls ≠ "java/lang/invoke/VarHandle" ∧ (parseMethodDescriptor yX10_why.desc).map (fun d => d.parameters.length) = some 1 := by decide +kernel
theorem rp_X10_undo : yX10_undo.cls ≠ "java/lang/invoke/MethodHandle" ∧ yX10_undo.cls ≠ "java/lang/invoke/VarHandle" ∧ (parseMethodDescriptor yX10_undo.desc).map (fun d => d.parameters.length) = some 0 := by decide +kernel
theorem rp_X10_slides : yX10_slides.cls ≠ "java/lang/invoke/MethodHandle" ∧ yX10_slides.cls ≠ "java/lang/invoke/VarHandle" ∧ (parseMethodDescriptor yX10_slides.desc).map (fun d => d.parameters.length) = some 0 := by decide +kernel
theorem rp_X10_slideAt : yX10_slideAt.cls ≠ "java/lang/invoke/MethodHandle" ∧ yX10_slideAt.cls ≠ "java/lang/invoke/VarHandle" ∧ (parseMethodDescriptor yX10_slideAt.desc).map (fun d => d.parameters.length) = some 1 := by decide +kernel
theorem rp_X10_slide : yX10_slide.cls ≠ "java/lang/invoke/MethodHandle" ∧ yX10_slide.cls ≠ "java/lang/invoke/VarHandle" ∧ (parseMethodDescriptor yX10_slide.desc).map (fun d => d.parameters.length) = some 2 := by decide +kernel
theorem rp_X10_item : yX10_item.cls ≠ "java/lang/invoke/MethodHandle" ∧ yX10_item.cls ≠ "java/lang/invoke/VarHandle" ∧ (parseMethodDescriptor yX10_item.desc).map (fun d => d.parameters.length) = some 3 := by decide +kernel
theorem rp_X10_target : yX10_target.cls ≠ "java/lang/invoke/MethodHandle" ∧ yX10_target.cls ≠ "java/lang/invoke/VarHandle" ∧ (parseMethodDescriptor yX10_target.desc).map (fun d => d.parameters.length) = some 2 := by decide +kernel
theorem rp_X10_picture : yX10_picture.cls ≠ "java/lang/invoke/MethodHandle" ∧ yX10_picture.cls ≠ "java/lang/invoke/VarHandle" ∧ (parseMethodDescriptor yX10_picture.desc).map (fun d => d.parameters.length) = some 2 := by decide +kernel
theorem rp_X10_seen : yX10_seen.cls ≠ "java/lang/invoke/MethodHandle" ∧ yX10_seen.cls ≠ "java/lang/invoke/VarHandle" ∧ (parseMethodDescriptor yX10_seen.desc).map (fun d => d.parameters.length) = some 2 := by decide +kernel
theorem rp_X10_now : yX10_now.cls ≠ "java/lang/invoke/MethodHandle" ∧ yX10_now.cls ≠ "java/lang/invoke/VarHandle" ∧ (parseMethodDescriptor yX10_now.desc).map (fun d => d.parameters.length) = some 1 := by decide +kernel
theorem rp_X10_trail : yX10_trail.cls ≠ "java/lang/invoke/MethodHandle" ∧ yX10_trail.cls ≠ "java/lang/invoke/VarHandle" ∧ (parseMethodDescriptor yX10_trail.desc).map (fun d => d.parameters.length) = some 2 := by decide +kernel
theorem rp_X10_labels : yX10_labels.cls ≠ "java/lang/invoke/MethodHandle" ∧ yX10_labels.cls ≠ "java/lang/invoke/VarHandle" ∧ (parseMethodDescriptor yX10_labels.desc).map (fun d => d.parameters.length) = some 0 := by decide +kernel
theorem rp_X10_noteNow : yX10_noteNow.cls ≠ "java/lang/invoke/MethodHandle" ∧ yX10_noteNow.cls ≠ "java/lang/invoke/VarHandle" ∧ (parseMethodDescriptor yX10_noteNow.desc).map (fun d => d.parameters.length) = some 0 := by decide +kernel
theorem rp_X10_end : yX10_end.cls ≠ "java/lang/invoke/MethodHandle" ∧ yX10_end.cls ≠ "java/lang/invoke/VarHandle" ∧ (parseMethodDescriptor yX10_end.desc).map (fun d => d.parameters.length) = some 0 := by decide +kernel
theorem rp_X10_meanSteps : yX10_meanSteps.cls ≠ "java/lang/invoke/MethodHandle" ∧ yX10_meanSteps.cls ≠ "java/lang/invoke/VarHandle" ∧ (parseMethodDescriptor yX10_meanSteps.desc).map (fun d => d.parameters.length) = some 0 := by decide +kernel
theorem rp_X10_movesLeft : yX10_movesLeft.cls ≠ "java/lang/invoke/MethodHandle" ∧ yX10_movesLeft.cls ≠ "java/lang/invoke/VarHandle" ∧ (parseMethodDescriptor yX10_movesLeft.desc).map (fun d => d.parameters.length) = some 0 := by decide +kernel
theorem rp_X10_fewest : yX10_fewest.cls ≠ "java/lang/invoke/MethodHandle" ∧ yX10_fewest.cls ≠ "java/lang/invoke/VarHandle" ∧ (parseMethodDescriptor yX10_fewest.desc).map (fun d => d.parameters.length) = some 1 := by decide +kernel
theorem rp_X10_leads : yX10_leads.cls ≠ "java/lang/invoke/MethodHandle" ∧ yX10_leads.cls ≠ "java/lang/invoke/VarHandle" ∧ (parseMethodDescriptor yX10_leads.desc).map (fun d => d.parameters.length) = some 1 := by decide +kernel
theorem rp_X10_reaches : yX10_reaches.cls ≠ "java/lang/invoke/MethodHandle" ∧ yX10_reaches.cls ≠ "java/lang/invoke/VarHandle" ∧ (parseMethodDescriptor yX10_reaches.desc).map (fun d => d.parameters.length) = some 3 := by decide +kernel
theorem rp_X10_secondsLeft : yX10_secondsLeft.cls ≠ "java/lang/invoke/MethodHandle" ∧ yX10_secondsLeft.cls ≠ "java/lang/invoke/VarHandle" ∧ (parseMethodDescriptor yX10_secondsLeft.desc).map (fun d => d.parameters.length) = some 0 := by decide +kernel
theorem rp_X10_backTo : yX10_backTo.cls ≠ "java/lang/invoke/MethodHandle" ∧ yX10_backTo.cls ≠ "java/lang/invoke/VarHandle" ∧ (parseMethodDescriptor yX10_backTo.desc).map (fun d => d.parameters.length) = some 0 := by decide +kernel
end
section
/-! what is counted, sought and summed, in whole numbers -/
def sp_fs (f l : Int → Int) : Nat → Int
  | 0 => 0
  | n + 1 => if l n ≠ -1 ∧ l n < 9 then max (max (sp_fs f l n) (f n)) (l n + 1) else max (sp_fs f l n) (f n)
def sp_lk (t : Int → Int) : Nat → Int
  | 0 => 0
  | n + 1 => if t n = -1 then sp_lk t n else sp_lk t n + 1
def sp_seen (f l : Int → Int) (i st : Int) : Prop := f i ≤ st ∧ (l i = -1 ∨ st ≤ l i)
noncomputable def sp_if (c : Prop) (a b : Int) : Int := @ite Int c (Classical.propDecidable c) a b
theorem sp_ift {c : Prop} (h : c) (a b : Int) : sp_if c a b = a := by unfold sp_if; exact if_pos h
theorem sp_iff {c : Prop} (h : ¬ c) (a b : Int) : sp_if c a b = b := by unfold sp_if; exact if_neg h
theorem sp_ifc {c d : Prop} (h : c ↔ d) (a b : Int) : sp_if c a b = sp_if d a b := by rw [propext h]
noncomputable def sp_mask (f l : Int → Int) (st : Int) : Nat → Int
  | 0 => 0
  | n + 1 => sp_mask f l st n + sp_if (sp_seen f l n st) (2 ^ n) 0
noncomputable def sp_tags (f l t : Int → Int) (st : Int) : Nat → Int
  | 0 => 0
  | n + 1 => sp_tags f l t st n + sp_if (sp_seen f l n st) (t n) 0
/-- the first from a on, of n, that has p; -1 -/
noncomputable def sp_ff (p : Int → Prop) : Nat → Int → Int
  | 0, _ => -1
  | n + 1, a => sp_if (p a) a (sp_ff p n (a + 1))
/-- the last below n that has p; -1 -/
noncomputable def sp_fb (p : Int → Prop) : Nat → Int
  | 0 => -1
  | n + 1 => sp_if (p n) n (sp_fb p n)
noncomputable def sp_num (p : Int → Prop) : Nat → Int
  | 0 => 0
  | n + 1 => sp_num p n + sp_if (p n) 1 0
noncomputable def sp_sum (g : Int → Int) : Nat → Int
  | 0 => 0
  | n + 1 => sp_sum g n + g n
theorem sp_fs0 (f l : Int → Int) (n : Nat) : 0 ≤ sp_fs f l n := by
  induction n with
  | zero => simp [sp_fs]
  | succ n ih => unfold sp_fs; split <;> omega
theorem sp_fs_le (f l : Int → Int) (n : Nat) (h : ∀ k : Nat, k < n → f k ≤ 9) : sp_fs f l n ≤ 9 := by
  induction n with
  | zero => simp [sp_fs]
  | succ n ih =>
    have h1 := ih (fun k hk => h k (by omega))
    have h2 := h n (by omega)
    unfold sp_fs; split <;> omega
theorem sp_fs_c {f l f' l' : Int → Int} {n : Nat} (h : ∀ k : Nat, k < n → f k = f' k ∧ l k = l' k) : sp_fs f l n = sp_fs f' l' n := by
  induction n with
  | zero => rfl
  | succ n ih =>
    have h1 := ih (fun k hk => h k (by omega))
    obtain ⟨h2, h3⟩ := h n (by omega)
    unfold sp_fs; rw [h1, h2, h3]
theorem sp_lk0 (t : Int → Int) (n : Nat) : 0 ≤ sp_lk t n ∧ sp_lk t n ≤ n := by
  induction n with
  | zero => simp [sp_lk]
  | succ n ih => unfold sp_lk; split <;> omega
theorem sp_ff_t {p : Int → Prop} {n : Nat} {a : Int} (h0 : 0 < n) (h : p a) : sp_ff p n a = a := by
  obtain ⟨m, rfl⟩ : ∃ m, n = m + 1 := ⟨n - 1, by omega⟩
  simp only [sp_ff]; exact sp_ift h _ _
theorem sp_ff_f {p : Int → Prop} {n : Nat} {a : Int} (h0 : 0 < n) (h : ¬ p a) : sp_ff p n a = sp_ff p (n - 1) (a + 1) := by
  obtain ⟨m, rfl⟩ : ∃ m, n = m + 1 := ⟨n - 1, by omega⟩
  simp only [sp_ff, Nat.add_sub_cancel]; exact sp_iff h _ _
theorem sp_ff_spec (p : Int → Prop) (n : Nat) (a : Int) : (sp_ff p n a = -1 ∧ ∀ i, a ≤ i → i < a + n → ¬ p i) ∨ ((a ≤ sp_ff p n a ∧ sp_ff p n a < a + n) ∧ p (sp_ff p n a) ∧ ∀ i, a ≤ i → i < sp_ff p n a → ¬ p i) := by
  induction n generalizing a with
  | zero => exact Or.inl ⟨rfl, fun i h1 h2 => by omega⟩
  | succ n ih =>
    by_cases h : p a
    · rw [sp_ff_t (Nat.succ_pos n) h]
      exact Or.inr ⟨⟨by omega, by omega⟩, h, fun i h1 h2 => by omega⟩
    · rw [sp_ff_f (Nat.succ_pos n) h, show n.succ - 1 = n from rfl]
      rcases ih (a + 1) with ⟨h1, h2⟩ | ⟨⟨h1, h1'⟩, h2, h3⟩
      · refine Or.inl ⟨h1, fun i hi hj => ?_⟩
        by_cases e : i = a
        · subst e; exact h
        · exact h2 i (by omega) (by omega)
      · refine Or.inr ⟨⟨by omega, by omega⟩, h2, fun i hi hj => ?_⟩
        by_cases e : i = a
        · subst e; exact h
        · exact h3 i (by omega) hj
/-- the number at the first place from a on whose number is shown; -1 -/
noncomputable def sp_nx (ord : Int → Int) (sh : Int → Prop) : Nat → Int → Int
  | 0, _ => -1
  | n + 1, a => sp_if (sh (ord a)) (ord a) (sp_nx ord sh n (a + 1))
theorem sp_nx_t {ord : Int → Int} {sh : Int → Prop} {n : Nat} {a : Int} (h0 : 0 < n) (h : sh (ord a)) : sp_nx ord sh n a = ord a := by
  obtain ⟨m, rfl⟩ : ∃ m, n = m + 1 := ⟨n - 1, by omega⟩
  simp only [sp_nx]; exact sp_ift h _ _
theorem sp_nx_f {ord : Int → Int} {sh : Int → Prop} {n : Nat} {a : Int} (h0 : 0 < n) (h : ¬ sh (ord a)) : sp_nx ord sh n a = sp_nx ord sh (n - 1) (a + 1) := by
  obtain ⟨m, rfl⟩ : ∃ m, n = m + 1 := ⟨n - 1, by omega⟩
  simp only [sp_nx, Nat.add_sub_cancel]; exact sp_iff h _ _
theorem sp_nx_spec (ord : Int → Int) (sh : Int → Prop) (n : Nat) (a : Int) : (sp_nx ord sh n a = -1 ∧ ∀ i, a ≤ i → i < a + n → ¬ sh (ord i)) ∨ (∃ k, (a ≤ k ∧ k < a + n) ∧ sp_nx ord sh n a = ord k ∧ sh (ord k) ∧ ∀ i, a ≤ i → i < k → ¬ sh (ord i)) := by
  induction n generalizing a with
  | zero => exact Or.inl ⟨rfl, fun i h1 h2 => by omega⟩
  | succ n ih =>
    by_cases h : sh (ord a)
    · exact Or.inr ⟨a, ⟨by omega, by omega⟩, sp_nx_t (Nat.succ_pos n) h, h, fun i h1 h2 => by omega⟩
    · rw [sp_nx_f (Nat.succ_pos n) h, show n.succ - 1 = n from rfl]
      rcases ih (a + 1) with ⟨h1, h2⟩ | ⟨k, ⟨h1, h1'⟩, h2, h3, h4⟩
      · refine Or.inl ⟨h1, fun i hi hj => ?_⟩
        by_cases e : i = a
        · subst e; exact h
        · exact h2 i (by omega) (by omega)
      · refine Or.inr ⟨k, ⟨by omega, by omega⟩, h2, h3, fun i hi hj => ?_⟩
        by_cases e : i = a
        · subst e; exact h
        · exact h4 i (by omega) hj
theorem sp_fb_t {p : Int → Prop} {n : Nat} (h : p n) : sp_fb p (n + 1) = n := by simp only [sp_fb]; exact sp_ift h _ _
theorem sp_fb_f {p : Int → Prop} {n : Nat} (h : ¬ p n) : sp_fb p (n + 1) = sp_fb p n := by simp only [sp_fb]; exact sp_iff h _ _
theorem sp_fb_spec (p : Int → Prop) (n : Nat) : (sp_fb p n = -1 ∧ ∀ i : Int, 0 ≤ i → i < n → ¬ p i) ∨ ((0 ≤ sp_fb p n ∧ sp_fb p n < n) ∧ p (sp_fb p n) ∧ ∀ i : Int, sp_fb p n < i → i < n → ¬ p i) := by
  induction n with
  | zero => exact Or.inl ⟨rfl, fun i h1 h2 => by omega⟩
  | succ n ih =>
    by_cases h : p n
    · rw [sp_fb_t h]
      exact Or.inr ⟨⟨by omega, by omega⟩, h, fun i h1 h2 => by omega⟩
    · rw [sp_fb_f h]
      rcases ih with ⟨h1, h2⟩ | ⟨⟨h1, h1'⟩, h2, h3⟩
      · refine Or.inl ⟨h1, fun i hi hj => ?_⟩
        by_cases e : i = n
        · subst e; exact h
        · exact h2 i (by omega) (by omega)
      · refine Or.inr ⟨⟨by omega, by omega⟩, h2, fun i hi hj => ?_⟩
        by_cases e : i = n
        · subst e; exact h
        · exact h3 i hi (by omega)
/-- there is a slide of this number, in the present state -/
def sp_th (μ : rd_Mem) (n : Int) : Prop := (0 ≤ n ∧ n < 10) ∧ μ (5 + 5 * n) 0 ≠ 0
def sp_sh (μ : rd_Mem) (n : Int) : Prop := sp_th μ n ∧ μ (5 + 5 * n) 1 = 0
noncomputable def sp_FS (μ : rd_Mem) (n : Int) : Int := sp_fs (μ (5 + 5 * n + 1)) (μ (5 + 5 * n + 2)) (μ (5 + 5 * n) 3).toNat
noncomputable def sp_pl (μ : rd_Mem) (n : Int) : Int := sp_ff (fun i => μ 3 i = n) (μ 2 0).toNat 0
noncomputable def sp_next (μ : rd_Mem) (a : Int) : Int := sp_nx (μ 3) (sp_sh μ) (μ 2 0 - a).toNat a
/-- what the present deck keeps to -/
def sp_cnt (μ : rd_Mem) : Prop := 0 ≤ μ 2 0 ∧ μ 2 0 ≤ 10
def sp_its (μ : rd_Mem) : Prop := ∀ i : Int, 0 ≤ i → i < 10 → 0 ≤ μ (5 + 5 * i) 3 ∧ μ (5 + 5 * i) 3 ≤ 6
end
section
set_option maxHeartbeats 4000000 in
set_option maxRecDepth 100000 in
theorem c_X9_isWithin {l : Launch} {G : rd_G} {r : Nat} {μ : rd_Mem} {z lo hi : Int} : rd_M l G rd_kc 313 r yX9_isWithin cX9_isWithin 3 (some .boolean) (rd_rm 0 0) [rd_I z, rd_I lo, rd_I hi] μ (fun v μ' => ((lo ≤ z ∧ z ≤ hi) ∧ v = some (rd_I 1) ∧ μ' = μ) ∨ ((z < lo ∨ hi < z) ∧ v = some (rd_I 0) ∧ μ' = μ)) := by
  refine rd_enter (by decide +kernel) (Nat.le_of_ble_eq_true rfl) [rd_I z, rd_I lo, rd_I hi] rfl (fun p e s m args below meth c C => ?_)
  refine rd_W.rng (fun hM hL _ => ?_)
  refine rd_iload_n C dX9_isWithin_0 rfl ?_
  refine rd_iload_n C dX9_isWithin_1 rfl ?_
  refine rd_icmp_lt C dX9_isWithin_2 (tgt := 14) (by decide) (fun h_2 => ?_) (fun h_2 => ?_)
  · refine rd_iconst C dX9_isWithin_14 (n := 0) ⟨by decide, by decide⟩ ?_
    exact rd_zret C dX9_isWithin_15 (by omega) (by first | exact Or.inl ⟨⟨by omega, by omega⟩, rfl, rfl⟩ | exact Or.inr ⟨by omega, rfl, rfl⟩)
  · refine rd_iload_n C dX9_isWithin_5 rfl ?_
    refine rd_iload_n C dX9_isWithin_6 rfl ?_
    refine rd_icmp_gt C dX9_isWithin_7 (tgt := 14) (by decide) (fun h_7 => ?_) (fun h_7 => ?_)
    · refine rd_iconst C dX9_isWithin_14 (n := 0) ⟨by decide, by decide⟩ ?_
      exact rd_zret C dX9_isWithin_15 (by omega) (by first | exact Or.inl ⟨⟨by omega, by omega⟩, rfl, rfl⟩ | exact Or.inr ⟨by omega, rfl, rfl⟩)
    · refine rd_iconst C dX9_isWithin_10 (n := 1) ⟨by decide, by decide⟩ ?_
      refine rd_goto C dX9_isWithin_11 (tgt := 15) (by decide) ?_
      exact rd_zret C dX9_isWithin_15 (by omega) (by first | exact Or.inl ⟨⟨by omega, by omega⟩, rfl, rfl⟩ | exact Or.inr ⟨by omega, rfl, rfl⟩)
def rd_clr (μ : rd_Mem) (o k : Int) : rd_Mem := fun a b => if a = o ∧ (0 ≤ b ∧ b < 4) then 0 else if a = o + 4 ∧ (0 ≤ b ∧ b < k) then -1 else μ a b
set_option maxHeartbeats 4000000 in
set_option maxRecDepth 100000 in
theorem c_X7_clear {l : Launch} {G : rd_G} {r : Nat} {μ : rd_Mem} {o : Int} (hS : rd_isS rd_kc 313 o) : rd_M l G rd_kc 313 r yX7_clear cX7_clear 2 none (rd_rm 0 0) [rd_R o] μ (fun v μ' => v = none ∧ μ' = rd_clr μ o 10) := by
  refine rd_enter (by decide +kernel) (Nat.le_of_ble_eq_true rfl) [rd_R o, rd_J] rfl (fun p e s m args below meth c C => ?_)
  refine rd_W.rng (fun hM hL _ => ?_)
  refine rd_aload_n C dX7_clear_0 rfl ?_
  refine rd_iconst C dX7_clear_1 (n := 0) ⟨by decide, by decide⟩ ?_
  refine rd_put C rd_p7_0 rf_X7_24 dX7_clear_2 hS.1 hS.2.2.2.2.2.1 (by omega) ?_
  refine rd_aload_n C dX7_clear_5 rfl ?_
  refine rd_iconst C dX7_clear_6 (n := 0) ⟨by decide, by decide⟩ ?_
  refine rd_put C rd_p7_1 rf_X7_28 dX7_clear_7 hS.1 hS.2.2.2.2.2.1 (by omega) ?_
  refine rd_aload_n C dX7_clear_10 rfl ?_
  refine rd_iconst C dX7_clear_11 (n := 0) ⟨by decide, by decide⟩ ?_
  refine rd_put C rd_p7_2 rf_X7_31 dX7_clear_12 hS.1 hS.2.2.2.2.2.1 trivial ?_
  refine rd_aload_n C dX7_clear_15 rfl ?_
  refine rd_iconst C dX7_clear_16 (n := 0) ⟨by decide, by decide⟩ ?_
  refine rd_put C rd_p7_3 rf_X7_35 dX7_clear_17 hS.1 hS.2.2.2.2.2.1 trivial ?_
  refine rd_iconst C dX7_clear_20 (n := 0) ⟨by decide, by decide⟩ ?_
  refine rd_istore_n C dX7_clear_21 (by decide) (L' := [rd_R o, rd_I 0]) rfl ?_
  have lp22 : ∀ (n : Nat) (k : Int) (μ1 : rd_Mem), (0 ≤ k) → (k ≤ 10) → (10 < k + n) → (μ1 = rd_clr μ o k) → rd_W p l e (rd_rm 0 0) s m args below meth c (MQ below (rd_Qc G rd_kc 313 r (fun v μ' => v = none ∧ μ' = rd_clr μ o 10)) args s 0 0 (rd_A r 313)) 2 G rd_kc 313 r 22 [rd_R o, rd_I k] [] μ1 := by
    intro n
    induction n with
    | zero => intro k μ1  h1 h2 h3 hm; exfalso; omega
    | succ n ih =>
      intro k μ1  h1 h2 h3 hm
      refine rd_iload_n C dX7_clear_22 rfl ?_
      refine rd_aload_n C dX7_clear_23 rfl ?_
      refine rd_get C rd_g7_7 rf_X7_21 dX7_clear_24 hS.1 hS.2.2.2.2.2.1 (x := rd_R (o + 4)) rfl (fun _ => trivial) ?_
      refine rd_alen C rd_al11 dX7_clear_27 hS.2.2.2.2.1 hS.2.2.2.2.2.2.2.2.2 (z := 10) rfl ⟨by decide, by decide⟩ ?_
      refine rd_icmp_ge C dX7_clear_28 (tgt := 44) (by decide) (fun h_28 => ?_) (fun h_28 => ?_)
      · exact rd_vret C dX7_clear_44 ⟨rfl, by rw [hm, show k = 10 by omega]⟩
      · refine rd_aload_n C dX7_clear_31 rfl ?_
        refine rd_get C rd_g7_7 rf_X7_21 dX7_clear_32 hS.1 hS.2.2.2.2.2.1 (x := rd_R (o + 4)) rfl (fun _ => trivial) ?_
        refine rd_iload_n C dX7_clear_35 rfl ?_
        refine rd_iconst C dX7_clear_36 (n := -1) ⟨by decide, by decide⟩ ?_
        refine rd_iast C rd_ai11 dX7_clear_37 hS.2.2.2.2.1 hS.2.2.2.2.2.2.2.2.2 ⟨by omega, by omega⟩ ?_
        refine rd_iinc C dX7_clear_38 (by decide) rfl ⟨by omega, by omega⟩ (L' := [rd_R o, rd_I (k + 1)]) rfl ?_
        refine rd_goto C dX7_clear_41 (tgt := 22) (by decide) ?_
        exact ih (k + 1) _ (by omega) (by omega) (by omega) (by rw [hm]; exact (by funext a b; simp only [rd_u, rd_clr]; (repeat' split) <;> first | rfl | (exfalso; omega)))
  exact lp22 11 0 _ (by omega) (by omega) (by omega) (by funext a b; simp only [rd_u, rd_clr]; (repeat' split) <;> first | rfl | (exfalso; omega))
def rd_scp (μ : rd_Mem) (o q : Int) : rd_Mem := fun a b => if a = o ∧ (0 ≤ b ∧ b < 4) then μ q b else if a = o + 1 ∧ (0 ≤ b ∧ b < 6) then μ (q + 1) b else if a = o + 2 ∧ (0 ≤ b ∧ b < 6) then μ (q + 2) b else if a = o + 3 ∧ (0 ≤ b ∧ b < 6) then μ (q + 3) b else if a = o + 4 ∧ (0 ≤ b ∧ b < 10) then μ (q + 4) b else μ a b
set_option maxHeartbeats 4000000 in
set_option maxRecDepth 100000 in
theorem c_X7_copyFrom {l : Launch} {G : rd_G} {r : Nat} {μ : rd_Mem} {o q : Int} (hS : rd_isS rd_kc 313 o) (hQ : rd_isS rd_kc 313 q) (hne : o + 5 ≤ q ∨ q + 5 ≤ o) (hz0 : μ q 0 = 0 ∨ μ q 0 = 1) (hz1 : μ q 1 = 0 ∨ μ q 1 = 1) : rd_M l G rd_kc 313 r yX7_copyFrom cX7_copyFrom 2 none (rd_rm 1 40) [rd_R o, rd_R q] μ (fun v μ' => v = none ∧ μ' = rd_scp μ o q) := by
  refine rd_enter (by decide +kernel) (Nat.le_of_ble_eq_true rfl) [rd_R o, rd_R q] rfl (fun p e s m args below meth c C => ?_)
  refine rd_W.rng (fun hM hL _ => ?_)
  refine rd_aload_n C dX7_copyFrom_0 rfl ?_
  refine rd_aload_n C dX7_copyFrom_1 rfl ?_
  refine rd_get C rd_g7_0 rf_X7_24 dX7_copyFrom_2 hQ.1 hQ.2.2.2.2.2.1 (x := rd_I (μ q 0)) rfl (fun h => h _ _) ?_
  refine rd_put C rd_p7_0 rf_X7_24 dX7_copyFrom_5 hS.1 hS.2.2.2.2.2.1 (hz0) ?_
  refine rd_aload_n C dX7_copyFrom_8 rfl ?_
  refine rd_aload_n C dX7_copyFrom_9 rfl ?_
  refine rd_getx C rd_g7_1 rf_X7_28 dX7_copyFrom_10 hQ.1 hQ.2.2.2.2.2.1 rfl (z := μ q 1) (by rw [rd_u_k _ _ _ (by omega)]) ?_
  refine rd_put C rd_p7_1 rf_X7_28 dX7_copyFrom_13 hS.1 hS.2.2.2.2.2.1 (hz1) ?_
  refine rd_aload_n C dX7_copyFrom_16 rfl ?_
  refine rd_aload_n C dX7_copyFrom_17 rfl ?_
  refine rd_getx C rd_g7_2 rf_X7_31 dX7_copyFrom_18 hQ.1 hQ.2.2.2.2.2.1 rfl (z := μ q 2) (by rw [rd_u_k _ _ _ (by omega), rd_u_k _ _ _ (by omega)]) ?_
  refine rd_put C rd_p7_2 rf_X7_31 dX7_copyFrom_21 hS.1 hS.2.2.2.2.2.1 trivial ?_
  refine rd_aload_n C dX7_copyFrom_24 rfl ?_
  refine rd_aload_n C dX7_copyFrom_25 rfl ?_
  refine rd_getx C rd_g7_3 rf_X7_35 dX7_copyFrom_26 hQ.1 hQ.2.2.2.2.2.1 rfl (z := μ q 3) (by rw [rd_u_k _ _ _ (by omega), rd_u_k _ _ _ (by omega), rd_u_k _ _ _ (by omega)]) ?_
  refine rd_put C rd_p7_3 rf_X7_35 dX7_copyFrom_29 hS.1 hS.2.2.2.2.2.1 trivial ?_
  refine rd_aload_n C dX7_copyFrom_32 rfl ?_
  refine rd_get C rd_g7_4 rf_X7_9 dX7_copyFrom_33 hQ.1 hQ.2.2.2.2.2.1 (x := rd_R (q + 1)) rfl (fun _ => trivial) ?_
  refine rd_iconst C dX7_copyFrom_36 (n := 0) ⟨by decide, by decide⟩ ?_
  refine rd_aload_n C dX7_copyFrom_37 rfl ?_
  refine rd_get C rd_g7_4 rf_X7_9 dX7_copyFrom_38 hS.1 hS.2.2.2.2.2.1 (x := rd_R (o + 1)) rfl (fun _ => trivial) ?_
  refine rd_iconst C dX7_copyFrom_41 (n := 0) ⟨by decide, by decide⟩ ?_
  refine rd_bipush C dX7_copyFrom_42 (n := 6) (by decide) ⟨by decide, by decide⟩ ?_
  refine rd_acopy C rd_ai12 rm_X7_38 rn_System_arraycopy rt_System_arraycopy rz_J10 ⟨by decide, by decide⟩ (by decide) dX7_copyFrom_44 hQ.2.1 hQ.2.2.2.2.2.2.1 hS.2.1 hS.2.2.2.2.2.2.1 rfl (by decide) ?_
  refine rd_aload_n C dX7_copyFrom_47 rfl ?_
  refine rd_get C rd_g7_5 rf_X7_15 dX7_copyFrom_48 hQ.1 hQ.2.2.2.2.2.1 (x := rd_R (q + 2)) rfl (fun _ => trivial) ?_
  refine rd_iconst C dX7_copyFrom_51 (n := 0) ⟨by decide, by decide⟩ ?_
  refine rd_aload_n C dX7_copyFrom_52 rfl ?_
  refine rd_get C rd_g7_5 rf_X7_15 dX7_copyFrom_53 hS.1 hS.2.2.2.2.2.1 (x := rd_R (o + 2)) rfl (fun _ => trivial) ?_
  refine rd_iconst C dX7_copyFrom_56 (n := 0) ⟨by decide, by decide⟩ ?_
  refine rd_bipush C dX7_copyFrom_57 (n := 6) (by decide) ⟨by decide, by decide⟩ ?_
  refine rd_acopy C rd_ai12 rm_X7_38 rn_System_arraycopy rt_System_arraycopy rz_J10 ⟨by decide, by decide⟩ (by decide) dX7_copyFrom_59 hQ.2.2.1 hQ.2.2.2.2.2.2.2.1 hS.2.2.1 hS.2.2.2.2.2.2.2.1 rfl (by decide) ?_
  refine rd_aload_n C dX7_copyFrom_62 rfl ?_
  refine rd_get C rd_g7_6 rf_X7_18 dX7_copyFrom_63 hQ.1 hQ.2.2.2.2.2.1 (x := rd_R (q + 3)) rfl (fun _ => trivial) ?_
  refine rd_iconst C dX7_copyFrom_66 (n := 0) ⟨by decide, by decide⟩ ?_
  refine rd_aload_n C dX7_copyFrom_67 rfl ?_
  refine rd_get C rd_g7_6 rf_X7_18 dX7_copyFrom_68 hS.1 hS.2.2.2.2.2.1 (x := rd_R (o + 3)) rfl (fun _ => trivial) ?_
  refine rd_iconst C dX7_copyFrom_71 (n := 0) ⟨by decide, by decide⟩ ?_
  refine rd_bipush C dX7_copyFrom_72 (n := 6) (by decide) ⟨by decide, by decide⟩ ?_
  refine rd_acopy C rd_ai12 rm_X7_38 rn_System_arraycopy rt_System_arraycopy rz_J10 ⟨by decide, by decide⟩ (by decide) dX7_copyFrom_74 hQ.2.2.2.1 hQ.2.2.2.2.2.2.2.2.1 hS.2.2.2.1 hS.2.2.2.2.2.2.2.2.1 rfl (by decide) ?_
  refine rd_aload_n C dX7_copyFrom_77 rfl ?_
  refine rd_get C rd_g7_7 rf_X7_21 dX7_copyFrom_78 hQ.1 hQ.2.2.2.2.2.1 (x := rd_R (q + 4)) rfl (fun _ => trivial) ?_
  refine rd_iconst C dX7_copyFrom_81 (n := 0) ⟨by decide, by decide⟩ ?_
  refine rd_aload_n C dX7_copyFrom_82 rfl ?_
  refine rd_get C rd_g7_7 rf_X7_21 dX7_copyFrom_83 hS.1 hS.2.2.2.2.2.1 (x := rd_R (o + 4)) rfl (fun _ => trivial) ?_
  refine rd_iconst C dX7_copyFrom_86 (n := 0) ⟨by decide, by decide⟩ ?_
  refine rd_bipush C dX7_copyFrom_87 (n := 10) (by decide) ⟨by decide, by decide⟩ ?_
  refine rd_acopy C rd_ai11 rm_X7_38 rn_System_arraycopy rt_System_arraycopy rz_J10 ⟨by decide, by decide⟩ (by decide) dX7_copyFrom_89 hQ.2.2.2.2.1 hQ.2.2.2.2.2.2.2.2.2 hS.2.2.2.2.1 hS.2.2.2.2.2.2.2.2.2 rfl (by decide) ?_
  exact rd_vret C dX7_copyFrom_92 ⟨rfl, (by funext a b; simp only [rd_u, rd_cp, rd_scp]; (repeat' split) <;> first | rfl | (exfalso; omega) | grind)⟩
set_option maxHeartbeats 4000000 in
set_option maxRecDepth 100000 in
theorem c_X7_putItem {l : Launch} {G : rd_G} {r : Nat} {μ : rd_Mem} {o : Int} (hS : rd_isS rd_kc 313 o) {a b t : Int} (h0 : 0 ≤ μ o 3) (h6 : μ o 3 < 6) : rd_M l G rd_kc 313 r yX7_putItem cX7_putItem 4 none (rd_rm 0 0) [rd_R o, rd_I a, rd_I b, rd_I t] μ (fun v μ' => v = none ∧ μ' = rd_u (rd_u (rd_u (rd_u μ (o + 1) (μ o 3) a) (o + 2) (μ o 3) b) (o + 3) (μ o 3) t) o 3 (μ o 3 + 1)) := by
  refine rd_enter (by decide +kernel) (Nat.le_of_ble_eq_true rfl) [rd_R o, rd_I a, rd_I b, rd_I t] rfl (fun p e s m args below meth c C => ?_)
  refine rd_W.rng (fun hM hL _ => ?_)
  refine rd_aload_n C dX7_putItem_0 rfl ?_
  refine rd_get C rd_g7_3 rf_X7_35 dX7_putItem_1 hS.1 hS.2.2.2.2.2.1 (x := rd_I (μ o 3)) rfl (fun h => h _ _) ?_
  refine rd_bipush C dX7_putItem_4 (n := 6) (by decide) ⟨by decide, by decide⟩ ?_
  refine rd_icmp_lt C dX7_putItem_6 (tgt := 10) (by decide) (fun h_6 => ?_) (fun h_6 => ?_)
  · refine rd_aload_n C dX7_putItem_10 rfl ?_
    refine rd_get C rd_g7_4 rf_X7_9 dX7_putItem_11 hS.1 hS.2.2.2.2.2.1 (x := rd_R (o + 1)) rfl (fun _ => trivial) ?_
    refine rd_aload_n C dX7_putItem_14 rfl ?_
    refine rd_get C rd_g7_3 rf_X7_35 dX7_putItem_15 hS.1 hS.2.2.2.2.2.1 (x := rd_I (μ o 3)) rfl (fun h => h _ _) ?_
    refine rd_iload_n C dX7_putItem_18 rfl ?_
    refine rd_iast C rd_ai12 dX7_putItem_19 hS.2.1 hS.2.2.2.2.2.2.1 ⟨by omega, by omega⟩ ?_
    refine rd_aload_n C dX7_putItem_20 rfl ?_
    refine rd_get C rd_g7_5 rf_X7_15 dX7_putItem_21 hS.1 hS.2.2.2.2.2.1 (x := rd_R (o + 2)) rfl (fun _ => trivial) ?_
    refine rd_aload_n C dX7_putItem_24 rfl ?_
    refine rd_getx C rd_g7_3 rf_X7_35 dX7_putItem_25 hS.1 hS.2.2.2.2.2.1 rfl (z := μ o 3) (by rw [rd_u_k _ _ _ (by omega)]) ?_
    refine rd_iload_n C dX7_putItem_28 rfl ?_
    refine rd_iast C rd_ai12 dX7_putItem_29 hS.2.2.1 hS.2.2.2.2.2.2.2.1 ⟨by omega, by omega⟩ ?_
    refine rd_aload_n C dX7_putItem_30 rfl ?_
    refine rd_get C rd_g7_6 rf_X7_18 dX7_putItem_31 hS.1 hS.2.2.2.2.2.1 (x := rd_R (o + 3)) rfl (fun _ => trivial) ?_
    refine rd_aload_n C dX7_putItem_34 rfl ?_
    refine rd_getx C rd_g7_3 rf_X7_35 dX7_putItem_35 hS.1 hS.2.2.2.2.2.1 rfl (z := μ o 3) (by rw [rd_u_k _ _ _ (by omega), rd_u_k _ _ _ (by omega)]) ?_
    refine rd_iload_n C dX7_putItem_38 rfl ?_
    refine rd_iast C rd_ai12 dX7_putItem_39 hS.2.2.2.1 hS.2.2.2.2.2.2.2.2.1 ⟨by omega, by omega⟩ ?_
    refine rd_aload_n C dX7_putItem_40 rfl ?_
    refine rd_dup C dX7_putItem_41 ?_
    refine rd_getx C rd_g7_3 rf_X7_35 dX7_putItem_42 hS.1 hS.2.2.2.2.2.1 rfl (z := μ o 3) (by rw [rd_u_k _ _ _ (by omega), rd_u_k _ _ _ (by omega), rd_u_k _ _ _ (by omega)]) ?_
    refine rd_iconst C dX7_putItem_45 (n := 1) ⟨by decide, by decide⟩ ?_
    refine rd_iadd C dX7_putItem_46 (z := μ o 3 + 1) rfl ⟨by omega, by omega⟩ ?_
    refine rd_put C rd_p7_3 rf_X7_35 dX7_putItem_47 hS.1 hS.2.2.2.2.2.1 trivial ?_
    exact rd_vret C dX7_putItem_50 ⟨rfl, rfl⟩
  · exfalso; omega
def rd_dit (μ : rd_Mem) (o p k n : Int) : rd_Mem := fun a b => if a = o ∧ b = 3 then n else if (a = o + 1 ∨ a = o + 2 ∨ a = o + 3) ∧ (p ≤ b ∧ b < k) then μ a (b + 1) else μ a b
set_option maxHeartbeats 4000000 in
set_option maxRecDepth 100000 in
theorem c_X7_dropItem {l : Launch} {G : rd_G} {r : Nat} {μ : rd_Mem} {o : Int} (hS : rd_isS rd_kc 313 o) {p0 : Int} (h6 : μ o 3 ≤ 6) (hp0 : 0 ≤ p0) (hp1 : p0 < μ o 3) : rd_M l G rd_kc 313 r yX7_dropItem cX7_dropItem 3 none (rd_rm 1 22) [rd_R o, rd_I p0] μ (fun v μ' => v = none ∧ μ' = rd_dit μ o p0 (μ o 3 - 1) (μ o 3 - 1)) := by
  refine rd_enter (by decide +kernel) (Nat.le_of_ble_eq_true rfl) [rd_R o, rd_I p0, rd_J] rfl (fun p e s m args below meth c C => ?_)
  refine rd_W.rng (fun hM hL _ => ?_)
  refine rd_iload_n C dX7_dropItem_0 rfl ?_
  refine rd_iconst C dX7_dropItem_1 (n := 0) ⟨by decide, by decide⟩ ?_
  refine rd_aload_n C dX7_dropItem_2 rfl ?_
  refine rd_get C rd_g7_3 rf_X7_35 dX7_dropItem_3 hS.1 hS.2.2.2.2.2.1 (x := rd_I (μ o 3)) rfl (fun h => h _ _) ?_
  refine rd_iconst C dX7_dropItem_6 (n := 1) ⟨by decide, by decide⟩ ?_
  refine rd_isub C dX7_dropItem_7 (z := μ o 3 - 1) rfl ⟨by omega, by omega⟩ ?_
  refine rd_callSN C (c_X9_isWithin) rx_X7_44 rt_X9_isWithin rc_X9_isWithin rz_X9 ⟨rp_X9_isWithin, rfl, rfl, by decide, by decide⟩ rfl dX7_dropItem_8 rfl (by decide) (fun v1 μ1 hq => ?_)
  rcases hq with ⟨hw_11, hv1, hm1⟩ | ⟨hw_11, hv1, hm1⟩
  rotate_left
  · exfalso; omega
  rw [hv1, hm1]; clear hv1 hm1 v1 μ1
  refine rd_if_ne C dX7_dropItem_11 (tgt := 15) (by decide) (fun _ => ?_) (fun h => absurd h (by decide))
  refine rd_aload_n C dX7_dropItem_15 rfl ?_
  refine rd_dup C dX7_dropItem_16 ?_
  refine rd_get C rd_g7_3 rf_X7_35 dX7_dropItem_17 hS.1 hS.2.2.2.2.2.1 (x := rd_I (μ o 3)) rfl (fun h => h _ _) ?_
  refine rd_iconst C dX7_dropItem_20 (n := 1) ⟨by decide, by decide⟩ ?_
  refine rd_isub C dX7_dropItem_21 (z := μ o 3 - 1) rfl ⟨by omega, by omega⟩ ?_
  refine rd_put C rd_p7_3 rf_X7_35 dX7_dropItem_22 hS.1 hS.2.2.2.2.2.1 trivial ?_
  refine rd_iload_n C dX7_dropItem_25 rfl ?_
  refine rd_istore_n C dX7_dropItem_26 (by decide) (L' := [rd_R o, rd_I p0, rd_I p0]) rfl ?_
  have lp27 : ∀ (n : Nat) (k : Int) (μ1 : rd_Mem), (p0 ≤ k) → (k ≤ μ o 3 - 1) → (μ o 3 - 1 < k + n) → (μ1 = rd_dit μ o p0 k (μ o 3 - 1)) → rd_W p l e (rd_rm 1 22) s m args below meth c (MQ below (rd_Qc G rd_kc 313 r (fun v μ' => v = none ∧ μ' = rd_dit μ o p0 (μ o 3 - 1) (μ o 3 - 1))) args s 0 0 (rd_A r 313)) 3 G rd_kc 313 r 27 [rd_R o, rd_I p0, rd_I k] [] μ1 := by
    intro n
    induction n with
    | zero => intro k μ1  h1 h2 h3 hm; exfalso; omega
    | succ n ih =>
      intro k μ1  h1 h2 h3 hm
      have hc3 : μ1 o 3 = μ o 3 - 1 := by rw [hm]; simp [rd_dit]
      refine rd_iload_n C dX7_dropItem_27 rfl ?_
      refine rd_aload_n C dX7_dropItem_28 rfl ?_
      refine rd_get C rd_g7_3 rf_X7_35 dX7_dropItem_29 hS.1 hS.2.2.2.2.2.1 (x := rd_I (μ1 o 3)) rfl (fun h => h _ _) ?_
      refine rd_icmp_ge C dX7_dropItem_32 (tgt := 83) (by decide) (fun h_32 => ?_) (fun h_32 => ?_)
      · exact rd_vret C dX7_dropItem_83 ⟨rfl, by rw [hm, show k = μ o 3 - 1 by omega]⟩
      · refine rd_aload_n C dX7_dropItem_35 rfl ?_
        refine rd_get C rd_g7_4 rf_X7_9 dX7_dropItem_36 hS.1 hS.2.2.2.2.2.1 (x := rd_R (o + 1)) rfl (fun _ => trivial) ?_
        refine rd_iload_n C dX7_dropItem_39 rfl ?_
        refine rd_aload_n C dX7_dropItem_40 rfl ?_
        refine rd_get C rd_g7_4 rf_X7_9 dX7_dropItem_41 hS.1 hS.2.2.2.2.2.1 (x := rd_R (o + 1)) rfl (fun _ => trivial) ?_
        refine rd_iload_n C dX7_dropItem_44 rfl ?_
        refine rd_iconst C dX7_dropItem_45 (n := 1) ⟨by decide, by decide⟩ ?_
        refine rd_iadd C dX7_dropItem_46 (z := k + 1) rfl ⟨by omega, by omega⟩ ?_
        refine rd_ialdx C rd_ai12 dX7_dropItem_47 hS.2.1 hS.2.2.2.2.2.2.1 ⟨by omega, by omega⟩ (z := μ1 (o + 1) (k + 1)) rfl ?_
        refine rd_iast C rd_ai12 dX7_dropItem_48 hS.2.1 hS.2.2.2.2.2.2.1 ⟨by omega, by omega⟩ ?_
        refine rd_aload_n C dX7_dropItem_49 rfl ?_
        refine rd_get C rd_g7_5 rf_X7_15 dX7_dropItem_50 hS.1 hS.2.2.2.2.2.1 (x := rd_R (o + 2)) rfl (fun _ => trivial) ?_
        refine rd_iload_n C dX7_dropItem_53 rfl ?_
        refine rd_aload_n C dX7_dropItem_54 rfl ?_
        refine rd_get C rd_g7_5 rf_X7_15 dX7_dropItem_55 hS.1 hS.2.2.2.2.2.1 (x := rd_R (o + 2)) rfl (fun _ => trivial) ?_
        refine rd_iload_n C dX7_dropItem_58 rfl ?_
        refine rd_iconst C dX7_dropItem_59 (n := 1) ⟨by decide, by decide⟩ ?_
        refine rd_iadd C dX7_dropItem_60 (z := k + 1) rfl ⟨by omega, by omega⟩ ?_
        refine rd_ialdx C rd_ai12 dX7_dropItem_61 hS.2.2.1 hS.2.2.2.2.2.2.2.1 ⟨by omega, by omega⟩ (z := μ1 (o + 2) (k + 1)) (by rw [rd_u_k _ _ _ (by omega)]) ?_
        refine rd_iast C rd_ai12 dX7_dropItem_62 hS.2.2.1 hS.2.2.2.2.2.2.2.1 ⟨by omega, by omega⟩ ?_
        refine rd_aload_n C dX7_dropItem_63 rfl ?_
        refine rd_get C rd_g7_6 rf_X7_18 dX7_dropItem_64 hS.1 hS.2.2.2.2.2.1 (x := rd_R (o + 3)) rfl (fun _ => trivial) ?_
        refine rd_iload_n C dX7_dropItem_67 rfl ?_
        refine rd_aload_n C dX7_dropItem_68 rfl ?_
        refine rd_get C rd_g7_6 rf_X7_18 dX7_dropItem_69 hS.1 hS.2.2.2.2.2.1 (x := rd_R (o + 3)) rfl (fun _ => trivial) ?_
        refine rd_iload_n C dX7_dropItem_72 rfl ?_
        refine rd_iconst C dX7_dropItem_73 (n := 1) ⟨by decide, by decide⟩ ?_
        refine rd_iadd C dX7_dropItem_74 (z := k + 1) rfl ⟨by omega, by omega⟩ ?_
        refine rd_ialdx C rd_ai12 dX7_dropItem_75 hS.2.2.2.1 hS.2.2.2.2.2.2.2.2.1 ⟨by omega, by omega⟩ (z := μ1 (o + 3) (k + 1)) (by rw [rd_u_k _ _ _ (by omega), rd_u_k _ _ _ (by omega)]) ?_
        refine rd_iast C rd_ai12 dX7_dropItem_76 hS.2.2.2.1 hS.2.2.2.2.2.2.2.2.1 ⟨by omega, by omega⟩ ?_
        refine rd_iinc C dX7_dropItem_77 (by decide) rfl ⟨by omega, by omega⟩ (L' := [rd_R o, rd_I p0, rd_I (k + 1)]) rfl ?_
        refine rd_goto C dX7_dropItem_80 (tgt := 27) (by decide) ?_
        exact ih (k + 1) _ (by omega) (by omega) (by omega) (by rw [hm]; funext a b; simp only [rd_u, rd_dit]; (repeat' split) <;> first | rfl | (exfalso; omega) | grind)
  exact lp27 (μ o 3).toNat p0 _ (by omega) (by omega) (by omega) (by funext a b; simp only [rd_u, rd_dit]; (repeat' split) <;> first | rfl | (exfalso; omega))
set_option maxHeartbeats 4000000 in
set_option maxRecDepth 100000 in
theorem c_X7_targetOf {l : Launch} {G : rd_G} {r : Nat} {μ : rd_Mem} {o : Int} (hS : rd_isS rd_kc 313 o) {k : Int} : rd_M l G rd_kc 313 r yX7_targetOf cX7_targetOf 2 (some .int) (rd_rm 1 22) [rd_R o, rd_I k] μ (fun v μ' => v = some (rd_I (sp_if (0 ≤ k ∧ k ≤ 9) (μ (o + 4) k) (-1))) ∧ μ' = μ) := by
  refine rd_enter (by decide +kernel) (Nat.le_of_ble_eq_true rfl) [rd_R o, rd_I k] rfl (fun p e s m args below meth c C => ?_)
  refine rd_W.rng (fun hM hL _ => ?_)
  refine rd_iload_n C dX7_targetOf_0 rfl ?_
  refine rd_iconst C dX7_targetOf_1 (n := 0) ⟨by decide, by decide⟩ ?_
  refine rd_bipush C dX7_targetOf_2 (n := 9) (by decide) ⟨by decide, by decide⟩ ?_
  refine rd_callSN C (c_X9_isWithin) rx_X7_44 rt_X9_isWithin rc_X9_isWithin rz_X9 ⟨rp_X9_isWithin, rfl, rfl, by decide, by decide⟩ rfl dX7_targetOf_4 rfl (by decide) (fun v1 μ1 hq => ?_)
  rcases hq with ⟨hw_7, hv1, hm1⟩ | ⟨hw_7, hv1, hm1⟩
  · rw [hv1, hm1]; clear hv1 hm1 v1 μ1
    refine rd_if_eq C dX7_targetOf_7 (tgt := 19) (by decide) (fun h => absurd h (by decide)) (fun _ => ?_)
    refine rd_aload_n C dX7_targetOf_10 rfl ?_
    refine rd_get C rd_g7_7 rf_X7_21 dX7_targetOf_11 hS.1 hS.2.2.2.2.2.1 (x := rd_R (o + 4)) rfl (fun _ => trivial) ?_
    refine rd_iload_n C dX7_targetOf_14 rfl ?_
    refine rd_ialdx C rd_ai11 dX7_targetOf_15 hS.2.2.2.2.1 hS.2.2.2.2.2.2.2.2.2 ⟨by omega, by omega⟩ (z := μ (o + 4) k) rfl ?_
    refine rd_goto C dX7_targetOf_16 (tgt := 20) (by decide) ?_
    exact rd_iret C dX7_targetOf_20 ⟨by first | rw [sp_ift (by omega)] | rw [sp_iff (by omega)], rfl⟩
  · rw [hv1, hm1]; clear hv1 hm1 v1 μ1
    refine rd_if_eq C dX7_targetOf_7 (tgt := 19) (by decide) (fun _ => ?_) (fun h => absurd h (by decide))
    refine rd_iconst C dX7_targetOf_19 (n := -1) ⟨by decide, by decide⟩ ?_
    exact rd_iret C dX7_targetOf_20 ⟨by first | rw [sp_ift (by omega)] | rw [sp_iff (by omega)], rfl⟩
set_option maxHeartbeats 4000000 in
set_option maxRecDepth 100000 in
theorem c_X7_setTarget {l : Launch} {G : rd_G} {r : Nat} {μ : rd_Mem} {o : Int} (hS : rd_isS rd_kc 313 o) {k t : Int} (hk0 : 0 ≤ k) (hk9 : k ≤ 9) : rd_M l G rd_kc 313 r yX7_setTarget cX7_setTarget 3 none (rd_rm 1 22) [rd_R o, rd_I k, rd_I t] μ (fun v μ' => v = none ∧ μ' = rd_u μ (o + 4) k t) := by
  refine rd_enter (by decide +kernel) (Nat.le_of_ble_eq_true rfl) [rd_R o, rd_I k, rd_I t] rfl (fun p e s m args below meth c C => ?_)
  refine rd_W.rng (fun hM hL _ => ?_)
  refine rd_iload_n C dX7_setTarget_0 rfl ?_
  refine rd_iconst C dX7_setTarget_1 (n := 0) ⟨by decide, by decide⟩ ?_
  refine rd_bipush C dX7_setTarget_2 (n := 9) (by decide) ⟨by decide, by decide⟩ ?_
  refine rd_callSN C (c_X9_isWithin) rx_X7_44 rt_X9_isWithin rc_X9_isWithin rz_X9 ⟨rp_X9_isWithin, rfl, rfl, by decide, by decide⟩ rfl dX7_setTarget_4 rfl (by decide) (fun v1 μ1 hq => ?_)
  rcases hq with ⟨hw_7, hv1, hm1⟩ | ⟨hw_7, hv1, hm1⟩
  rotate_left
  · exfalso; omega
  rw [hv1, hm1]; clear hv1 hm1 v1 μ1
  refine rd_if_eq C dX7_setTarget_7 (tgt := 17) (by decide) (fun h => absurd h (by decide)) (fun _ => ?_)
  refine rd_aload_n C dX7_setTarget_10 rfl ?_
  refine rd_get C rd_g7_7 rf_X7_21 dX7_setTarget_11 hS.1 hS.2.2.2.2.2.1 (x := rd_R (o + 4)) rfl (fun _ => trivial) ?_
  refine rd_iload_n C dX7_setTarget_14 rfl ?_
  refine rd_iload_n C dX7_setTarget_15 rfl ?_
  refine rd_iast C rd_ai11 dX7_setTarget_16 hS.2.2.2.2.1 hS.2.2.2.2.2.2.2.2.2 ⟨by omega, by omega⟩ ?_
  exact rd_vret C dX7_setTarget_17 ⟨rfl, rfl⟩
def rd_dlk (μ : rd_Mem) (o t k : Int) : rd_Mem := fun a b => if a = o + 4 ∧ (0 ≤ b ∧ b < k) ∧ μ a b = t then -1 else μ a b
set_option maxHeartbeats 4000000 in
set_option maxRecDepth 100000 in
theorem c_X7_dropLinksTo {l : Launch} {G : rd_G} {r : Nat} {μ : rd_Mem} {o : Int} (hS : rd_isS rd_kc 313 o) {t : Int} : rd_M l G rd_kc 313 r yX7_dropLinksTo cX7_dropLinksTo 3 none (rd_rm 0 0) [rd_R o, rd_I t] μ (fun v μ' => v = none ∧ μ' = rd_dlk μ o t 10) := by
  refine rd_enter (by decide +kernel) (Nat.le_of_ble_eq_true rfl) [rd_R o, rd_I t, rd_J] rfl (fun p e s m args below meth c C => ?_)
  refine rd_W.rng (fun hM hL _ => ?_)
  refine rd_iconst C dX7_dropLinksTo_0 (n := 0) ⟨by decide, by decide⟩ ?_
  refine rd_istore_n C dX7_dropLinksTo_1 (by decide) (L' := [rd_R o, rd_I t, rd_I 0]) rfl ?_
  have lp2 : ∀ (n : Nat) (k : Int) (μ1 : rd_Mem), (0 ≤ k) → (k ≤ 10) → (10 < k + n) → (μ1 = rd_dlk μ o t k) → rd_W p l e (rd_rm 0 0) s m args below meth c (MQ below (rd_Qc G rd_kc 313 r (fun v μ' => v = none ∧ μ' = rd_dlk μ o t 10)) args s 0 0 (rd_A r 313)) 3 G rd_kc 313 r 2 [rd_R o, rd_I t, rd_I k] [] μ1 := by
    intro n
    induction n with
    | zero => intro k μ1  h1 h2 h3 hm; exfalso; omega
    | succ n ih =>
      intro k μ1  h1 h2 h3 hm
      refine rd_iload_n C dX7_dropLinksTo_2 rfl ?_
      refine rd_aload_n C dX7_dropLinksTo_3 rfl ?_
      refine rd_get C rd_g7_7 rf_X7_21 dX7_dropLinksTo_4 hS.1 hS.2.2.2.2.2.1 (x := rd_R (o + 4)) rfl (fun _ => trivial) ?_
      refine rd_alen C rd_al11 dX7_dropLinksTo_7 hS.2.2.2.2.1 hS.2.2.2.2.2.2.2.2.2 (z := 10) rfl ⟨by decide, by decide⟩ ?_
      refine rd_icmp_ge C dX7_dropLinksTo_8 (tgt := 34) (by decide) (fun h_8 => ?_) (fun h_8 => ?_)
      · exact rd_vret C dX7_dropLinksTo_34 ⟨rfl, by rw [hm, show k = 10 by omega]⟩
      · refine rd_aload_n C dX7_dropLinksTo_11 rfl ?_
        refine rd_get C rd_g7_7 rf_X7_21 dX7_dropLinksTo_12 hS.1 hS.2.2.2.2.2.1 (x := rd_R (o + 4)) rfl (fun _ => trivial) ?_
        refine rd_iload_n C dX7_dropLinksTo_15 rfl ?_
        refine rd_ialdx C rd_ai11 dX7_dropLinksTo_16 hS.2.2.2.2.1 hS.2.2.2.2.2.2.2.2.2 ⟨by omega, by omega⟩ (z := μ1 (o + 4) k) rfl ?_
        refine rd_iload_n C dX7_dropLinksTo_17 rfl ?_
        refine rd_icmp_ne C dX7_dropLinksTo_18 (tgt := 28) (by decide) (fun h_18 => ?_) (fun h_18 => ?_)
        · refine rd_iinc C dX7_dropLinksTo_28 (by decide) rfl ⟨by omega, by omega⟩ (L' := [rd_R o, rd_I t, rd_I (k + 1)]) rfl ?_
          refine rd_goto C dX7_dropLinksTo_31 (tgt := 2) (by decide) ?_
          exact ih (k + 1) _ (by omega) (by omega) (by omega) (by rw [hm] at h_18 ⊢; simp only [rd_dlk] at h_18; funext a b; simp only [rd_u, rd_dlk]; grind)
        · refine rd_aload_n C dX7_dropLinksTo_21 rfl ?_
          refine rd_get C rd_g7_7 rf_X7_21 dX7_dropLinksTo_22 hS.1 hS.2.2.2.2.2.1 (x := rd_R (o + 4)) rfl (fun _ => trivial) ?_
          refine rd_iload_n C dX7_dropLinksTo_25 rfl ?_
          refine rd_iconst C dX7_dropLinksTo_26 (n := -1) ⟨by decide, by decide⟩ ?_
          refine rd_iast C rd_ai11 dX7_dropLinksTo_27 hS.2.2.2.2.1 hS.2.2.2.2.2.2.2.2.2 ⟨by omega, by omega⟩ ?_
          refine rd_iinc C dX7_dropLinksTo_28 (by decide) rfl ⟨by omega, by omega⟩ (L' := [rd_R o, rd_I t, rd_I (k + 1)]) rfl ?_
          refine rd_goto C dX7_dropLinksTo_31 (tgt := 2) (by decide) ?_
          exact ih (k + 1) _ (by omega) (by omega) (by omega) (by rw [hm] at h_18 ⊢; simp only [rd_dlk] at h_18; funext a b; simp only [rd_u, rd_dlk]; grind)
  exact lp2 11 0 _ (by omega) (by omega) (by omega) (by funext a b; simp only [rd_dlk]; (repeat' split) <;> first | rfl | (exfalso; omega))
set_option maxHeartbeats 4000000 in
set_option maxRecDepth 100000 in
theorem c_X7_countLinks {l : Launch} {G : rd_G} {r : Nat} {μ : rd_Mem} {o : Int} (hS : rd_isS rd_kc 313 o) : rd_M l G rd_kc 313 r yX7_countLinks cX7_countLinks 6 (some .int) (rd_rm 0 0) [rd_R o] μ (fun v μ' => v = some (rd_I (sp_lk (μ (o + 4)) 10)) ∧ μ' = μ) := by
  refine rd_enter (by decide +kernel) (Nat.le_of_ble_eq_true rfl) [rd_R o, rd_J, rd_J, rd_J, rd_J, rd_J] rfl (fun p e s m args below meth c C => ?_)
  refine rd_W.rng (fun hM hL _ => ?_)
  refine rd_iconst C dX7_countLinks_0 (n := 0) ⟨by decide, by decide⟩ ?_
  refine rd_istore_n C dX7_countLinks_1 (by decide) (L' := [rd_R o, rd_I 0, rd_J, rd_J, rd_J, rd_J]) rfl ?_
  refine rd_aload_n C dX7_countLinks_2 rfl ?_
  refine rd_get C rd_g7_7 rf_X7_21 dX7_countLinks_3 hS.1 hS.2.2.2.2.2.1 (x := rd_R (o + 4)) rfl (fun _ => trivial) ?_
  refine rd_astore_n C dX7_countLinks_6 (by decide) (L' := [rd_R o, rd_I 0, rd_R (o + 4), rd_J, rd_J, rd_J]) rfl ?_
  refine rd_aload_n C dX7_countLinks_7 rfl ?_
  refine rd_alen C rd_al11 dX7_countLinks_8 hS.2.2.2.2.1 hS.2.2.2.2.2.2.2.2.2 (z := 10) rfl ⟨by decide, by decide⟩ ?_
  refine rd_istore_n C dX7_countLinks_9 (by decide) (L' := [rd_R o, rd_I 0, rd_R (o + 4), rd_I 10, rd_J, rd_J]) rfl ?_
  refine rd_iconst C dX7_countLinks_10 (n := 0) ⟨by decide, by decide⟩ ?_
  refine rd_istore C dX7_countLinks_11 (by decide) (L' := [rd_R o, rd_I 0, rd_R (o + 4), rd_I 10, rd_I 0, rd_J]) rfl ?_
  have lp13 : ∀ (n : Nat) (k : Nat) (x c4 y5 : Int) (J5 : rd_X), (k ≤ 10) → (10 < k + n) → (x = sp_lk (μ (o + 4)) k) → (c4 = (k : Int)) → rd_W p l e (rd_rm 0 0) s m args below meth c (MQ below (rd_Qc G rd_kc 313 r (fun v μ' => v = some (rd_I (sp_lk (μ (o + 4)) 10)) ∧ μ' = μ)) args s 0 0 (rd_A r 313)) 6 G rd_kc 313 r 13 [rd_R o, rd_I x, rd_R (o + 4), rd_I 10, rd_I c4, J5] [] μ := by
    intro n
    induction n with
    | zero => intro k x c4 y5 J5  h2 h3 hx hc; exfalso; omega
    | succ n ih =>
      intro k x c4 y5 J5  h2 h3 hx hc
      refine rd_iload C dX7_countLinks_13 rfl ?_
      refine rd_iload_n C dX7_countLinks_15 rfl ?_
      refine rd_icmp_ge C dX7_countLinks_16 (tgt := 40) (by decide) (fun h_16 => ?_) (fun h_16 => ?_)
      · refine rd_iload_n C dX7_countLinks_40 rfl ?_
        exact rd_iret C dX7_countLinks_41 ⟨by rw [hx, show k = 10 by omega], rfl⟩
      · refine rd_aload_n C dX7_countLinks_19 rfl ?_
        refine rd_iload C dX7_countLinks_20 rfl ?_
        refine rd_ialdx C rd_ai11 dX7_countLinks_22 hS.2.2.2.2.1 hS.2.2.2.2.2.2.2.2.2 ⟨by omega, by omega⟩ (z := μ (o + 4) c4) rfl ?_
        refine rd_istore C dX7_countLinks_23 (by decide) (L' := [rd_R o, rd_I x, rd_R (o + 4), rd_I 10, rd_I c4, rd_I (μ (o + 4) c4)]) rfl ?_
        refine rd_iload C dX7_countLinks_25 rfl ?_
        refine rd_iconst C dX7_countLinks_27 (n := -1) ⟨by decide, by decide⟩ ?_
        refine rd_icmp_eq C dX7_countLinks_28 (tgt := 34) (by decide) (fun h_28 => ?_) (fun h_28 => ?_)
        · refine rd_iinc C dX7_countLinks_34 (by decide) rfl ⟨by omega, by omega⟩ (L' := [rd_R o, rd_I x, rd_R (o + 4), rd_I 10, rd_I (c4 + 1), rd_I (μ (o + 4) c4)]) rfl ?_
          refine rd_goto C dX7_countLinks_37 (tgt := 13) (by decide) ?_
          exact ih (k + 1) _ _ 0 _ (by omega) (by omega) (by simp only [sp_lk]; subst hc; grind) (by omega)
        · refine rd_iinc C dX7_countLinks_31 (by decide) rfl (by have := sp_lk0 (μ (o + 4)) k; exact ⟨by omega, by omega⟩) (L' := [rd_R o, rd_I (x + 1), rd_R (o + 4), rd_I 10, rd_I c4, rd_I (μ (o + 4) c4)]) rfl ?_
          refine rd_iinc C dX7_countLinks_34 (by decide) rfl ⟨by omega, by omega⟩ (L' := [rd_R o, rd_I (x + 1), rd_R (o + 4), rd_I 10, rd_I (c4 + 1), rd_I (μ (o + 4) c4)]) rfl ?_
          refine rd_goto C dX7_countLinks_37 (tgt := 13) (by decide) ?_
          exact ih (k + 1) _ _ 0 _ (by omega) (by omega) (by simp only [sp_lk]; subst hc; grind) (by omega)
  exact lp13 11 0 0 0 0 _ (by omega) (by omega) rfl rfl
set_option maxHeartbeats 4000000 in
set_option maxRecDepth 100000 in
theorem c_X7_finalStep {l : Launch} {G : rd_G} {r : Nat} {μ : rd_Mem} {o : Int} (hS : rd_isS rd_kc 313 o) (h0 : 0 ≤ μ o 3) (h6 : μ o 3 ≤ 6) : rd_M l G rd_kc 313 r yX7_finalStep cX7_finalStep 3 (some .int) (rd_rm 1 40) [rd_R o] μ (fun v μ' => v = some (rd_I (sp_fs (μ (o + 1)) (μ (o + 2)) (μ o 3).toNat)) ∧ μ' = μ) := by
  refine rd_enter (by decide +kernel) (Nat.le_of_ble_eq_true rfl) [rd_R o, rd_J, rd_J] rfl (fun p e s m args below meth c C => ?_)
  refine rd_W.rng (fun hM hL _ => ?_)
  refine rd_iconst C dX7_finalStep_0 (n := 0) ⟨by decide, by decide⟩ ?_
  refine rd_istore_n C dX7_finalStep_1 (by decide) (L' := [rd_R o, rd_I 0, rd_J]) rfl ?_
  refine rd_iconst C dX7_finalStep_2 (n := 0) ⟨by decide, by decide⟩ ?_
  refine rd_istore_n C dX7_finalStep_3 (by decide) (L' := [rd_R o, rd_I 0, rd_I 0]) rfl ?_
  have lp4 : ∀ (n : Nat) (k : Nat) (x c2 : Int), ((k : Int) ≤ μ o 3) → (μ o 3 < k + n) → (x = sp_fs (μ (o + 1)) (μ (o + 2)) k) → (c2 = (k : Int)) → rd_W p l e (rd_rm 1 40) s m args below meth c (MQ below (rd_Qc G rd_kc 313 r (fun v μ' => v = some (rd_I (sp_fs (μ (o + 1)) (μ (o + 2)) (μ o 3).toNat)) ∧ μ' = μ)) args s 0 0 (rd_A r 313)) 3 G rd_kc 313 r 4 [rd_R o, rd_I x, rd_I c2] [] μ := by
    intro n
    induction n with
    | zero => intro k x c2  h2 h3 hx hc; exfalso; omega
    | succ n ih =>
      intro k x c2  h2 h3 hx hc
      refine rd_iload_n C dX7_finalStep_4 rfl ?_
      refine rd_aload_n C dX7_finalStep_5 rfl ?_
      refine rd_get C rd_g7_3 rf_X7_35 dX7_finalStep_6 hS.1 hS.2.2.2.2.2.1 (x := rd_I (μ o 3)) rfl (fun h => h _ _) ?_
      refine rd_icmp_ge C dX7_finalStep_9 (tgt := 63) (by decide) (fun h_9 => ?_) (fun h_9 => ?_)
      · refine rd_iload_n C dX7_finalStep_63 rfl ?_
        exact rd_iret C dX7_finalStep_64 ⟨by rw [hx, show k = (μ o 3).toNat by omega], rfl⟩
      · refine rd_iload_n C dX7_finalStep_12 rfl ?_
        refine rd_aload_n C dX7_finalStep_13 rfl ?_
        refine rd_get C rd_g7_4 rf_X7_9 dX7_finalStep_14 hS.1 hS.2.2.2.2.2.1 (x := rd_R (o + 1)) rfl (fun _ => trivial) ?_
        refine rd_iload_n C dX7_finalStep_17 rfl ?_
        refine rd_ialdx C rd_ai12 dX7_finalStep_18 hS.2.1 hS.2.2.2.2.2.2.1 ⟨by omega, by omega⟩ (z := μ (o + 1) c2) rfl ?_
        refine rd_mmax C rm_X7_48 rt_J9_max_7cf53 rz_J9 rc_J9_max_7cf53 ⟨by decide, by decide⟩ (by decide) dX7_finalStep_19 (z := max x (μ (o + 1) c2)) (by omega) ?_
        refine rd_istore_n C dX7_finalStep_22 (by decide) (L' := [rd_R o, rd_I (max x (μ (o + 1) c2)), rd_I c2]) rfl ?_
        refine rd_aload_n C dX7_finalStep_23 rfl ?_
        refine rd_get C rd_g7_5 rf_X7_15 dX7_finalStep_24 hS.1 hS.2.2.2.2.2.1 (x := rd_R (o + 2)) rfl (fun _ => trivial) ?_
        refine rd_iload_n C dX7_finalStep_27 rfl ?_
        refine rd_ialdx C rd_ai12 dX7_finalStep_28 hS.2.2.1 hS.2.2.2.2.2.2.2.1 ⟨by omega, by omega⟩ (z := μ (o + 2) c2) rfl ?_
        refine rd_iconst C dX7_finalStep_29 (n := -1) ⟨by decide, by decide⟩ ?_
        refine rd_icmp_eq C dX7_finalStep_30 (tgt := 57) (by decide) (fun h_30 => ?_) (fun h_30 => ?_)
        · refine rd_iinc C dX7_finalStep_57 (by decide) rfl ⟨by omega, by omega⟩ (L' := [rd_R o, rd_I (max x (μ (o + 1) c2)), rd_I (c2 + 1)]) rfl ?_
          refine rd_goto C dX7_finalStep_60 (tgt := 4) (by decide) ?_
          exact ih (k + 1) _ _ (by omega) (by omega) (by simp only [sp_fs]; subst hc; subst hx; grind) (by omega)
        · refine rd_aload_n C dX7_finalStep_33 rfl ?_
          refine rd_get C rd_g7_5 rf_X7_15 dX7_finalStep_34 hS.1 hS.2.2.2.2.2.1 (x := rd_R (o + 2)) rfl (fun _ => trivial) ?_
          refine rd_iload_n C dX7_finalStep_37 rfl ?_
          refine rd_ialdx C rd_ai12 dX7_finalStep_38 hS.2.2.1 hS.2.2.2.2.2.2.2.1 ⟨by omega, by omega⟩ (z := μ (o + 2) c2) rfl ?_
          refine rd_bipush C dX7_finalStep_39 (n := 9) (by decide) ⟨by decide, by decide⟩ ?_
          refine rd_icmp_ge C dX7_finalStep_41 (tgt := 57) (by decide) (fun h_41 => ?_) (fun h_41 => ?_)
          · refine rd_iinc C dX7_finalStep_57 (by decide) rfl ⟨by omega, by omega⟩ (L' := [rd_R o, rd_I (max x (μ (o + 1) c2)), rd_I (c2 + 1)]) rfl ?_
            refine rd_goto C dX7_finalStep_60 (tgt := 4) (by decide) ?_
            exact ih (k + 1) _ _ (by omega) (by omega) (by simp only [sp_fs]; subst hc; subst hx; grind) (by omega)
          · refine rd_iload_n C dX7_finalStep_44 rfl ?_
            refine rd_aload_n C dX7_finalStep_45 rfl ?_
            refine rd_get C rd_g7_5 rf_X7_15 dX7_finalStep_46 hS.1 hS.2.2.2.2.2.1 (x := rd_R (o + 2)) rfl (fun _ => trivial) ?_
            refine rd_iload_n C dX7_finalStep_49 rfl ?_
            refine rd_ialdx C rd_ai12 dX7_finalStep_50 hS.2.2.1 hS.2.2.2.2.2.2.2.1 ⟨by omega, by omega⟩ (z := μ (o + 2) c2) rfl ?_
            refine rd_iconst C dX7_finalStep_51 (n := 1) ⟨by decide, by decide⟩ ?_
            refine rd_iadd C dX7_finalStep_52 (z := μ (o + 2) c2 + 1) rfl (by have := hM (o + 2) c2; exact ⟨by omega, by omega⟩) ?_
            refine rd_mmax C rm_X7_48 rt_J9_max_7cf53 rz_J9 rc_J9_max_7cf53 ⟨by decide, by decide⟩ (by decide) dX7_finalStep_53 (z := max (max x (μ (o + 1) c2)) (μ (o + 2) c2 + 1)) (by omega) ?_
            refine rd_istore_n C dX7_finalStep_56 (by decide) (L' := [rd_R o, rd_I (max (max x (μ (o + 1) c2)) (μ (o + 2) c2 + 1)), rd_I c2]) rfl ?_
            refine rd_iinc C dX7_finalStep_57 (by decide) rfl ⟨by omega, by omega⟩ (L' := [rd_R o, rd_I (max (max x (μ (o + 1) c2)) (μ (o + 2) c2 + 1)), rd_I (c2 + 1)]) rfl ?_
            refine rd_goto C dX7_finalStep_60 (tgt := 4) (by decide) ?_
            exact ih (k + 1) _ _ (by omega) (by omega) (by simp only [sp_fs]; subst hc; subst hx; grind) (by omega)
  exact lp4 ((μ o 3).toNat + 1) 0 0 0 (by omega) (by omega) rfl rfl
set_option maxHeartbeats 4000000 in
set_option maxRecDepth 100000 in
theorem c_X7_isSeen {l : Launch} {G : rd_G} {r : Nat} {μ : rd_Mem} {o : Int} (hS : rd_isS rd_kc 313 o) {i t : Int} (hi0 : 0 ≤ i) (hi6 : i < 6) : rd_M l G rd_kc 313 r yX7_isSeen cX7_isSeen 3 (some .boolean) (rd_rm 0 0) [rd_R o, rd_I i, rd_I t] μ (fun v μ' => (sp_seen (μ (o + 1)) (μ (o + 2)) i t ∧ v = some (rd_I 1) ∧ μ' = μ) ∨ (¬ sp_seen (μ (o + 1)) (μ (o + 2)) i t ∧ v = some (rd_I 0) ∧ μ' = μ)) := by
  refine rd_enter (by decide +kernel) (Nat.le_of_ble_eq_true rfl) [rd_R o, rd_I i, rd_I t] rfl (fun p e s m args below meth c C => ?_)
  refine rd_W.rng (fun hM hL _ => ?_)
  refine rd_aload_n C dX7_isSeen_0 rfl ?_
  refine rd_get C rd_g7_4 rf_X7_9 dX7_isSeen_1 hS.1 hS.2.2.2.2.2.1 (x := rd_R (o + 1)) rfl (fun _ => trivial) ?_
  refine rd_iload_n C dX7_isSeen_4 rfl ?_
  refine rd_ialdx C rd_ai12 dX7_isSeen_5 hS.2.1 hS.2.2.2.2.2.2.1 ⟨by omega, by omega⟩ (z := μ (o + 1) i) rfl ?_
  refine rd_iload_n C dX7_isSeen_6 rfl ?_
  refine rd_icmp_gt C dX7_isSeen_7 (tgt := 34) (by decide) (fun h_7 => ?_) (fun h_7 => ?_)
  · refine rd_iconst C dX7_isSeen_34 (n := 0) ⟨by decide, by decide⟩ ?_
    exact rd_zret C dX7_isSeen_35 (by omega) (by first | exact Or.inl ⟨⟨by omega, by omega⟩, rfl, rfl⟩ | exact Or.inr ⟨(fun h => by have h1 := h.1; have h2 := h.2; omega), rfl, rfl⟩)
  · refine rd_aload_n C dX7_isSeen_10 rfl ?_
    refine rd_get C rd_g7_5 rf_X7_15 dX7_isSeen_11 hS.1 hS.2.2.2.2.2.1 (x := rd_R (o + 2)) rfl (fun _ => trivial) ?_
    refine rd_iload_n C dX7_isSeen_14 rfl ?_
    refine rd_ialdx C rd_ai12 dX7_isSeen_15 hS.2.2.1 hS.2.2.2.2.2.2.2.1 ⟨by omega, by omega⟩ (z := μ (o + 2) i) rfl ?_
    refine rd_iconst C dX7_isSeen_16 (n := -1) ⟨by decide, by decide⟩ ?_
    refine rd_icmp_eq C dX7_isSeen_17 (tgt := 30) (by decide) (fun h_17 => ?_) (fun h_17 => ?_)
    · refine rd_iconst C dX7_isSeen_30 (n := 1) ⟨by decide, by decide⟩ ?_
      refine rd_goto C dX7_isSeen_31 (tgt := 35) (by decide) ?_
      exact rd_zret C dX7_isSeen_35 (by omega) (by first | exact Or.inl ⟨⟨by omega, by omega⟩, rfl, rfl⟩ | exact Or.inr ⟨(fun h => by have h1 := h.1; have h2 := h.2; omega), rfl, rfl⟩)
    · refine rd_iload_n C dX7_isSeen_20 rfl ?_
      refine rd_aload_n C dX7_isSeen_21 rfl ?_
      refine rd_get C rd_g7_5 rf_X7_15 dX7_isSeen_22 hS.1 hS.2.2.2.2.2.1 (x := rd_R (o + 2)) rfl (fun _ => trivial) ?_
      refine rd_iload_n C dX7_isSeen_25 rfl ?_
      refine rd_ialdx C rd_ai12 dX7_isSeen_26 hS.2.2.1 hS.2.2.2.2.2.2.2.1 ⟨by omega, by omega⟩ (z := μ (o + 2) i) rfl ?_
      refine rd_icmp_gt C dX7_isSeen_27 (tgt := 34) (by decide) (fun h_27 => ?_) (fun h_27 => ?_)
      · refine rd_iconst C dX7_isSeen_34 (n := 0) ⟨by decide, by decide⟩ ?_
        exact rd_zret C dX7_isSeen_35 (by omega) (by first | exact Or.inl ⟨⟨by omega, by omega⟩, rfl, rfl⟩ | exact Or.inr ⟨(fun h => by have h1 := h.1; have h2 := h.2; omega), rfl, rfl⟩)
      · refine rd_iconst C dX7_isSeen_30 (n := 1) ⟨by decide, by decide⟩ ?_
        refine rd_goto C dX7_isSeen_31 (tgt := 35) (by decide) ?_
        exact rd_zret C dX7_isSeen_35 (by omega) (by first | exact Or.inl ⟨⟨by omega, by omega⟩, rfl, rfl⟩ | exact Or.inr ⟨(fun h => by have h1 := h.1; have h2 := h.2; omega), rfl, rfl⟩)
end

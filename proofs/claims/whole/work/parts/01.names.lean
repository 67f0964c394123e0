-- ===== PART A: goes FIRST, ahead of the names: the tables' words, and 'selects' of the private methods out of them =====
/-- a private method of a class that the tables say can be made, by its rows of tables_1 -/
def lw_okq (q : MethodName × Nat) : Prop := (q.1.cls ≠ "java/lang/invoke/MethodHandle" ∧ q.1.cls ≠ "java/lang/invoke/VarHandle") ∧ Cond.instantiable q.1.cls q.2 ∈ tables_1 ∧ Cond.privateMethod q.1 ∈ tables_1 ∧ Cond.instanceMethod q.1 ∈ tables_1
theorem lw_p0 : lw_okq (⟨"RevealDeckModel", "save", "()V"⟩, 9) := ⟨⟨by decide +kernel, by decide +kernel⟩, List.mem_of_getElem? (i := 738) (by decide +kernel), List.mem_of_getElem? (i := 776) (by decide +kernel), List.mem_of_getElem? (i := 777) (by decide +kernel)⟩
theorem lw_p1 : lw_okq (⟨"RevealDeckModel", "copies", "(II)V"⟩, 9) := ⟨⟨by decide +kernel, by decide +kernel⟩, List.mem_of_getElem? (i := 738) (by decide +kernel), List.mem_of_getElem? (i := 780) (by decide +kernel), List.mem_of_getElem? (i := 781) (by decide +kernel)⟩
theorem lw_p2 : lw_okq (⟨"RevealDeckModel", "of", "(II)I"⟩, 9) := ⟨⟨by decide +kernel, by decide +kernel⟩, List.mem_of_getElem? (i := 738) (by decide +kernel), List.mem_of_getElem? (i := 784) (by decide +kernel), List.mem_of_getElem? (i := 785) (by decide +kernel)⟩
theorem lw_p3 : lw_okq (⟨"RevealDeckModel", "lay", "(III)V"⟩, 9) := ⟨⟨by decide +kernel, by decide +kernel⟩, List.mem_of_getElem? (i := 738) (by decide +kernel), List.mem_of_getElem? (i := 788) (by decide +kernel), List.mem_of_getElem? (i := 789) (by decide +kernel)⟩
theorem lw_p4 : lw_okq (⟨"RevealDeckModel", "isSlide", "(I)Z"⟩, 9) := ⟨⟨by decide +kernel, by decide +kernel⟩, List.mem_of_getElem? (i := 738) (by decide +kernel), List.mem_of_getElem? (i := 796) (by decide +kernel), List.mem_of_getElem? (i := 797) (by decide +kernel)⟩
theorem lw_p5 : lw_okq (⟨"RevealDeckModel", "takesOut", "(I)I"⟩, 9) := ⟨⟨by decide +kernel, by decide +kernel⟩, List.mem_of_getElem? (i := 738) (by decide +kernel), List.mem_of_getElem? (i := 803) (by decide +kernel), List.mem_of_getElem? (i := 804) (by decide +kernel)⟩
theorem lw_p6 : lw_okq (⟨"RevealDeckModel", "placeOf", "(I)I"⟩, 9) := ⟨⟨by decide +kernel, by decide +kernel⟩, List.mem_of_getElem? (i := 738) (by decide +kernel), List.mem_of_getElem? (i := 807) (by decide +kernel), List.mem_of_getElem? (i := 808) (by decide +kernel)⟩
theorem lw_p7 : lw_okq (⟨"RevealDeckModel", "isItem", "(II)Z"⟩, 9) := ⟨⟨by decide +kernel, by decide +kernel⟩, List.mem_of_getElem? (i := 738) (by decide +kernel), List.mem_of_getElem? (i := 831) (by decide +kernel), List.mem_of_getElem? (i := 832) (by decide +kernel)⟩
theorem lw_p8 : lw_okq (⟨"RevealDeckModel", "finalStep", "(I)I"⟩, 9) := ⟨⟨by decide +kernel, by decide +kernel⟩, List.mem_of_getElem? (i := 738) (by decide +kernel), List.mem_of_getElem? (i := 835) (by decide +kernel), List.mem_of_getElem? (i := 836) (by decide +kernel)⟩
theorem lw_p9 : lw_okq (⟨"RevealDeckModel", "isKey", "(I)Z"⟩, 9) := ⟨⟨by decide +kernel, by decide +kernel⟩, List.mem_of_getElem? (i := 738) (by decide +kernel), List.mem_of_getElem? (i := 843) (by decide +kernel), List.mem_of_getElem? (i := 844) (by decide +kernel)⟩
theorem lw_p10 : lw_okq (⟨"RevealDeckModel", "links", "(I)I"⟩, 9) := ⟨⟨by decide +kernel, by decide +kernel⟩, List.mem_of_getElem? (i := 738) (by decide +kernel), List.mem_of_getElem? (i := 847) (by decide +kernel), List.mem_of_getElem? (i := 848) (by decide +kernel)⟩
theorem lw_p11 : lw_okq (⟨"RevealDeckModel", "notePlace", "(I)I"⟩, 9) := ⟨⟨by decide +kernel, by decide +kernel⟩, List.mem_of_getElem? (i := 738) (by decide +kernel), List.mem_of_getElem? (i := 859) (by decide +kernel), List.mem_of_getElem? (i := 860) (by decide +kernel)⟩
theorem lw_p12 : lw_okq (⟨"RevealDeckModel", "shownFrom", "(I)I"⟩, 9) := ⟨⟨by decide +kernel, by decide +kernel⟩, List.mem_of_getElem? (i := 738) (by decide +kernel), List.mem_of_getElem? (i := 871) (by decide +kernel), List.mem_of_getElem? (i := 872) (by decide +kernel)⟩
theorem lw_p13 : lw_okq (⟨"RevealDeckModel", "isShown", "(I)Z"⟩, 9) := ⟨⟨by decide +kernel, by decide +kernel⟩, List.mem_of_getElem? (i := 738) (by decide +kernel), List.mem_of_getElem? (i := 875) (by decide +kernel), List.mem_of_getElem? (i := 876) (by decide +kernel)⟩
theorem lw_p14 : lw_okq (⟨"RevealDeckModel", "isOn", "()Z"⟩, 9) := ⟨⟨by decide +kernel, by decide +kernel⟩, List.mem_of_getElem? (i := 738) (by decide +kernel), List.mem_of_getElem? (i := 887) (by decide +kernel), List.mem_of_getElem? (i := 888) (by decide +kernel)⟩
theorem lw_p15 : lw_okq (⟨"RevealDeckModel", "isOver", "()Z"⟩, 9) := ⟨⟨by decide +kernel, by decide +kernel⟩, List.mem_of_getElem? (i := 738) (by decide +kernel), List.mem_of_getElem? (i := 891) (by decide +kernel), List.mem_of_getElem? (i := 892) (by decide +kernel)⟩
def lw_privs_1 : List (MethodName × Nat) := [(⟨"RevealDeckModel", "save", "()V"⟩, 9), (⟨"RevealDeckModel", "copies", "(II)V"⟩, 9), (⟨"RevealDeckModel", "of", "(II)I"⟩, 9), (⟨"RevealDeckModel", "lay", "(III)V"⟩, 9), (⟨"RevealDeckModel", "isSlide", "(I)Z"⟩, 9), (⟨"RevealDeckModel", "takesOut", "(I)I"⟩, 9), (⟨"RevealDeckModel", "placeOf", "(I)I"⟩, 9), (⟨"RevealDeckModel", "isItem", "(II)Z"⟩, 9), (⟨"RevealDeckModel", "finalStep", "(I)I"⟩, 9), (⟨"RevealDeckModel", "isKey", "(I)Z"⟩, 9), (⟨"RevealDeckModel", "links", "(I)I"⟩, 9), (⟨"RevealDeckModel", "notePlace", "(I)I"⟩, 9), (⟨"RevealDeckModel", "shownFrom", "(I)I"⟩, 9), (⟨"RevealDeckModel", "isShown", "(I)Z"⟩, 9), (⟨"RevealDeckModel", "isOn", "()Z"⟩, 9), (⟨"RevealDeckModel", "isOver", "()Z"⟩, 9)]
theorem lw_r1 : ∀ q ∈ lw_privs_1, lw_okq q := List.forall_mem_cons.mpr ⟨lw_p0, List.forall_mem_cons.mpr ⟨lw_p1, List.forall_mem_cons.mpr ⟨lw_p2, List.forall_mem_cons.mpr ⟨lw_p3, List.forall_mem_cons.mpr ⟨lw_p4, List.forall_mem_cons.mpr ⟨lw_p5, List.forall_mem_cons.mpr ⟨lw_p6, List.forall_mem_cons.mpr ⟨lw_p7, List.forall_mem_cons.mpr ⟨lw_p8, List.forall_mem_cons.mpr ⟨lw_p9, List.forall_mem_cons.mpr ⟨lw_p10, List.forall_mem_cons.mpr ⟨lw_p11, List.forall_mem_cons.mpr ⟨lw_p12, List.forall_mem_cons.mpr ⟨lw_p13, List.forall_mem_cons.mpr ⟨lw_p14, List.forall_mem_cons.mpr ⟨lw_p15, fun _ h => absurd h List.not_mem_nil⟩⟩⟩⟩⟩⟩⟩⟩⟩⟩⟩⟩⟩⟩⟩⟩
theorem lw_p16 : lw_okq (⟨"RevealDeckModel", "canForward", "()Z"⟩, 9) := ⟨⟨by decide +kernel, by decide +kernel⟩, List.mem_of_getElem? (i := 738) (by decide +kernel), List.mem_of_getElem? (i := 895) (by decide +kernel), List.mem_of_getElem? (i := 896) (by decide +kernel)⟩
theorem lw_p17 : lw_okq (⟨"RevealDeckModel", "nextOf", "(I)I"⟩, 9) := ⟨⟨by decide +kernel, by decide +kernel⟩, List.mem_of_getElem? (i := 738) (by decide +kernel), List.mem_of_getElem? (i := 899) (by decide +kernel), List.mem_of_getElem? (i := 900) (by decide +kernel)⟩
theorem lw_p18 : lw_okq (⟨"RevealDeckModel", "forwards", "()I"⟩, 9) := ⟨⟨by decide +kernel, by decide +kernel⟩, List.mem_of_getElem? (i := 738) (by decide +kernel), List.mem_of_getElem? (i := 903) (by decide +kernel), List.mem_of_getElem? (i := 904) (by decide +kernel)⟩
theorem lw_p19 : lw_okq (⟨"RevealDeckModel", "comes", "(III)V"⟩, 9) := ⟨⟨by decide +kernel, by decide +kernel⟩, List.mem_of_getElem? (i := 738) (by decide +kernel), List.mem_of_getElem? (i := 907) (by decide +kernel), List.mem_of_getElem? (i := 908) (by decide +kernel)⟩
theorem lw_p20 : lw_okq (⟨"RevealDeckModel", "backPlace", "()I"⟩, 9) := ⟨⟨by decide +kernel, by decide +kernel⟩, List.mem_of_getElem? (i := 738) (by decide +kernel), List.mem_of_getElem? (i := 915) (by decide +kernel), List.mem_of_getElem? (i := 916) (by decide +kernel)⟩
theorem lw_p21 : lw_okq (⟨"RevealDeckModel", "backs", "()I"⟩, 9) := ⟨⟨by decide +kernel, by decide +kernel⟩, List.mem_of_getElem? (i := 738) (by decide +kernel), List.mem_of_getElem? (i := 919) (by decide +kernel), List.mem_of_getElem? (i := 920) (by decide +kernel)⟩
theorem lw_p22 : lw_okq (⟨"RevealDeckModel", "canPress", "(I)Z"⟩, 9) := ⟨⟨by decide +kernel, by decide +kernel⟩, List.mem_of_getElem? (i := 738) (by decide +kernel), List.mem_of_getElem? (i := 927) (by decide +kernel), List.mem_of_getElem? (i := 928) (by decide +kernel)⟩
theorem lw_p23 : lw_okq (⟨"RevealDeckModel", "presses", "(I)I"⟩, 9) := ⟨⟨by decide +kernel, by decide +kernel⟩, List.mem_of_getElem? (i := 738) (by decide +kernel), List.mem_of_getElem? (i := 931) (by decide +kernel), List.mem_of_getElem? (i := 932) (by decide +kernel)⟩
theorem lw_p24 : lw_okq (⟨"RevealDeckModel", "ticks", "(I)I"⟩, 9) := ⟨⟨by decide +kernel, by decide +kernel⟩, List.mem_of_getElem? (i := 738) (by decide +kernel), List.mem_of_getElem? (i := 939) (by decide +kernel), List.mem_of_getElem? (i := 940) (by decide +kernel)⟩
theorem lw_p25 : lw_okq (⟨"RevealDeckModel", "isText", "()Z"⟩, 9) := ⟨⟨by decide +kernel, by decide +kernel⟩, List.mem_of_getElem? (i := 738) (by decide +kernel), List.mem_of_getElem? (i := 955) (by decide +kernel), List.mem_of_getElem? (i := 956) (by decide +kernel)⟩
theorem lw_p26 : lw_okq (⟨"RevealDeckModel", "readsMove", "()Z"⟩, 9) := ⟨⟨by decide +kernel, by decide +kernel⟩, List.mem_of_getElem? (i := 738) (by decide +kernel), List.mem_of_getElem? (i := 959) (by decide +kernel), List.mem_of_getElem? (i := 960) (by decide +kernel)⟩
theorem lw_p27 : lw_okq (⟨"RevealDeckModel", "sign", "()I"⟩, 9) := ⟨⟨by decide +kernel, by decide +kernel⟩, List.mem_of_getElem? (i := 738) (by decide +kernel), List.mem_of_getElem? (i := 963) (by decide +kernel), List.mem_of_getElem? (i := 964) (by decide +kernel)⟩
theorem lw_p28 : lw_okq (⟨"RevealDeckModel", "takes", "(I)Z"⟩, 9) := ⟨⟨by decide +kernel, by decide +kernel⟩, List.mem_of_getElem? (i := 738) (by decide +kernel), List.mem_of_getElem? (i := 967) (by decide +kernel), List.mem_of_getElem? (i := 968) (by decide +kernel)⟩
theorem lw_p29 : lw_okq (⟨"RevealDeckModel", "isMade", "()Z"⟩, 9) := ⟨⟨by decide +kernel, by decide +kernel⟩, List.mem_of_getElem? (i := 738) (by decide +kernel), List.mem_of_getElem? (i := 975) (by decide +kernel), List.mem_of_getElem? (i := 976) (by decide +kernel)⟩
theorem lw_p30 : lw_okq (⟨"RevealDeckModel", "seen", "(II)I"⟩, 9) := ⟨⟨by decide +kernel, by decide +kernel⟩, List.mem_of_getElem? (i := 738) (by decide +kernel), List.mem_of_getElem? (i := 1011) (by decide +kernel), List.mem_of_getElem? (i := 1012) (by decide +kernel)⟩
theorem lw_p31 : lw_okq (⟨"RevealDeckModel", "leads", "(I)I"⟩, 9) := ⟨⟨by decide +kernel, by decide +kernel⟩, List.mem_of_getElem? (i := 738) (by decide +kernel), List.mem_of_getElem? (i := 1047) (by decide +kernel), List.mem_of_getElem? (i := 1048) (by decide +kernel)⟩
def lw_privs_2 : List (MethodName × Nat) := [(⟨"RevealDeckModel", "canForward", "()Z"⟩, 9), (⟨"RevealDeckModel", "nextOf", "(I)I"⟩, 9), (⟨"RevealDeckModel", "forwards", "()I"⟩, 9), (⟨"RevealDeckModel", "comes", "(III)V"⟩, 9), (⟨"RevealDeckModel", "backPlace", "()I"⟩, 9), (⟨"RevealDeckModel", "backs", "()I"⟩, 9), (⟨"RevealDeckModel", "canPress", "(I)Z"⟩, 9), (⟨"RevealDeckModel", "presses", "(I)I"⟩, 9), (⟨"RevealDeckModel", "ticks", "(I)I"⟩, 9), (⟨"RevealDeckModel", "isText", "()Z"⟩, 9), (⟨"RevealDeckModel", "readsMove", "()Z"⟩, 9), (⟨"RevealDeckModel", "sign", "()I"⟩, 9), (⟨"RevealDeckModel", "takes", "(I)Z"⟩, 9), (⟨"RevealDeckModel", "isMade", "()Z"⟩, 9), (⟨"RevealDeckModel", "seen", "(II)I"⟩, 9), (⟨"RevealDeckModel", "leads", "(I)I"⟩, 9)]
theorem lw_r2 : ∀ q ∈ lw_privs_2, lw_okq q := List.forall_mem_cons.mpr ⟨lw_p16, List.forall_mem_cons.mpr ⟨lw_p17, List.forall_mem_cons.mpr ⟨lw_p18, List.forall_mem_cons.mpr ⟨lw_p19, List.forall_mem_cons.mpr ⟨lw_p20, List.forall_mem_cons.mpr ⟨lw_p21, List.forall_mem_cons.mpr ⟨lw_p22, List.forall_mem_cons.mpr ⟨lw_p23, List.forall_mem_cons.mpr ⟨lw_p24, List.forall_mem_cons.mpr ⟨lw_p25, List.forall_mem_cons.mpr ⟨lw_p26, List.forall_mem_cons.mpr ⟨lw_p27, List.forall_mem_cons.mpr ⟨lw_p28, List.forall_mem_cons.mpr ⟨lw_p29, List.forall_mem_cons.mpr ⟨lw_p30, List.forall_mem_cons.mpr ⟨lw_p31, fun _ h => absurd h List.not_mem_nil⟩⟩⟩⟩⟩⟩⟩⟩⟩⟩⟩⟩⟩⟩⟩⟩
theorem lw_p32 : lw_okq (⟨"RevealDeckModel", "reaches", "(III)Z"⟩, 9) := ⟨⟨by decide +kernel, by decide +kernel⟩, List.mem_of_getElem? (i := 738) (by decide +kernel), List.mem_of_getElem? (i := 1051) (by decide +kernel), List.mem_of_getElem? (i := 1052) (by decide +kernel)⟩
def lw_privs_3 : List (MethodName × Nat) := [(⟨"RevealDeckModel", "reaches", "(III)Z"⟩, 9)]
theorem lw_r3 : ∀ q ∈ lw_privs_3, lw_okq q := List.forall_mem_cons.mpr ⟨lw_p32, fun _ h => absurd h List.not_mem_nil⟩
def lw_privs : List (MethodName × Nat) := lw_privs_1 ++ (lw_privs_2 ++ (lw_privs_3))
def lw_tbl : List Cond := k2_sels lw_privs ++ tables_1
theorem lw_privs_ok : ∀ q ∈ lw_privs, lw_okq q := by
  show ∀ q ∈ lw_privs_1 ++ (lw_privs_2 ++ (lw_privs_3)), lw_okq q
  exact List.forall_mem_append.mpr ⟨lw_r1, List.forall_mem_append.mpr ⟨lw_r2, lw_r3⟩⟩
/-- the streams that the claim lets the run draw from -/
abbrev lw_cs : List Choice := [Jvm.Choice.named "NaN.bits"]
theorem lw_bits : nanBits ∈ lw_cs := by first | decide | exact List.mem_cons_self | simp [lw_cs, nanBits]

def RX0 : String := "RevealDeck$Deck"
def TX0 : u_T := fun k => match k with
  | 0 => ("RevealDeck$Deck", "count", "I", false)
  | 1 => ("RevealDeck$Deck", "order", "[I", true)
  | _ => ("RevealDeck$Deck", "rows", "[LRevealDeck$Slide;", true)
def tyX0 : Nat → FieldType := fun k => match k with
  | 0 => .int
  | 1 => .array .int
  | _ => .array (.object "RevealDeck$Slide")
theorem nmX0 : ∀ a, a < 3 → ∀ b, b < 3 → a ≠ b → (TX0 a).2.1 ≠ (TX0 b).2.1 := by decide +kernel
theorem tyX0_ok : ∀ k, k < 3 → parseFieldDescriptor (TX0 k).2.2.1 = some (tyX0 k) := by decide +kernel
abbrev cX0_init : ByteArray := prog_2_method_1_code
def yX0_init : MethodName := ⟨RX0, "<init>", "()V"⟩
abbrev cX0_copyFrom : ByteArray := prog_2_method_2_code
def yX0_copyFrom : MethodName := ⟨RX0, "copyFrom", "(LRevealDeck$Deck;)V"⟩
abbrev cX0_find : ByteArray := prog_2_method_3_code
def yX0_find : MethodName := ⟨RX0, "find", "(I)LRevealDeck$Slide;"⟩
abbrev cX0_lowestFree : ByteArray := prog_2_method_4_code
def yX0_lowestFree : MethodName := ⟨RX0, "lowestFree", "()I"⟩
abbrev cX0_putSlide : ByteArray := prog_2_method_5_code
def yX0_putSlide : MethodName := ⟨RX0, "putSlide", "(I)V"⟩
abbrev cX0_dropSlide : ByteArray := prog_2_method_6_code
def yX0_dropSlide : MethodName := ⟨RX0, "dropSlide", "(I)V"⟩
abbrev cX0_putInOrder : ByteArray := prog_2_method_7_code
def yX0_putInOrder : MethodName := ⟨RX0, "putInOrder", "(II)V"⟩
abbrev cX0_dropFromOrder : ByteArray := prog_2_method_8_code
def yX0_dropFromOrder : MethodName := ⟨RX0, "dropFromOrder", "(I)V"⟩
abbrev cX0_placeOf : ByteArray := prog_2_method_9_code
def yX0_placeOf : MethodName := ⟨RX0, "placeOf", "(I)I"⟩
abbrev cX0_numberAt : ByteArray := prog_2_method_10_code
def yX0_numberAt : MethodName := ⟨RX0, "numberAt", "(I)I"⟩
abbrev cX0_nextShown : ByteArray := prog_2_method_11_code
def yX0_nextShown : MethodName := ⟨RX0, "nextShown", "(I)I"⟩
abbrev cX0_countHidden : ByteArray := prog_2_method_12_code
def yX0_countHidden : MethodName := ⟨RX0, "countHidden", "()I"⟩
abbrev cX0_sumSteps : ByteArray := prog_2_method_13_code
def yX0_sumSteps : MethodName := ⟨RX0, "sumSteps", "()I"⟩
def RX1 : String := "RevealDeck$Forecast"
def TX1 : u_T := fun k => match k with
  | _ => ("RevealDeck$Forecast", "reached", "[I", true)
def tyX1 : Nat → FieldType := fun k => match k with
  | _ => .array .int
theorem nmX1 : ∀ a, a < 1 → ∀ b, b < 1 → a ≠ b → (TX1 a).2.1 ≠ (TX1 b).2.1 := by decide +kernel
theorem tyX1_ok : ∀ k, k < 1 → parseFieldDescriptor (TX1 k).2.2.1 = some (tyX1 k) := by decide +kernel
abbrev cX1_init : ByteArray := prog_3_method_1_code
def yX1_init : MethodName := ⟨RX1, "<init>", "()V"⟩
abbrev cX1_countMoves : ByteArray := prog_3_method_2_code
def yX1_countMoves : MethodName := ⟨RX1, "countMoves", "(LRevealDeck$State;)I"⟩
abbrev cX1_countSeconds : ByteArray := prog_3_method_3_code
def yX1_countSeconds : MethodName := ⟨RX1, "countSeconds", "(LRevealDeck$State;)I"⟩
abbrev cX1_movesOn : ByteArray := prog_3_method_4_code
def yX1_movesOn : MethodName := ⟨RX1, "movesOn", "(LRevealDeck$State;I)I"⟩
abbrev cX1_leastMoves : ByteArray := prog_3_method_5_code
def yX1_leastMoves : MethodName := ⟨RX1, "leastMoves", "(LRevealDeck$State;I)I"⟩
abbrev cX1_spreadFrom : ByteArray := prog_3_method_6_code
def yX1_spreadFrom : MethodName := ⟨RX1, "spreadFrom", "(LRevealDeck$State;I)V"⟩
abbrev cX1_lower : ByteArray := prog_3_method_7_code
def yX1_lower : MethodName := ⟨RX1, "lower", "(II)V"⟩
def RX2 : String := "RevealDeck$History"
def TX2 : u_T := fun k => match k with
  | 0 => ("RevealDeck$History", "count", "I", false)
  | _ => ("RevealDeck$History", "states", "[LRevealDeck$State;", true)
def tyX2 : Nat → FieldType := fun k => match k with
  | 0 => .int
  | _ => .array (.object "RevealDeck$State")
theorem nmX2 : ∀ a, a < 2 → ∀ b, b < 2 → a ≠ b → (TX2 a).2.1 ≠ (TX2 b).2.1 := by decide +kernel
theorem tyX2_ok : ∀ k, k < 2 → parseFieldDescriptor (TX2 k).2.2.1 = some (tyX2 k) := by decide +kernel
abbrev cX2_init : ByteArray := prog_4_method_1_code
def yX2_init : MethodName := ⟨RX2, "<init>", "()V"⟩
abbrev cX2_keep : ByteArray := prog_4_method_2_code
def yX2_keep : MethodName := ⟨RX2, "keep", "(LRevealDeck$State;)V"⟩
abbrev cX2_dropOldest : ByteArray := prog_4_method_3_code
def yX2_dropOldest : MethodName := ⟨RX2, "dropOldest", "()V"⟩
abbrev cX2_restore : ByteArray := prog_4_method_4_code
def yX2_restore : MethodName := ⟨RX2, "restore", "(LRevealDeck$State;)V"⟩
def RX3 : String := "RevealDeck$Notes"
def TX3 : u_T := fun k => match k with
  | 0 => ("RevealDeck$Notes", "count", "I", false)
  | 1 => ("RevealDeck$Notes", "seconds", "[I", true)
  | _ => ("RevealDeck$Notes", "numbers", "[I", true)
def tyX3 : Nat → FieldType := fun k => match k with
  | 0 => .int
  | 1 => .array .int
  | _ => .array .int
theorem nmX3 : ∀ a, a < 3 → ∀ b, b < 3 → a ≠ b → (TX3 a).2.1 ≠ (TX3 b).2.1 := by decide +kernel
theorem tyX3_ok : ∀ k, k < 3 → parseFieldDescriptor (TX3 k).2.2.1 = some (tyX3 k) := by decide +kernel
abbrev cX3_init : ByteArray := prog_5_method_1_code
def yX3_init : MethodName := ⟨RX3, "<init>", "()V"⟩
abbrev cX3_copyFrom : ByteArray := prog_5_method_2_code
def yX3_copyFrom : MethodName := ⟨RX3, "copyFrom", "(LRevealDeck$Notes;)V"⟩
abbrev cX3_placeOf : ByteArray := prog_5_method_3_code
def yX3_placeOf : MethodName := ⟨RX3, "placeOf", "(I)I"⟩
abbrev cX3_putAt : ByteArray := prog_5_method_4_code
def yX3_putAt : MethodName := ⟨RX3, "putAt", "(III)V"⟩
abbrev cX3_dropAt : ByteArray := prog_5_method_5_code
def yX3_dropAt : MethodName := ⟨RX3, "dropAt", "(I)V"⟩
abbrev cX3_latestAt : ByteArray := prog_5_method_6_code
def yX3_latestAt : MethodName := ⟨RX3, "latestAt", "(I)I"⟩
def RX4 : String := "RevealDeck$Report"
def TX4 : u_T := fun k => match k with
  | 0 => ("RevealDeck$Report", "move", "I", false)
  | 1 => ("RevealDeck$Report", "character", "I", false)
  | 2 => ("RevealDeck$Report", "number", "I", false)
  | _ => ("RevealDeck$Report", "step", "I", false)
def tyX4 : Nat → FieldType := fun k => match k with
  | 0 => .int
  | 1 => .int
  | 2 => .int
  | _ => .int
theorem nmX4 : ∀ a, a < 4 → ∀ b, b < 4 → a ≠ b → (TX4 a).2.1 ≠ (TX4 b).2.1 := by decide +kernel
theorem tyX4_ok : ∀ k, k < 4 → parseFieldDescriptor (TX4 k).2.2.1 = some (tyX4 k) := by decide +kernel
abbrev cX4_init : ByteArray := prog_6_method_1_code
def yX4_init : MethodName := ⟨RX4, "<init>", "()V"⟩
abbrev cX4_clear : ByteArray := prog_6_method_2_code
def yX4_clear : MethodName := ⟨RX4, "clear", "()V"⟩
abbrev cX4_tell : ByteArray := prog_6_method_3_code
def yX4_tell : MethodName := ⟨RX4, "tell", "(IILRevealDeck$Show;)V"⟩
def RX5 : String := "RevealDeck$Script"
def TX5 : u_T := fun k => match k with
  | 0 => ("RevealDeck$Script", "length", "I", false)
  | _ => ("RevealDeck$Script", "signs", "[C", true)
def tyX5 : Nat → FieldType := fun k => match k with
  | 0 => .int
  | _ => .array .char
theorem nmX5 : ∀ a, a < 2 → ∀ b, b < 2 → a ≠ b → (TX5 a).2.1 ≠ (TX5 b).2.1 := by decide +kernel
theorem tyX5_ok : ∀ k, k < 2 → parseFieldDescriptor (TX5 k).2.2.1 = some (tyX5 k) := by decide +kernel
abbrev cX5_init : ByteArray := prog_7_method_1_code
def yX5_init : MethodName := ⟨RX5, "<init>", "()V"⟩
abbrev cX5_addSign : ByteArray := prog_7_method_2_code
def yX5_addSign : MethodName := ⟨RX5, "addSign", "(C)V"⟩
abbrev cX5_signAt : ByteArray := prog_7_method_3_code
def yX5_signAt : MethodName := ⟨RX5, "signAt", "(I)C"⟩
abbrev cX5_findFault : ByteArray := prog_7_method_4_code
def yX5_findFault : MethodName := ⟨RX5, "findFault", "()I"⟩
abbrev cX5_expectedBehind : ByteArray := prog_7_method_5_code
def yX5_expectedBehind : MethodName := ⟨RX5, "expectedBehind", "(CI)I"⟩
abbrev cX5_expectedBehindLetter : ByteArray := prog_7_method_6_code
def yX5_expectedBehindLetter : MethodName := ⟨RX5, "expectedBehindLetter", "(C)I"⟩
abbrev cX5_expectedBehindMove : ByteArray := prog_7_method_7_code
def yX5_expectedBehindMove : MethodName := ⟨RX5, "expectedBehindMove", "(C)I"⟩
abbrev cX5_isDigit : ByteArray := prog_7_method_8_code
def yX5_isDigit : MethodName := ⟨RX5, "isDigit", "(C)Z"⟩
abbrev cX5_isMove : ByteArray := prog_7_method_9_code
def yX5_isMove : MethodName := ⟨RX5, "isMove", "(C)Z"⟩
abbrev cX5_numberBehind : ByteArray := prog_7_method_10_code
def yX5_numberBehind : MethodName := ⟨RX5, "numberBehind", "(I)I"⟩
def RX6 : String := "RevealDeck$Show"
def TX6 : u_T := fun k => match k with
  | 0 => ("RevealDeck$Show", "number", "I", false)
  | 1 => ("RevealDeck$Show", "step", "I", false)
  | 2 => ("RevealDeck$Show", "mark", "I", false)
  | 3 => ("RevealDeck$Show", "clock", "I", false)
  | 4 => ("RevealDeck$Show", "waited", "I", false)
  | 5 => ("RevealDeck$Show", "trailCount", "I", false)
  | 6 => ("RevealDeck$Show", "trailNumbers", "[I", true)
  | 7 => ("RevealDeck$Show", "trailSteps", "[I", true)
  | _ => ("RevealDeck$Show", "trailMarks", "[I", true)
def tyX6 : Nat → FieldType := fun k => match k with
  | 0 => .int
  | 1 => .int
  | 2 => .int
  | 3 => .int
  | 4 => .int
  | 5 => .int
  | 6 => .array .int
  | 7 => .array .int
  | _ => .array .int
theorem nmX6 : ∀ a, a < 9 → ∀ b, b < 9 → a ≠ b → (TX6 a).2.1 ≠ (TX6 b).2.1 := by decide +kernel
theorem tyX6_ok : ∀ k, k < 9 → parseFieldDescriptor (TX6 k).2.2.1 = some (tyX6 k) := by decide +kernel
abbrev cX6_init : ByteArray := prog_8_method_1_code
def yX6_init : MethodName := ⟨RX6, "<init>", "()V"⟩
abbrev cX6_copyFrom : ByteArray := prog_8_method_2_code
def yX6_copyFrom : MethodName := ⟨RX6, "copyFrom", "(LRevealDeck$Show;)V"⟩
abbrev cX6_begin : ByteArray := prog_8_method_3_code
def yX6_begin : MethodName := ⟨RX6, "begin", "(I)V"⟩
abbrev cX6_clear : ByteArray := prog_8_method_4_code
def yX6_clear : MethodName := ⟨RX6, "clear", "()V"⟩
abbrev cX6_moveTo : ByteArray := prog_8_method_5_code
def yX6_moveTo : MethodName := ⟨RX6, "moveTo", "(III)V"⟩
abbrev cX6_dropOldest : ByteArray := prog_8_method_6_code
def yX6_dropOldest : MethodName := ⟨RX6, "dropOldest", "()V"⟩
abbrev cX6_returnTo : ByteArray := prog_8_method_7_code
def yX6_returnTo : MethodName := ⟨RX6, "returnTo", "(I)V"⟩
abbrev cX6_trailValue : ByteArray := prog_8_method_8_code
def yX6_trailValue : MethodName := ⟨RX6, "trailValue", "(II)I"⟩
def RX7 : String := "RevealDeck$Slide"
def TX7 : u_T := fun k => match k with
  | 0 => ("RevealDeck$Slide", "isThere", "Z", false)
  | 1 => ("RevealDeck$Slide", "isHidden", "Z", false)
  | 2 => ("RevealDeck$Slide", "pause", "I", false)
  | 3 => ("RevealDeck$Slide", "itemCount", "I", false)
  | 4 => ("RevealDeck$Slide", "firsts", "[I", true)
  | 5 => ("RevealDeck$Slide", "lasts", "[I", true)
  | 6 => ("RevealDeck$Slide", "tags", "[I", true)
  | _ => ("RevealDeck$Slide", "targets", "[I", true)
def tyX7 : Nat → FieldType := fun k => match k with
  | 0 => .boolean
  | 1 => .boolean
  | 2 => .int
  | 3 => .int
  | 4 => .array .int
  | 5 => .array .int
  | 6 => .array .int
  | _ => .array .int
theorem nmX7 : ∀ a, a < 8 → ∀ b, b < 8 → a ≠ b → (TX7 a).2.1 ≠ (TX7 b).2.1 := by decide +kernel
theorem tyX7_ok : ∀ k, k < 8 → parseFieldDescriptor (TX7 k).2.2.1 = some (tyX7 k) := by decide +kernel
abbrev cX7_init : ByteArray := prog_9_method_1_code
def yX7_init : MethodName := ⟨RX7, "<init>", "()V"⟩
abbrev cX7_clear : ByteArray := prog_9_method_2_code
def yX7_clear : MethodName := ⟨RX7, "clear", "()V"⟩
abbrev cX7_copyFrom : ByteArray := prog_9_method_3_code
def yX7_copyFrom : MethodName := ⟨RX7, "copyFrom", "(LRevealDeck$Slide;)V"⟩
abbrev cX7_putItem : ByteArray := prog_9_method_4_code
def yX7_putItem : MethodName := ⟨RX7, "putItem", "(III)V"⟩
abbrev cX7_dropItem : ByteArray := prog_9_method_5_code
def yX7_dropItem : MethodName := ⟨RX7, "dropItem", "(I)V"⟩
abbrev cX7_targetOf : ByteArray := prog_9_method_6_code
def yX7_targetOf : MethodName := ⟨RX7, "targetOf", "(I)I"⟩
abbrev cX7_setTarget : ByteArray := prog_9_method_7_code
def yX7_setTarget : MethodName := ⟨RX7, "setTarget", "(II)V"⟩
abbrev cX7_dropLinksTo : ByteArray := prog_9_method_8_code
def yX7_dropLinksTo : MethodName := ⟨RX7, "dropLinksTo", "(I)V"⟩
abbrev cX7_countLinks : ByteArray := prog_9_method_9_code
def yX7_countLinks : MethodName := ⟨RX7, "countLinks", "()I"⟩
abbrev cX7_finalStep : ByteArray := prog_9_method_10_code
def yX7_finalStep : MethodName := ⟨RX7, "finalStep", "()I"⟩
abbrev cX7_isSeen : ByteArray := prog_9_method_11_code
def yX7_isSeen : MethodName := ⟨RX7, "isSeen", "(II)Z"⟩
abbrev cX7_maskAt : ByteArray := prog_9_method_12_code
def yX7_maskAt : MethodName := ⟨RX7, "maskAt", "(I)I"⟩
abbrev cX7_sumTagsAt : ByteArray := prog_9_method_13_code
def yX7_sumTagsAt : MethodName := ⟨RX7, "sumTagsAt", "(I)I"⟩
def RX8 : String := "RevealDeck$State"
def TX8 : u_T := fun k => match k with
  | 0 => ("RevealDeck$State", "endSecond", "I", false)
  | 1 => ("RevealDeck$State", "deck", "LRevealDeck$Deck;", true)
  | 2 => ("RevealDeck$State", "notes", "LRevealDeck$Notes;", true)
  | _ => ("RevealDeck$State", "show", "LRevealDeck$Show;", true)
def tyX8 : Nat → FieldType := fun k => match k with
  | 0 => .int
  | 1 => .object "RevealDeck$Deck"
  | 2 => .object "RevealDeck$Notes"
  | _ => .object "RevealDeck$Show"
theorem nmX8 : ∀ a, a < 4 → ∀ b, b < 4 → a ≠ b → (TX8 a).2.1 ≠ (TX8 b).2.1 := by decide +kernel
theorem tyX8_ok : ∀ k, k < 4 → parseFieldDescriptor (TX8 k).2.2.1 = some (tyX8 k) := by decide +kernel
abbrev cX8_init : ByteArray := prog_10_method_1_code
def yX8_init : MethodName := ⟨RX8, "<init>", "()V"⟩
abbrev cX8_copyFrom : ByteArray := prog_10_method_2_code
def yX8_copyFrom : MethodName := ⟨RX8, "copyFrom", "(LRevealDeck$State;)V"⟩
abbrev cX8_here : ByteArray := prog_10_method_3_code
def yX8_here : MethodName := ⟨RX8, "here", "()LRevealDeck$Slide;"⟩
abbrev cX8_isOver : ByteArray := prog_10_method_4_code
def yX8_isOver : MethodName := ⟨RX8, "isOver", "()Z"⟩
abbrev cX8_canMake : ByteArray := prog_10_method_5_code
def yX8_canMake : MethodName := ⟨RX8, "canMake", "(CI)Z"⟩
abbrev cX8_make : ByteArray := prog_10_method_6_code
def yX8_make : MethodName := ⟨RX8, "make", "(CI)V"⟩
abbrev cX8_nextNumber : ByteArray := prog_10_method_7_code
def yX8_nextNumber : MethodName := ⟨RX8, "nextNumber", "()I"⟩
abbrev cX8_goForward : ByteArray := prog_10_method_8_code
def yX8_goForward : MethodName := ⟨RX8, "goForward", "()V"⟩
abbrev cX8_goByKey : ByteArray := prog_10_method_9_code
def yX8_goByKey : MethodName := ⟨RX8, "goByKey", "(I)V"⟩
abbrev cX8_backPlace : ByteArray := prog_10_method_10_code
def yX8_backPlace : MethodName := ⟨RX8, "backPlace", "()I"⟩
abbrev cX8_goBack : ByteArray := prog_10_method_11_code
def yX8_goBack : MethodName := ⟨RX8, "goBack", "()V"⟩
abbrev cX8_clampStep : ByteArray := prog_10_method_12_code
def yX8_clampStep : MethodName := ⟨RX8, "clampStep", "()V"⟩
abbrev cX8_passSeconds : ByteArray := prog_10_method_13_code
def yX8_passSeconds : MethodName := ⟨RX8, "passSeconds", "(I)I"⟩
abbrev cX8_isPauseOver : ByteArray := prog_10_method_14_code
def yX8_isPauseOver : MethodName := ⟨RX8, "isPauseOver", "()Z"⟩
def RX9 : String := "RevealDeck"
def TX9 : u_T := fun k => match k with
  | 0 => ("RevealDeck", "state", "LRevealDeck$State;", true)
  | 1 => ("RevealDeck", "history", "LRevealDeck$History;", true)
  | 2 => ("RevealDeck", "script", "LRevealDeck$Script;", true)
  | 3 => ("RevealDeck", "report", "LRevealDeck$Report;", true)
  | _ => ("RevealDeck", "forecast", "LRevealDeck$Forecast;", true)
def tyX9 : Nat → FieldType := fun k => match k with
  | 0 => .object "RevealDeck$State"
  | 1 => .object "RevealDeck$History"
  | 2 => .object "RevealDeck$Script"
  | 3 => .object "RevealDeck$Report"
  | _ => .object "RevealDeck$Forecast"
theorem nmX9 : ∀ a, a < 5 → ∀ b, b < 5 → a ≠ b → (TX9 a).2.1 ≠ (TX9 b).2.1 := by decide +kernel
theorem tyX9_ok : ∀ k, k < 5 → parseFieldDescriptor (TX9 k).2.2.1 = some (tyX9 k) := by decide +kernel
abbrev cX9_init : ByteArray := prog_1_method_1_code
def yX9_init : MethodName := ⟨RX9, "<init>", "()V"⟩
abbrev cX9_addSlide : ByteArray := prog_1_method_2_code
def yX9_addSlide : MethodName := ⟨RX9, "addSlide", "()I"⟩
abbrev cX9_removeSlide : ByteArray := prog_1_method_3_code
def yX9_removeSlide : MethodName := ⟨RX9, "removeSlide", "(I)I"⟩
abbrev cX9_moveSlide : ByteArray := prog_1_method_4_code
def yX9_moveSlide : MethodName := ⟨RX9, "moveSlide", "(II)I"⟩
abbrev cX9_hide : ByteArray := prog_1_method_5_code
def yX9_hide : MethodName := ⟨RX9, "hide", "(IZ)I"⟩
abbrev cX9_setPause : ByteArray := prog_1_method_6_code
def yX9_setPause : MethodName := ⟨RX9, "setPause", "(II)I"⟩
abbrev cX9_addItem : ByteArray := prog_1_method_7_code
def yX9_addItem : MethodName := ⟨RX9, "addItem", "(IIII)I"⟩
abbrev cX9_removeItem : ByteArray := prog_1_method_8_code
def yX9_removeItem : MethodName := ⟨RX9, "removeItem", "(II)I"⟩
abbrev cX9_link : ByteArray := prog_1_method_9_code
def yX9_link : MethodName := ⟨RX9, "link", "(III)I"⟩
abbrev cX9_unlink : ByteArray := prog_1_method_10_code
def yX9_unlink : MethodName := ⟨RX9, "unlink", "(II)I"⟩
abbrev cX9_note : ByteArray := prog_1_method_11_code
def yX9_note : MethodName := ⟨RX9, "note", "(II)I"⟩
abbrev cX9_setEnd : ByteArray := prog_1_method_12_code
def yX9_setEnd : MethodName := ⟨RX9, "setEnd", "(I)I"⟩
abbrev cX9_start : ByteArray := prog_1_method_13_code
def yX9_start : MethodName := ⟨RX9, "start", "()I"⟩
abbrev cX9_stop : ByteArray := prog_1_method_14_code
def yX9_stop : MethodName := ⟨RX9, "stop", "()I"⟩
abbrev cX9_forward : ByteArray := prog_1_method_15_code
def yX9_forward : MethodName := ⟨RX9, "forward", "()I"⟩
abbrev cX9_back : ByteArray := prog_1_method_16_code
def yX9_back : MethodName := ⟨RX9, "back", "()I"⟩
abbrev cX9_press : ByteArray := prog_1_method_17_code
def yX9_press : MethodName := ⟨RX9, "press", "(I)I"⟩
abbrev cX9_tick : ByteArray := prog_1_method_18_code
def yX9_tick : MethodName := ⟨RX9, "tick", "(I)I"⟩
abbrev cX9_append : ByteArray := prog_1_method_19_code
def yX9_append : MethodName := ⟨RX9, "append", "(I)I"⟩
abbrev cX9_clearText : ByteArray := prog_1_method_20_code
def yX9_clearText : MethodName := ⟨RX9, "clearText", "()I"⟩
abbrev cX9_fault : ByteArray := prog_1_method_21_code
def yX9_fault : MethodName := ⟨RX9, "fault", "()I"⟩
abbrev cX9_run : ByteArray := prog_1_method_22_code
def yX9_run : MethodName := ⟨RX9, "run", "()I"⟩
abbrev cX9_why : ByteArray := prog_1_method_23_code
def yX9_why : MethodName := ⟨RX9, "why", "(I)I"⟩
abbrev cX9_undo : ByteArray := prog_1_method_24_code
def yX9_undo : MethodName := ⟨RX9, "undo", "()I"⟩
abbrev cX9_slides : ByteArray := prog_1_method_25_code
def yX9_slides : MethodName := ⟨RX9, "slides", "()I"⟩
abbrev cX9_slideAt : ByteArray := prog_1_method_26_code
def yX9_slideAt : MethodName := ⟨RX9, "slideAt", "(I)I"⟩
abbrev cX9_slide : ByteArray := prog_1_method_27_code
def yX9_slide : MethodName := ⟨RX9, "slide", "(II)I"⟩
abbrev cX9_item : ByteArray := prog_1_method_28_code
def yX9_item : MethodName := ⟨RX9, "item", "(III)I"⟩
abbrev cX9_target : ByteArray := prog_1_method_29_code
def yX9_target : MethodName := ⟨RX9, "target", "(II)I"⟩
abbrev cX9_picture : ByteArray := prog_1_method_30_code
def yX9_picture : MethodName := ⟨RX9, "picture", "(II)I"⟩
abbrev cX9_now : ByteArray := prog_1_method_31_code
def yX9_now : MethodName := ⟨RX9, "now", "(I)I"⟩
abbrev cX9_trail : ByteArray := prog_1_method_32_code
def yX9_trail : MethodName := ⟨RX9, "trail", "(II)I"⟩
abbrev cX9_labels : ByteArray := prog_1_method_33_code
def yX9_labels : MethodName := ⟨RX9, "labels", "()I"⟩
abbrev cX9_noteNow : ByteArray := prog_1_method_34_code
def yX9_noteNow : MethodName := ⟨RX9, "noteNow", "()I"⟩
abbrev cX9_end : ByteArray := prog_1_method_35_code
def yX9_end : MethodName := ⟨RX9, "end", "()I"⟩
abbrev cX9_meanSteps : ByteArray := prog_1_method_36_code
def yX9_meanSteps : MethodName := ⟨RX9, "meanSteps", "()F"⟩
abbrev cX9_movesLeft : ByteArray := prog_1_method_37_code
def yX9_movesLeft : MethodName := ⟨RX9, "movesLeft", "()I"⟩
abbrev cX9_fewest : ByteArray := prog_1_method_38_code
def yX9_fewest : MethodName := ⟨RX9, "fewest", "(I)I"⟩
abbrev cX9_secondsLeft : ByteArray := prog_1_method_39_code
def yX9_secondsLeft : MethodName := ⟨RX9, "secondsLeft", "()I"⟩
abbrev cX9_backTo : ByteArray := prog_1_method_40_code
def yX9_backTo : MethodName := ⟨RX9, "backTo", "()I"⟩
abbrev cX9_isWithin : ByteArray := prog_1_method_41_code
def yX9_isWithin : MethodName := ⟨RX9, "isWithin", "(III)Z"⟩
abbrev cX9_asNumber : ByteArray := prog_1_method_42_code
def yX9_asNumber : MethodName := ⟨RX9, "asNumber", "(Z)I"⟩
def RX10 : String := "RevealDeckModel"
def TX10 : u_T := fun k => match k with
  | 0 => ("RevealDeckModel", "s", "[I", true)
  | 1 => ("RevealDeckModel", "states", "I", false)
  | 2 => ("RevealDeckModel", "text", "[I", true)
  | 3 => ("RevealDeckModel", "length", "I", false)
  | 4 => ("RevealDeckModel", "at", "I", false)
  | 5 => ("RevealDeckModel", "letter", "I", false)
  | 6 => ("RevealDeckModel", "number", "I", false)
  | 7 => ("RevealDeckModel", "report", "[I", true)
  | _ => ("RevealDeckModel", "moves", "[I", true)
def tyX10 : Nat → FieldType := fun k => match k with
  | 0 => .array .int
  | 1 => .int
  | 2 => .array .int
  | 3 => .int
  | 4 => .int
  | 5 => .int
  | 6 => .int
  | 7 => .array .int
  | _ => .array .int
theorem nmX10 : ∀ a, a < 9 → ∀ b, b < 9 → a ≠ b → (TX10 a).2.1 ≠ (TX10 b).2.1 := by decide +kernel
theorem tyX10_ok : ∀ k, k < 9 → parseFieldDescriptor (TX10 k).2.2.1 = some (tyX10 k) := by decide +kernel
abbrev cX10_init : ByteArray := prog_12_method_1_code
def yX10_init : MethodName := ⟨RX10, "<init>", "()V"⟩
abbrev cX10_in : ByteArray := prog_12_method_2_code
def yX10_in : MethodName := ⟨RX10, "in", "(III)Z"⟩
abbrev cX10_of : ByteArray := prog_12_method_3_code
def yX10_of : MethodName := ⟨RX10, "of", "(II)I"⟩
abbrev cX10_lay : ByteArray := prog_12_method_4_code
def yX10_lay : MethodName := ⟨RX10, "lay", "(III)V"⟩
abbrev cX10_isSlide : ByteArray := prog_12_method_5_code
def yX10_isSlide : MethodName := ⟨RX10, "isSlide", "(I)Z"⟩
abbrev cX10_isItem : ByteArray := prog_12_method_6_code
def yX10_isItem : MethodName := ⟨RX10, "isItem", "(II)Z"⟩
abbrev cX10_isShown : ByteArray := prog_12_method_7_code
def yX10_isShown : MethodName := ⟨RX10, "isShown", "(I)Z"⟩
abbrev cX10_isKey : ByteArray := prog_12_method_8_code
def yX10_isKey : MethodName := ⟨RX10, "isKey", "(I)Z"⟩
abbrev cX10_finalStep : ByteArray := prog_12_method_9_code
def yX10_finalStep : MethodName := ⟨RX10, "finalStep", "(I)I"⟩
abbrev cX10_seen : ByteArray := prog_12_method_10_code
def yX10_seen : MethodName := ⟨RX10, "seen", "(II)I"⟩
abbrev cX10_links : ByteArray := prog_12_method_11_code
def yX10_links : MethodName := ⟨RX10, "links", "(I)I"⟩
abbrev cX10_placeOf : ByteArray := prog_12_method_12_code
def yX10_placeOf : MethodName := ⟨RX10, "placeOf", "(I)I"⟩
abbrev cX10_shownFrom : ByteArray := prog_12_method_13_code
def yX10_shownFrom : MethodName := ⟨RX10, "shownFrom", "(I)I"⟩
abbrev cX10_nextOf : ByteArray := prog_12_method_14_code
def yX10_nextOf : MethodName := ⟨RX10, "nextOf", "(I)I"⟩
abbrev cX10_isOver : ByteArray := prog_12_method_15_code
def yX10_isOver : MethodName := ⟨RX10, "isOver", "()Z"⟩
abbrev cX10_isOn : ByteArray := prog_12_method_16_code
def yX10_isOn : MethodName := ⟨RX10, "isOn", "()Z"⟩
abbrev cX10_canForward : ByteArray := prog_12_method_17_code
def yX10_canForward : MethodName := ⟨RX10, "canForward", "()Z"⟩
abbrev cX10_comes : ByteArray := prog_12_method_18_code
def yX10_comes : MethodName := ⟨RX10, "comes", "(III)V"⟩
abbrev cX10_forwards : ByteArray := prog_12_method_19_code
def yX10_forwards : MethodName := ⟨RX10, "forwards", "()I"⟩
abbrev cX10_backPlace : ByteArray := prog_12_method_20_code
def yX10_backPlace : MethodName := ⟨RX10, "backPlace", "()I"⟩
abbrev cX10_backs : ByteArray := prog_12_method_21_code
def yX10_backs : MethodName := ⟨RX10, "backs", "()I"⟩
abbrev cX10_canPress : ByteArray := prog_12_method_22_code
def yX10_canPress : MethodName := ⟨RX10, "canPress", "(I)Z"⟩
abbrev cX10_presses : ByteArray := prog_12_method_23_code
def yX10_presses : MethodName := ⟨RX10, "presses", "(I)I"⟩
abbrev cX10_ticks : ByteArray := prog_12_method_24_code
def yX10_ticks : MethodName := ⟨RX10, "ticks", "(I)I"⟩
abbrev cX10_copies : ByteArray := prog_12_method_25_code
def yX10_copies : MethodName := ⟨RX10, "copies", "(II)V"⟩
abbrev cX10_save : ByteArray := prog_12_method_26_code
def yX10_save : MethodName := ⟨RX10, "save", "()V"⟩
abbrev cX10_addSlide : ByteArray := prog_12_method_27_code
def yX10_addSlide : MethodName := ⟨RX10, "addSlide", "()I"⟩
abbrev cX10_takesOut : ByteArray := prog_12_method_28_code
def yX10_takesOut : MethodName := ⟨RX10, "takesOut", "(I)I"⟩
abbrev cX10_removeSlide : ByteArray := prog_12_method_29_code
def yX10_removeSlide : MethodName := ⟨RX10, "removeSlide", "(I)I"⟩
abbrev cX10_moveSlide : ByteArray := prog_12_method_30_code
def yX10_moveSlide : MethodName := ⟨RX10, "moveSlide", "(II)I"⟩
abbrev cX10_hide : ByteArray := prog_12_method_31_code
def yX10_hide : MethodName := ⟨RX10, "hide", "(IZ)I"⟩
abbrev cX10_setPause : ByteArray := prog_12_method_32_code
def yX10_setPause : MethodName := ⟨RX10, "setPause", "(II)I"⟩
abbrev cX10_addItem : ByteArray := prog_12_method_33_code
def yX10_addItem : MethodName := ⟨RX10, "addItem", "(IIII)I"⟩
abbrev cX10_removeItem : ByteArray := prog_12_method_34_code
def yX10_removeItem : MethodName := ⟨RX10, "removeItem", "(II)I"⟩
abbrev cX10_link : ByteArray := prog_12_method_35_code
def yX10_link : MethodName := ⟨RX10, "link", "(III)I"⟩
abbrev cX10_unlink : ByteArray := prog_12_method_36_code
def yX10_unlink : MethodName := ⟨RX10, "unlink", "(II)I"⟩
abbrev cX10_notePlace : ByteArray := prog_12_method_37_code
def yX10_notePlace : MethodName := ⟨RX10, "notePlace", "(I)I"⟩
abbrev cX10_note : ByteArray := prog_12_method_38_code
def yX10_note : MethodName := ⟨RX10, "note", "(II)I"⟩
abbrev cX10_setEnd : ByteArray := prog_12_method_39_code
def yX10_setEnd : MethodName := ⟨RX10, "setEnd", "(I)I"⟩
abbrev cX10_start : ByteArray := prog_12_method_40_code
def yX10_start : MethodName := ⟨RX10, "start", "()I"⟩
abbrev cX10_stop : ByteArray := prog_12_method_41_code
def yX10_stop : MethodName := ⟨RX10, "stop", "()I"⟩
abbrev cX10_forward : ByteArray := prog_12_method_42_code
def yX10_forward : MethodName := ⟨RX10, "forward", "()I"⟩
abbrev cX10_back : ByteArray := prog_12_method_43_code
def yX10_back : MethodName := ⟨RX10, "back", "()I"⟩
abbrev cX10_press : ByteArray := prog_12_method_44_code
def yX10_press : MethodName := ⟨RX10, "press", "(I)I"⟩
abbrev cX10_tick : ByteArray := prog_12_method_45_code
def yX10_tick : MethodName := ⟨RX10, "tick", "(I)I"⟩
abbrev cX10_append : ByteArray := prog_12_method_46_code
def yX10_append : MethodName := ⟨RX10, "append", "(I)I"⟩
abbrev cX10_clearText : ByteArray := prog_12_method_47_code
def yX10_clearText : MethodName := ⟨RX10, "clearText", "()I"⟩
abbrev cX10_sign : ByteArray := prog_12_method_48_code
def yX10_sign : MethodName := ⟨RX10, "sign", "()I"⟩
abbrev cX10_takes : ByteArray := prog_12_method_49_code
def yX10_takes : MethodName := ⟨RX10, "takes", "(I)Z"⟩
abbrev cX10_readsMove : ByteArray := prog_12_method_50_code
def yX10_readsMove : MethodName := ⟨RX10, "readsMove", "()Z"⟩
abbrev cX10_isText : ByteArray := prog_12_method_51_code
def yX10_isText : MethodName := ⟨RX10, "isText", "()Z"⟩
abbrev cX10_fault : ByteArray := prog_12_method_52_code
def yX10_fault : MethodName := ⟨RX10, "fault", "()I"⟩
abbrev cX10_isMade : ByteArray := prog_12_method_53_code
def yX10_isMade : MethodName := ⟨RX10, "isMade", "()Z"⟩
abbrev cX10_run : ByteArray := prog_12_method_54_code
def yX10_run : MethodName := ⟨RX10, "run", "()I"⟩
abbrev cX10_why : ByteArray := prog_12_method_55_code
def yX10_why : MethodName := ⟨RX10, "why", "(I)I"⟩
abbrev cX10_undo : ByteArray := prog_12_method_56_code
def yX10_undo : MethodName := ⟨RX10, "undo", "()I"⟩
abbrev cX10_slides : ByteArray := prog_12_method_57_code
def yX10_slides : MethodName := ⟨RX10, "slides", "()I"⟩
abbrev cX10_slideAt : ByteArray := prog_12_method_58_code
def yX10_slideAt : MethodName := ⟨RX10, "slideAt", "(I)I"⟩
abbrev cX10_slide : ByteArray := prog_12_method_59_code
def yX10_slide : MethodName := ⟨RX10, "slide", "(II)I"⟩
abbrev cX10_item : ByteArray := prog_12_method_60_code
def yX10_item : MethodName := ⟨RX10, "item", "(III)I"⟩
abbrev cX10_target : ByteArray := prog_12_method_61_code
def yX10_target : MethodName := ⟨RX10, "target", "(II)I"⟩
abbrev cX10_picture : ByteArray := prog_12_method_62_code
def yX10_picture : MethodName := ⟨RX10, "picture", "(II)I"⟩
abbrev cX10_now : ByteArray := prog_12_method_63_code
def yX10_now : MethodName := ⟨RX10, "now", "(I)I"⟩
abbrev cX10_trail : ByteArray := prog_12_method_64_code
def yX10_trail : MethodName := ⟨RX10, "trail", "(II)I"⟩
abbrev cX10_labels : ByteArray := prog_12_method_65_code
def yX10_labels : MethodName := ⟨RX10, "labels", "()I"⟩
abbrev cX10_noteNow : ByteArray := prog_12_method_66_code
def yX10_noteNow : MethodName := ⟨RX10, "noteNow", "()I"⟩
abbrev cX10_end : ByteArray := prog_12_method_67_code
def yX10_end : MethodName := ⟨RX10, "end", "()I"⟩
abbrev cX10_meanSteps : ByteArray := prog_12_method_68_code
def yX10_meanSteps : MethodName := ⟨RX10, "meanSteps", "()F"⟩
abbrev cX10_movesLeft : ByteArray := prog_12_method_69_code
def yX10_movesLeft : MethodName := ⟨RX10, "movesLeft", "()I"⟩
abbrev cX10_reaches : ByteArray := prog_12_method_70_code
def yX10_reaches : MethodName := ⟨RX10, "reaches", "(III)Z"⟩
abbrev cX10_leads : ByteArray := prog_12_method_71_code
def yX10_leads : MethodName := ⟨RX10, "leads", "(I)I"⟩
abbrev cX10_fewest : ByteArray := prog_12_method_72_code
def yX10_fewest : MethodName := ⟨RX10, "fewest", "(I)I"⟩
abbrev cX10_secondsLeft : ByteArray := prog_12_method_73_code
def yX10_secondsLeft : MethodName := ⟨RX10, "secondsLeft", "()I"⟩
abbrev cX10_backTo : ByteArray := prog_12_method_74_code
def yX10_backTo : MethodName := ⟨RX10, "backTo", "()I"⟩
def RJ9 : String := "java/lang/Math"
def TJ9 : u_T := fun k => match k with
  | _ => ("", "", "", false)
def tyJ9 : Nat → FieldType := fun k => match k with
  | _ => .int
theorem nmJ9 : ∀ a, a < 0 → ∀ b, b < 0 → a ≠ b → (TJ9 a).2.1 ≠ (TJ9 b).2.1 := by decide +kernel
theorem tyJ9_ok : ∀ k, k < 0 → parseFieldDescriptor (TJ9 k).2.2.1 = some (tyJ9 k) := by decide +kernel
abbrev cJ9_max_7cf53 : ByteArray := prog_13_method_65_code
def yJ9_max_7cf53 : MethodName := ⟨RJ9, "max", "(II)I"⟩
abbrev cJ9_min_7cf53 : ByteArray := prog_13_method_69_code
def yJ9_min_7cf53 : MethodName := ⟨RJ9, "min", "(II)I"⟩
def RJ10 : String := "java/lang/System"
def TJ10 : u_T := fun k => match k with
  | _ => ("", "", "", false)
def tyJ10 : Nat → FieldType := fun k => match k with
  | _ => .int
theorem nmJ10 : ∀ a, a < 0 → ∀ b, b < 0 → a ≠ b → (TJ10 a).2.1 ≠ (TJ10 b).2.1 := by decide +kernel
theorem tyJ10_ok : ∀ k, k < 0 → parseFieldDescriptor (TJ10 k).2.2.1 = some (tyJ10 k) := by decide +kernel
def RL : String := "RevealDeckLaw"
abbrev cL_law : ByteArray := code
def yL_law : MethodName := ⟨RL, "law", "([I)Z"⟩
def rd_T : List Cond := lw_tbl.filter goodWord
theorem rs_X10_save : (.selects RX10 yX10_save yX10_save) ∈ rd_T := List.mem_filter.mpr ⟨List.mem_of_getElem? (i := 0) (by decide +kernel), by decide +kernel⟩
theorem rs_X10_copies : (.selects RX10 yX10_copies yX10_copies) ∈ rd_T := List.mem_filter.mpr ⟨List.mem_of_getElem? (i := 1) (by decide +kernel), by decide +kernel⟩
theorem rs_X10_of : (.selects RX10 yX10_of yX10_of) ∈ rd_T := List.mem_filter.mpr ⟨List.mem_of_getElem? (i := 2) (by decide +kernel), by decide +kernel⟩
theorem rs_X10_lay : (.selects RX10 yX10_lay yX10_lay) ∈ rd_T := List.mem_filter.mpr ⟨List.mem_of_getElem? (i := 3) (by decide +kernel), by decide +kernel⟩
theorem rs_X10_isSlide : (.selects RX10 yX10_isSlide yX10_isSlide) ∈ rd_T := List.mem_filter.mpr ⟨List.mem_of_getElem? (i := 4) (by decide +kernel), by decide +kernel⟩
theorem rs_X10_takesOut : (.selects RX10 yX10_takesOut yX10_takesOut) ∈ rd_T := List.mem_filter.mpr ⟨List.mem_of_getElem? (i := 5) (by decide +kernel), by decide +kernel⟩
theorem rs_X10_placeOf : (.selects RX10 yX10_placeOf yX10_placeOf) ∈ rd_T := List.mem_filter.mpr ⟨List.mem_of_getElem? (i := 6) (by decide +kernel), by decide +kernel⟩
theorem rs_X10_isItem : (.selects RX10 yX10_isItem yX10_isItem) ∈ rd_T := List.mem_filter.mpr ⟨List.mem_of_getElem? (i := 7) (by decide +kernel), by decide +kernel⟩
theorem rs_X10_finalStep : (.selects RX10 yX10_finalStep yX10_finalStep) ∈ rd_T := List.mem_filter.mpr ⟨List.mem_of_getElem? (i := 8) (by decide +kernel), by decide +kernel⟩
theorem rs_X10_isKey : (.selects RX10 yX10_isKey yX10_isKey) ∈ rd_T := List.mem_filter.mpr ⟨List.mem_of_getElem? (i := 9) (by decide +kernel), by decide +kernel⟩
theorem rs_X10_links : (.selects RX10 yX10_links yX10_links) ∈ rd_T := List.mem_filter.mpr ⟨List.mem_of_getElem? (i := 10) (by decide +kernel), by decide +kernel⟩
theorem rs_X10_notePlace : (.selects RX10 yX10_notePlace yX10_notePlace) ∈ rd_T := List.mem_filter.mpr ⟨List.mem_of_getElem? (i := 11) (by decide +kernel), by decide +kernel⟩
theorem rs_X10_shownFrom : (.selects RX10 yX10_shownFrom yX10_shownFrom) ∈ rd_T := List.mem_filter.mpr ⟨List.mem_of_getElem? (i := 12) (by decide +kernel), by decide +kernel⟩
theorem rs_X10_isShown : (.selects RX10 yX10_isShown yX10_isShown) ∈ rd_T := List.mem_filter.mpr ⟨List.mem_of_getElem? (i := 13) (by decide +kernel), by decide +kernel⟩
theorem rs_X10_isOn : (.selects RX10 yX10_isOn yX10_isOn) ∈ rd_T := List.mem_filter.mpr ⟨List.mem_of_getElem? (i := 14) (by decide +kernel), by decide +kernel⟩
theorem rs_X10_isOver : (.selects RX10 yX10_isOver yX10_isOver) ∈ rd_T := List.mem_filter.mpr ⟨List.mem_of_getElem? (i := 15) (by decide +kernel), by decide +kernel⟩
theorem rs_X10_canForward : (.selects RX10 yX10_canForward yX10_canForward) ∈ rd_T := List.mem_filter.mpr ⟨List.mem_of_getElem? (i := 16) (by decide +kernel), by decide +kernel⟩
theorem rs_X10_nextOf : (.selects RX10 yX10_nextOf yX10_nextOf) ∈ rd_T := List.mem_filter.mpr ⟨List.mem_of_getElem? (i := 17) (by decide +kernel), by decide +kernel⟩
theorem rs_X10_forwards : (.selects RX10 yX10_forwards yX10_forwards) ∈ rd_T := List.mem_filter.mpr ⟨List.mem_of_getElem? (i := 18) (by decide +kernel), by decide +kernel⟩
theorem rs_X10_comes : (.selects RX10 yX10_comes yX10_comes) ∈ rd_T := List.mem_filter.mpr ⟨List.mem_of_getElem? (i := 19) (by decide +kernel), by decide +kernel⟩
theorem rs_X10_backPlace : (.selects RX10 yX10_backPlace yX10_backPlace) ∈ rd_T := List.mem_filter.mpr ⟨List.mem_of_getElem? (i := 20) (by decide +kernel), by decide +kernel⟩
theorem rs_X10_backs : (.selects RX10 yX10_backs yX10_backs) ∈ rd_T := List.mem_filter.mpr ⟨List.mem_of_getElem? (i := 21) (by decide +kernel), by decide +kernel⟩
theorem rs_X10_canPress : (.selects RX10 yX10_canPress yX10_canPress) ∈ rd_T := List.mem_filter.mpr ⟨List.mem_of_getElem? (i := 22) (by decide +kernel), by decide +kernel⟩
theorem rs_X10_presses : (.selects RX10 yX10_presses yX10_presses) ∈ rd_T := List.mem_filter.mpr ⟨List.mem_of_getElem? (i := 23) (by decide +kernel), by decide +kernel⟩
theorem rs_X10_ticks : (.selects RX10 yX10_ticks yX10_ticks) ∈ rd_T := List.mem_filter.mpr ⟨List.mem_of_getElem? (i := 24) (by decide +kernel), by decide +kernel⟩
theorem rs_X10_isText : (.selects RX10 yX10_isText yX10_isText) ∈ rd_T := List.mem_filter.mpr ⟨List.mem_of_getElem? (i := 25) (by decide +kernel), by decide +kernel⟩
theorem rs_X10_readsMove : (.selects RX10 yX10_readsMove yX10_readsMove) ∈ rd_T := List.mem_filter.mpr ⟨List.mem_of_getElem? (i := 26) (by decide +kernel), by decide +kernel⟩
theorem rs_X10_sign : (.selects RX10 yX10_sign yX10_sign) ∈ rd_T := List.mem_filter.mpr ⟨List.mem_of_getElem? (i := 27) (by decide +kernel), by decide +kernel⟩
theorem rs_X10_takes : (.selects RX10 yX10_takes yX10_takes) ∈ rd_T := List.mem_filter.mpr ⟨List.mem_of_getElem? (i := 28) (by decide +kernel), by decide +kernel⟩
theorem rs_X10_isMade : (.selects RX10 yX10_isMade yX10_isMade) ∈ rd_T := List.mem_filter.mpr ⟨List.mem_of_getElem? (i := 29) (by decide +kernel), by decide +kernel⟩
theorem rs_X10_seen : (.selects RX10 yX10_seen yX10_seen) ∈ rd_T := List.mem_filter.mpr ⟨List.mem_of_getElem? (i := 30) (by decide +kernel), by decide +kernel⟩
theorem rs_X10_leads : (.selects RX10 yX10_leads yX10_leads) ∈ rd_T := List.mem_filter.mpr ⟨List.mem_of_getElem? (i := 31) (by decide +kernel), by decide +kernel⟩
theorem rs_X10_reaches : (.selects RX10 yX10_reaches yX10_reaches) ∈ rd_T := List.mem_filter.mpr ⟨List.mem_of_getElem? (i := 32) (by decide +kernel), by decide +kernel⟩
theorem rz_L : (.initialized RL) ∈ rd_T := List.mem_filter.mpr ⟨List.mem_of_getElem? (i := 33) (by decide +kernel), by decide +kernel⟩
theorem rz_X9 : (.initialized RX9) ∈ rd_T := List.mem_filter.mpr ⟨List.mem_of_getElem? (i := 34) (by decide +kernel), by decide +kernel⟩
theorem rz_X8 : (.initialized RX8) ∈ rd_T := List.mem_filter.mpr ⟨List.mem_of_getElem? (i := 35) (by decide +kernel), by decide +kernel⟩
theorem rz_X0 : (.initialized RX0) ∈ rd_T := List.mem_filter.mpr ⟨List.mem_of_getElem? (i := 36) (by decide +kernel), by decide +kernel⟩
theorem rz_X7 : (.initialized RX7) ∈ rd_T := List.mem_filter.mpr ⟨List.mem_of_getElem? (i := 37) (by decide +kernel), by decide +kernel⟩
theorem rz_X3 : (.initialized RX3) ∈ rd_T := List.mem_filter.mpr ⟨List.mem_of_getElem? (i := 38) (by decide +kernel), by decide +kernel⟩
theorem rz_X6 : (.initialized RX6) ∈ rd_T := List.mem_filter.mpr ⟨List.mem_of_getElem? (i := 39) (by decide +kernel), by decide +kernel⟩
theorem rz_X2 : (.initialized RX2) ∈ rd_T := List.mem_filter.mpr ⟨List.mem_of_getElem? (i := 40) (by decide +kernel), by decide +kernel⟩
theorem rz_X5 : (.initialized RX5) ∈ rd_T := List.mem_filter.mpr ⟨List.mem_of_getElem? (i := 41) (by decide +kernel), by decide +kernel⟩
theorem rz_X4 : (.initialized RX4) ∈ rd_T := List.mem_filter.mpr ⟨List.mem_of_getElem? (i := 42) (by decide +kernel), by decide +kernel⟩
theorem rz_X1 : (.initialized RX1) ∈ rd_T := List.mem_filter.mpr ⟨List.mem_of_getElem? (i := 43) (by decide +kernel), by decide +kernel⟩
theorem rz_X10 : (.initialized RX10) ∈ rd_T := List.mem_filter.mpr ⟨List.mem_of_getElem? (i := 44) (by decide +kernel), by decide +kernel⟩
theorem rz_J10 : (.initialized RJ10) ∈ rd_T := List.mem_filter.mpr ⟨List.mem_of_getElem? (i := 45) (by decide +kernel), by decide +kernel⟩
theorem rz_J9 : (.initialized RJ9) ∈ rd_T := List.mem_filter.mpr ⟨List.mem_of_getElem? (i := 46) (by decide +kernel), by decide +kernel⟩
theorem rk_L_7 : (.classLink RL 7 RX9) ∈ rd_T := List.mem_filter.mpr ⟨List.mem_of_getElem? (i := 47) (by decide +kernel), by decide +kernel⟩
theorem rq_X9 : (.instantiable RX9 5) ∈ rd_T := List.mem_filter.mpr ⟨List.mem_of_getElem? (i := 48) (by decide +kernel), by decide +kernel⟩
theorem rm_L_9 : (.methodLink RL 9 yX9_init) ∈ rd_T := List.mem_filter.mpr ⟨List.mem_of_getElem? (i := 49) (by decide +kernel), by decide +kernel⟩
theorem ri_X9_init : (.instanceMethod yX9_init) ∈ rd_T := List.mem_filter.mpr ⟨List.mem_of_getElem? (i := 50) (by decide +kernel), by decide +kernel⟩
theorem rc_X9_init : (.code yX9_init cX9_init 1 (Option.none : Option Jvm.ClassFile.FieldType)) ∈ rd_T := List.mem_filter.mpr ⟨List.mem_of_getElem? (i := 51) (by decide +kernel), by decide +kernel⟩
theorem rm_X9_1 : (.methodLink RX9 1 ⟨"java/lang/Object", "<init>", "()V"⟩) ∈ rd_T := List.mem_filter.mpr ⟨List.mem_of_getElem? (i := 52) (by decide +kernel), by decide +kernel⟩
theorem ri_Object__init_ : (.instanceMethod ⟨"java/lang/Object", "<init>", "()V"⟩) ∈ rd_T := List.mem_filter.mpr ⟨List.mem_of_getElem? (i := 53) (by decide +kernel), by decide +kernel⟩
theorem rc_Object__init_ : (.code ⟨"java/lang/Object", "<init>", "()V"⟩ object_method_1_code 1 (Option.none : Option Jvm.ClassFile.FieldType)) ∈ rd_T := List.mem_filter.mpr ⟨List.mem_of_getElem? (i := 54) (by decide +kernel), by decide +kernel⟩
theorem rk_X9_7 : (.classLink RX9 7 RX8) ∈ rd_T := List.mem_filter.mpr ⟨List.mem_of_getElem? (i := 55) (by decide +kernel), by decide +kernel⟩
theorem rq_X8 : (.instantiable RX8 4) ∈ rd_T := List.mem_filter.mpr ⟨List.mem_of_getElem? (i := 56) (by decide +kernel), by decide +kernel⟩
theorem ri_X8_init : (.instanceMethod yX8_init) ∈ rd_T := List.mem_filter.mpr ⟨List.mem_of_getElem? (i := 58) (by decide +kernel), by decide +kernel⟩
theorem rc_X8_init : (.code yX8_init cX8_init 1 (Option.none : Option Jvm.ClassFile.FieldType)) ∈ rd_T := List.mem_filter.mpr ⟨List.mem_of_getElem? (i := 59) (by decide +kernel), by decide +kernel⟩
theorem rm_X8_3 : (.methodLink RX8 3 ⟨"java/lang/Object", "<init>", "()V"⟩) ∈ rd_T := List.mem_filter.mpr ⟨List.mem_of_getElem? (i := 60) (by decide +kernel), by decide +kernel⟩
theorem rk_X8_9 : (.classLink RX8 9 RX0) ∈ rd_T := List.mem_filter.mpr ⟨List.mem_of_getElem? (i := 61) (by decide +kernel), by decide +kernel⟩
theorem rq_X0 : (.instantiable RX0 3) ∈ rd_T := List.mem_filter.mpr ⟨List.mem_of_getElem? (i := 62) (by decide +kernel), by decide +kernel⟩
theorem rm_X8_11 : (.methodLink RX8 11 yX0_init) ∈ rd_T := List.mem_filter.mpr ⟨List.mem_of_getElem? (i := 63) (by decide +kernel), by decide +kernel⟩
theorem ri_X0_init : (.instanceMethod yX0_init) ∈ rd_T := List.mem_filter.mpr ⟨List.mem_of_getElem? (i := 64) (by decide +kernel), by decide +kernel⟩
theorem rc_X0_init : (.code yX0_init cX0_init 3 (Option.none : Option Jvm.ClassFile.FieldType)) ∈ rd_T := List.mem_filter.mpr ⟨List.mem_of_getElem? (i := 65) (by decide +kernel), by decide +kernel⟩
theorem rm_X0_3 : (.methodLink RX0 3 ⟨"java/lang/Object", "<init>", "()V"⟩) ∈ rd_T := List.mem_filter.mpr ⟨List.mem_of_getElem? (i := 66) (by decide +kernel), by decide +kernel⟩
theorem rk_X0_15 : (.classLink RX0 15 RX7) ∈ rd_T := List.mem_filter.mpr ⟨List.mem_of_getElem? (i := 67) (by decide +kernel), by decide +kernel⟩
theorem rq_X7 : (.instantiable RX7 8) ∈ rd_T := List.mem_filter.mpr ⟨List.mem_of_getElem? (i := 69) (by decide +kernel), by decide +kernel⟩
theorem ri_X7_init : (.instanceMethod yX7_init) ∈ rd_T := List.mem_filter.mpr ⟨List.mem_of_getElem? (i := 71) (by decide +kernel), by decide +kernel⟩
theorem rc_X7_init : (.code yX7_init cX7_init 1 (Option.none : Option Jvm.ClassFile.FieldType)) ∈ rd_T := List.mem_filter.mpr ⟨List.mem_of_getElem? (i := 72) (by decide +kernel), by decide +kernel⟩
theorem rm_X7_3 : (.methodLink RX7 3 ⟨"java/lang/Object", "<init>", "()V"⟩) ∈ rd_T := List.mem_filter.mpr ⟨List.mem_of_getElem? (i := 73) (by decide +kernel), by decide +kernel⟩
theorem rf_X7_24 : (.fieldLink RX7 24 "RevealDeck$Slide" "isThere" "Z") ∈ rd_T := List.mem_filter.mpr ⟨List.mem_of_getElem? (i := 74) (by decide +kernel), by decide +kernel⟩
theorem rf_X0_39 : (.fieldLink RX0 39 "RevealDeck$Slide" "isThere" "Z") ∈ rd_T := List.mem_filter.mpr ⟨List.mem_of_getElem? (i := 75) (by decide +kernel), by decide +kernel⟩
theorem rf_X7_28 : (.fieldLink RX7 28 "RevealDeck$Slide" "isHidden" "Z") ∈ rd_T := List.mem_filter.mpr ⟨List.mem_of_getElem? (i := 76) (by decide +kernel), by decide +kernel⟩
theorem rf_X1_69 : (.fieldLink RX1 69 "RevealDeck$Slide" "isHidden" "Z") ∈ rd_T := List.mem_filter.mpr ⟨List.mem_of_getElem? (i := 77) (by decide +kernel), by decide +kernel⟩
theorem rf_X9_97 : (.fieldLink RX9 97 "RevealDeck$Slide" "isHidden" "Z") ∈ rd_T := List.mem_filter.mpr ⟨List.mem_of_getElem? (i := 78) (by decide +kernel), by decide +kernel⟩
theorem rf_X8_116 : (.fieldLink RX8 116 "RevealDeck$Slide" "isHidden" "Z") ∈ rd_T := List.mem_filter.mpr ⟨List.mem_of_getElem? (i := 79) (by decide +kernel), by decide +kernel⟩
theorem rf_X0_69 : (.fieldLink RX0 69 "RevealDeck$Slide" "isHidden" "Z") ∈ rd_T := List.mem_filter.mpr ⟨List.mem_of_getElem? (i := 80) (by decide +kernel), by decide +kernel⟩
theorem rf_X7_31 : (.fieldLink RX7 31 "RevealDeck$Slide" "pause" "I") ∈ rd_T := List.mem_filter.mpr ⟨List.mem_of_getElem? (i := 81) (by decide +kernel), by decide +kernel⟩
theorem rf_X1_55 : (.fieldLink RX1 55 "RevealDeck$Slide" "pause" "I") ∈ rd_T := List.mem_filter.mpr ⟨List.mem_of_getElem? (i := 82) (by decide +kernel), by decide +kernel⟩
theorem rf_X9_106 : (.fieldLink RX9 106 "RevealDeck$Slide" "pause" "I") ∈ rd_T := List.mem_filter.mpr ⟨List.mem_of_getElem? (i := 83) (by decide +kernel), by decide +kernel⟩
theorem rf_X8_137 : (.fieldLink RX8 137 "RevealDeck$Slide" "pause" "I") ∈ rd_T := List.mem_filter.mpr ⟨List.mem_of_getElem? (i := 84) (by decide +kernel), by decide +kernel⟩
theorem rf_X7_35 : (.fieldLink RX7 35 "RevealDeck$Slide" "itemCount" "I") ∈ rd_T := List.mem_filter.mpr ⟨List.mem_of_getElem? (i := 85) (by decide +kernel), by decide +kernel⟩
theorem rf_X9_109 : (.fieldLink RX9 109 "RevealDeck$Slide" "itemCount" "I") ∈ rd_T := List.mem_filter.mpr ⟨List.mem_of_getElem? (i := 86) (by decide +kernel), by decide +kernel⟩
theorem rf_X7_9 : (.fieldLink RX7 9 "RevealDeck$Slide" "firsts" "[I") ∈ rd_T := List.mem_filter.mpr ⟨List.mem_of_getElem? (i := 87) (by decide +kernel), by decide +kernel⟩
theorem rf_X9_226 : (.fieldLink RX9 226 "RevealDeck$Slide" "firsts" "[I") ∈ rd_T := List.mem_filter.mpr ⟨List.mem_of_getElem? (i := 88) (by decide +kernel), by decide +kernel⟩
theorem rf_X7_15 : (.fieldLink RX7 15 "RevealDeck$Slide" "lasts" "[I") ∈ rd_T := List.mem_filter.mpr ⟨List.mem_of_getElem? (i := 89) (by decide +kernel), by decide +kernel⟩
theorem rf_X9_230 : (.fieldLink RX9 230 "RevealDeck$Slide" "lasts" "[I") ∈ rd_T := List.mem_filter.mpr ⟨List.mem_of_getElem? (i := 90) (by decide +kernel), by decide +kernel⟩
theorem rf_X7_18 : (.fieldLink RX7 18 "RevealDeck$Slide" "tags" "[I") ∈ rd_T := List.mem_filter.mpr ⟨List.mem_of_getElem? (i := 91) (by decide +kernel), by decide +kernel⟩
theorem rf_X9_233 : (.fieldLink RX9 233 "RevealDeck$Slide" "tags" "[I") ∈ rd_T := List.mem_filter.mpr ⟨List.mem_of_getElem? (i := 92) (by decide +kernel), by decide +kernel⟩
theorem rf_X7_21 : (.fieldLink RX7 21 "RevealDeck$Slide" "targets" "[I") ∈ rd_T := List.mem_filter.mpr ⟨List.mem_of_getElem? (i := 93) (by decide +kernel), by decide +kernel⟩
theorem rf_X1_96 : (.fieldLink RX1 96 "RevealDeck$Slide" "targets" "[I") ∈ rd_T := List.mem_filter.mpr ⟨List.mem_of_getElem? (i := 94) (by decide +kernel), by decide +kernel⟩
theorem ra_int : (.arrayClass .int) ∈ rd_T := List.mem_filter.mpr ⟨List.mem_of_getElem? (i := 112) (by decide +kernel), by decide +kernel⟩
theorem rm_X0_22 : (.methodLink RX0 22 yX7_clear) ∈ rd_T := List.mem_filter.mpr ⟨List.mem_of_getElem? (i := 113) (by decide +kernel), by decide +kernel⟩
theorem ri_X7_clear : (.instanceMethod yX7_clear) ∈ rd_T := List.mem_filter.mpr ⟨List.mem_of_getElem? (i := 114) (by decide +kernel), by decide +kernel⟩
theorem rs_X7_clear : (.selects RX7 yX7_clear yX7_clear) ∈ rd_T := List.mem_filter.mpr ⟨List.mem_of_getElem? (i := 115) (by decide +kernel), by decide +kernel⟩
theorem rc_X7_clear : (.code yX7_clear cX7_clear 2 (Option.none : Option Jvm.ClassFile.FieldType)) ∈ rd_T := List.mem_filter.mpr ⟨List.mem_of_getElem? (i := 116) (by decide +kernel), by decide +kernel⟩
theorem rf_X0_25 : (.fieldLink RX0 25 "RevealDeck$Deck" "count" "I") ∈ rd_T := List.mem_filter.mpr ⟨List.mem_of_getElem? (i := 117) (by decide +kernel), by decide +kernel⟩
theorem rf_X1_41 : (.fieldLink RX1 41 "RevealDeck$Deck" "count" "I") ∈ rd_T := List.mem_filter.mpr ⟨List.mem_of_getElem? (i := 118) (by decide +kernel), by decide +kernel⟩
theorem rf_X9_79 : (.fieldLink RX9 79 "RevealDeck$Deck" "count" "I") ∈ rd_T := List.mem_filter.mpr ⟨List.mem_of_getElem? (i := 119) (by decide +kernel), by decide +kernel⟩
theorem rf_X0_9 : (.fieldLink RX0 9 "RevealDeck$Deck" "order" "[I") ∈ rd_T := List.mem_filter.mpr ⟨List.mem_of_getElem? (i := 120) (by decide +kernel), by decide +kernel⟩
theorem rf_X0_17 : (.fieldLink RX0 17 "RevealDeck$Deck" "rows" "[LRevealDeck$Slide;") ∈ rd_T := List.mem_filter.mpr ⟨List.mem_of_getElem? (i := 121) (by decide +kernel), by decide +kernel⟩
theorem rk_X8_18 : (.classLink RX8 18 RX3) ∈ rd_T := List.mem_filter.mpr ⟨List.mem_of_getElem? (i := 129) (by decide +kernel), by decide +kernel⟩
theorem rq_X3 : (.instantiable RX3 3) ∈ rd_T := List.mem_filter.mpr ⟨List.mem_of_getElem? (i := 130) (by decide +kernel), by decide +kernel⟩
theorem ri_X3_init : (.instanceMethod yX3_init) ∈ rd_T := List.mem_filter.mpr ⟨List.mem_of_getElem? (i := 132) (by decide +kernel), by decide +kernel⟩
theorem rc_X3_init : (.code yX3_init cX3_init 1 (Option.none : Option Jvm.ClassFile.FieldType)) ∈ rd_T := List.mem_filter.mpr ⟨List.mem_of_getElem? (i := 133) (by decide +kernel), by decide +kernel⟩
theorem rm_X3_3 : (.methodLink RX3 3 ⟨"java/lang/Object", "<init>", "()V"⟩) ∈ rd_T := List.mem_filter.mpr ⟨List.mem_of_getElem? (i := 134) (by decide +kernel), by decide +kernel⟩
theorem rf_X3_18 : (.fieldLink RX3 18 "RevealDeck$Notes" "count" "I") ∈ rd_T := List.mem_filter.mpr ⟨List.mem_of_getElem? (i := 135) (by decide +kernel), by decide +kernel⟩
theorem rf_X9_138 : (.fieldLink RX9 138 "RevealDeck$Notes" "count" "I") ∈ rd_T := List.mem_filter.mpr ⟨List.mem_of_getElem? (i := 136) (by decide +kernel), by decide +kernel⟩
theorem rf_X3_9 : (.fieldLink RX3 9 "RevealDeck$Notes" "seconds" "[I") ∈ rd_T := List.mem_filter.mpr ⟨List.mem_of_getElem? (i := 137) (by decide +kernel), by decide +kernel⟩
theorem rf_X3_15 : (.fieldLink RX3 15 "RevealDeck$Notes" "numbers" "[I") ∈ rd_T := List.mem_filter.mpr ⟨List.mem_of_getElem? (i := 138) (by decide +kernel), by decide +kernel⟩
theorem rk_X8_25 : (.classLink RX8 25 RX6) ∈ rd_T := List.mem_filter.mpr ⟨List.mem_of_getElem? (i := 146) (by decide +kernel), by decide +kernel⟩
theorem rq_X6 : (.instantiable RX6 9) ∈ rd_T := List.mem_filter.mpr ⟨List.mem_of_getElem? (i := 147) (by decide +kernel), by decide +kernel⟩
theorem ri_X6_init : (.instanceMethod yX6_init) ∈ rd_T := List.mem_filter.mpr ⟨List.mem_of_getElem? (i := 149) (by decide +kernel), by decide +kernel⟩
theorem rc_X6_init : (.code yX6_init cX6_init 1 (Option.none : Option Jvm.ClassFile.FieldType)) ∈ rd_T := List.mem_filter.mpr ⟨List.mem_of_getElem? (i := 150) (by decide +kernel), by decide +kernel⟩
theorem rm_X6_3 : (.methodLink RX6 3 ⟨"java/lang/Object", "<init>", "()V"⟩) ∈ rd_T := List.mem_filter.mpr ⟨List.mem_of_getElem? (i := 151) (by decide +kernel), by decide +kernel⟩
theorem rf_X6_9 : (.fieldLink RX6 9 "RevealDeck$Show" "number" "I") ∈ rd_T := List.mem_filter.mpr ⟨List.mem_of_getElem? (i := 152) (by decide +kernel), by decide +kernel⟩
theorem rf_X1_29 : (.fieldLink RX1 29 "RevealDeck$Show" "number" "I") ∈ rd_T := List.mem_filter.mpr ⟨List.mem_of_getElem? (i := 153) (by decide +kernel), by decide +kernel⟩
theorem rf_X4_24 : (.fieldLink RX4 24 "RevealDeck$Show" "number" "I") ∈ rd_T := List.mem_filter.mpr ⟨List.mem_of_getElem? (i := 154) (by decide +kernel), by decide +kernel⟩
theorem rf_X8_46 : (.fieldLink RX8 46 "RevealDeck$Show" "number" "I") ∈ rd_T := List.mem_filter.mpr ⟨List.mem_of_getElem? (i := 155) (by decide +kernel), by decide +kernel⟩
theorem rf_X9_70 : (.fieldLink RX9 70 "RevealDeck$Show" "number" "I") ∈ rd_T := List.mem_filter.mpr ⟨List.mem_of_getElem? (i := 156) (by decide +kernel), by decide +kernel⟩
theorem rf_X6_25 : (.fieldLink RX6 25 "RevealDeck$Show" "step" "I") ∈ rd_T := List.mem_filter.mpr ⟨List.mem_of_getElem? (i := 157) (by decide +kernel), by decide +kernel⟩
theorem rf_X4_27 : (.fieldLink RX4 27 "RevealDeck$Show" "step" "I") ∈ rd_T := List.mem_filter.mpr ⟨List.mem_of_getElem? (i := 158) (by decide +kernel), by decide +kernel⟩
theorem rf_X1_77 : (.fieldLink RX1 77 "RevealDeck$Show" "step" "I") ∈ rd_T := List.mem_filter.mpr ⟨List.mem_of_getElem? (i := 159) (by decide +kernel), by decide +kernel⟩
theorem rf_X8_90 : (.fieldLink RX8 90 "RevealDeck$Show" "step" "I") ∈ rd_T := List.mem_filter.mpr ⟨List.mem_of_getElem? (i := 160) (by decide +kernel), by decide +kernel⟩
theorem rf_X9_172 : (.fieldLink RX9 172 "RevealDeck$Show" "step" "I") ∈ rd_T := List.mem_filter.mpr ⟨List.mem_of_getElem? (i := 161) (by decide +kernel), by decide +kernel⟩
theorem rf_X6_28 : (.fieldLink RX6 28 "RevealDeck$Show" "mark" "I") ∈ rd_T := List.mem_filter.mpr ⟨List.mem_of_getElem? (i := 162) (by decide +kernel), by decide +kernel⟩
theorem rf_X8_102 : (.fieldLink RX8 102 "RevealDeck$Show" "mark" "I") ∈ rd_T := List.mem_filter.mpr ⟨List.mem_of_getElem? (i := 163) (by decide +kernel), by decide +kernel⟩
theorem rf_X9_249 : (.fieldLink RX9 249 "RevealDeck$Show" "mark" "I") ∈ rd_T := List.mem_filter.mpr ⟨List.mem_of_getElem? (i := 164) (by decide +kernel), by decide +kernel⟩
theorem rf_X6_31 : (.fieldLink RX6 31 "RevealDeck$Show" "clock" "I") ∈ rd_T := List.mem_filter.mpr ⟨List.mem_of_getElem? (i := 165) (by decide +kernel), by decide +kernel⟩
theorem rf_X8_53 : (.fieldLink RX8 53 "RevealDeck$Show" "clock" "I") ∈ rd_T := List.mem_filter.mpr ⟨List.mem_of_getElem? (i := 166) (by decide +kernel), by decide +kernel⟩
theorem rf_X9_158 : (.fieldLink RX9 158 "RevealDeck$Show" "clock" "I") ∈ rd_T := List.mem_filter.mpr ⟨List.mem_of_getElem? (i := 167) (by decide +kernel), by decide +kernel⟩
theorem rf_X6_34 : (.fieldLink RX6 34 "RevealDeck$Show" "waited" "I") ∈ rd_T := List.mem_filter.mpr ⟨List.mem_of_getElem? (i := 168) (by decide +kernel), by decide +kernel⟩
theorem rf_X1_60 : (.fieldLink RX1 60 "RevealDeck$Show" "waited" "I") ∈ rd_T := List.mem_filter.mpr ⟨List.mem_of_getElem? (i := 169) (by decide +kernel), by decide +kernel⟩
theorem rf_X8_131 : (.fieldLink RX8 131 "RevealDeck$Show" "waited" "I") ∈ rd_T := List.mem_filter.mpr ⟨List.mem_of_getElem? (i := 170) (by decide +kernel), by decide +kernel⟩
theorem rf_X9_239 : (.fieldLink RX9 239 "RevealDeck$Show" "waited" "I") ∈ rd_T := List.mem_filter.mpr ⟨List.mem_of_getElem? (i := 171) (by decide +kernel), by decide +kernel⟩
theorem rf_X6_37 : (.fieldLink RX6 37 "RevealDeck$Show" "trailCount" "I") ∈ rd_T := List.mem_filter.mpr ⟨List.mem_of_getElem? (i := 172) (by decide +kernel), by decide +kernel⟩
theorem rf_X8_109 : (.fieldLink RX8 109 "RevealDeck$Show" "trailCount" "I") ∈ rd_T := List.mem_filter.mpr ⟨List.mem_of_getElem? (i := 173) (by decide +kernel), by decide +kernel⟩
theorem rf_X9_242 : (.fieldLink RX9 242 "RevealDeck$Show" "trailCount" "I") ∈ rd_T := List.mem_filter.mpr ⟨List.mem_of_getElem? (i := 174) (by decide +kernel), by decide +kernel⟩
theorem rf_X6_15 : (.fieldLink RX6 15 "RevealDeck$Show" "trailNumbers" "[I") ∈ rd_T := List.mem_filter.mpr ⟨List.mem_of_getElem? (i := 175) (by decide +kernel), by decide +kernel⟩
theorem rf_X6_19 : (.fieldLink RX6 19 "RevealDeck$Show" "trailSteps" "[I") ∈ rd_T := List.mem_filter.mpr ⟨List.mem_of_getElem? (i := 176) (by decide +kernel), by decide +kernel⟩
theorem rf_X6_22 : (.fieldLink RX6 22 "RevealDeck$Show" "trailMarks" "[I") ∈ rd_T := List.mem_filter.mpr ⟨List.mem_of_getElem? (i := 177) (by decide +kernel), by decide +kernel⟩
theorem rf_X8_32 : (.fieldLink RX8 32 "RevealDeck$State" "endSecond" "I") ∈ rd_T := List.mem_filter.mpr ⟨List.mem_of_getElem? (i := 197) (by decide +kernel), by decide +kernel⟩
theorem rf_X9_145 : (.fieldLink RX9 145 "RevealDeck$State" "endSecond" "I") ∈ rd_T := List.mem_filter.mpr ⟨List.mem_of_getElem? (i := 198) (by decide +kernel), by decide +kernel⟩
theorem rf_X8_12 : (.fieldLink RX8 12 "RevealDeck$State" "deck" "LRevealDeck$Deck;") ∈ rd_T := List.mem_filter.mpr ⟨List.mem_of_getElem? (i := 199) (by decide +kernel), by decide +kernel⟩
theorem rf_X9_44 : (.fieldLink RX9 44 "RevealDeck$State" "deck" "LRevealDeck$Deck;") ∈ rd_T := List.mem_filter.mpr ⟨List.mem_of_getElem? (i := 200) (by decide +kernel), by decide +kernel⟩
theorem rf_X1_21 : (.fieldLink RX1 21 "RevealDeck$State" "deck" "LRevealDeck$Deck;") ∈ rd_T := List.mem_filter.mpr ⟨List.mem_of_getElem? (i := 201) (by decide +kernel), by decide +kernel⟩
theorem rf_X8_21 : (.fieldLink RX8 21 "RevealDeck$State" "notes" "LRevealDeck$Notes;") ∈ rd_T := List.mem_filter.mpr ⟨List.mem_of_getElem? (i := 202) (by decide +kernel), by decide +kernel⟩
theorem rf_X9_131 : (.fieldLink RX9 131 "RevealDeck$State" "notes" "LRevealDeck$Notes;") ∈ rd_T := List.mem_filter.mpr ⟨List.mem_of_getElem? (i := 203) (by decide +kernel), by decide +kernel⟩
theorem rf_X8_28 : (.fieldLink RX8 28 "RevealDeck$State" "show" "LRevealDeck$Show;") ∈ rd_T := List.mem_filter.mpr ⟨List.mem_of_getElem? (i := 204) (by decide +kernel), by decide +kernel⟩
theorem rf_X1_25 : (.fieldLink RX1 25 "RevealDeck$State" "show" "LRevealDeck$Show;") ∈ rd_T := List.mem_filter.mpr ⟨List.mem_of_getElem? (i := 205) (by decide +kernel), by decide +kernel⟩
theorem rf_X9_66 : (.fieldLink RX9 66 "RevealDeck$State" "show" "LRevealDeck$Show;") ∈ rd_T := List.mem_filter.mpr ⟨List.mem_of_getElem? (i := 206) (by decide +kernel), by decide +kernel⟩
theorem rk_X9_16 : (.classLink RX9 16 RX2) ∈ rd_T := List.mem_filter.mpr ⟨List.mem_of_getElem? (i := 216) (by decide +kernel), by decide +kernel⟩
theorem rq_X2 : (.instantiable RX2 2) ∈ rd_T := List.mem_filter.mpr ⟨List.mem_of_getElem? (i := 217) (by decide +kernel), by decide +kernel⟩
theorem rm_X9_18 : (.methodLink RX9 18 yX2_init) ∈ rd_T := List.mem_filter.mpr ⟨List.mem_of_getElem? (i := 218) (by decide +kernel), by decide +kernel⟩
theorem ri_X2_init : (.instanceMethod yX2_init) ∈ rd_T := List.mem_filter.mpr ⟨List.mem_of_getElem? (i := 219) (by decide +kernel), by decide +kernel⟩
theorem rc_X2_init : (.code yX2_init cX2_init 2 (Option.none : Option Jvm.ClassFile.FieldType)) ∈ rd_T := List.mem_filter.mpr ⟨List.mem_of_getElem? (i := 220) (by decide +kernel), by decide +kernel⟩
theorem rm_X2_3 : (.methodLink RX2 3 ⟨"java/lang/Object", "<init>", "()V"⟩) ∈ rd_T := List.mem_filter.mpr ⟨List.mem_of_getElem? (i := 221) (by decide +kernel), by decide +kernel⟩
theorem rk_X2_9 : (.classLink RX2 9 RX8) ∈ rd_T := List.mem_filter.mpr ⟨List.mem_of_getElem? (i := 222) (by decide +kernel), by decide +kernel⟩
theorem rf_X2_18 : (.fieldLink RX2 18 "RevealDeck$History" "count" "I") ∈ rd_T := List.mem_filter.mpr ⟨List.mem_of_getElem? (i := 225) (by decide +kernel), by decide +kernel⟩
theorem rf_X9_212 : (.fieldLink RX9 212 "RevealDeck$History" "count" "I") ∈ rd_T := List.mem_filter.mpr ⟨List.mem_of_getElem? (i := 226) (by decide +kernel), by decide +kernel⟩
theorem rf_X2_11 : (.fieldLink RX2 11 "RevealDeck$History" "states" "[LRevealDeck$State;") ∈ rd_T := List.mem_filter.mpr ⟨List.mem_of_getElem? (i := 227) (by decide +kernel), by decide +kernel⟩
theorem rk_X9_23 : (.classLink RX9 23 RX5) ∈ rd_T := List.mem_filter.mpr ⟨List.mem_of_getElem? (i := 233) (by decide +kernel), by decide +kernel⟩
theorem rq_X5 : (.instantiable RX5 2) ∈ rd_T := List.mem_filter.mpr ⟨List.mem_of_getElem? (i := 234) (by decide +kernel), by decide +kernel⟩
theorem ri_X5_init : (.instanceMethod yX5_init) ∈ rd_T := List.mem_filter.mpr ⟨List.mem_of_getElem? (i := 236) (by decide +kernel), by decide +kernel⟩
theorem rc_X5_init : (.code yX5_init cX5_init 1 (Option.none : Option Jvm.ClassFile.FieldType)) ∈ rd_T := List.mem_filter.mpr ⟨List.mem_of_getElem? (i := 237) (by decide +kernel), by decide +kernel⟩
theorem rm_X5_3 : (.methodLink RX5 3 ⟨"java/lang/Object", "<init>", "()V"⟩) ∈ rd_T := List.mem_filter.mpr ⟨List.mem_of_getElem? (i := 238) (by decide +kernel), by decide +kernel⟩
theorem rf_X5_15 : (.fieldLink RX5 15 "RevealDeck$Script" "length" "I") ∈ rd_T := List.mem_filter.mpr ⟨List.mem_of_getElem? (i := 239) (by decide +kernel), by decide +kernel⟩
theorem rf_X9_178 : (.fieldLink RX9 178 "RevealDeck$Script" "length" "I") ∈ rd_T := List.mem_filter.mpr ⟨List.mem_of_getElem? (i := 240) (by decide +kernel), by decide +kernel⟩
theorem rf_X5_9 : (.fieldLink RX5 9 "RevealDeck$Script" "signs" "[C") ∈ rd_T := List.mem_filter.mpr ⟨List.mem_of_getElem? (i := 241) (by decide +kernel), by decide +kernel⟩
theorem ra_char : (.arrayClass .char) ∈ rd_T := List.mem_filter.mpr ⟨List.mem_of_getElem? (i := 247) (by decide +kernel), by decide +kernel⟩
theorem rk_X9_30 : (.classLink RX9 30 RX4) ∈ rd_T := List.mem_filter.mpr ⟨List.mem_of_getElem? (i := 248) (by decide +kernel), by decide +kernel⟩
theorem rq_X4 : (.instantiable RX4 4) ∈ rd_T := List.mem_filter.mpr ⟨List.mem_of_getElem? (i := 249) (by decide +kernel), by decide +kernel⟩
theorem ri_X4_init : (.instanceMethod yX4_init) ∈ rd_T := List.mem_filter.mpr ⟨List.mem_of_getElem? (i := 251) (by decide +kernel), by decide +kernel⟩
theorem rc_X4_init : (.code yX4_init cX4_init 1 (Option.none : Option Jvm.ClassFile.FieldType)) ∈ rd_T := List.mem_filter.mpr ⟨List.mem_of_getElem? (i := 252) (by decide +kernel), by decide +kernel⟩
theorem rm_X4_3 : (.methodLink RX4 3 ⟨"java/lang/Object", "<init>", "()V"⟩) ∈ rd_T := List.mem_filter.mpr ⟨List.mem_of_getElem? (i := 253) (by decide +kernel), by decide +kernel⟩
theorem rf_X4_9 : (.fieldLink RX4 9 "RevealDeck$Report" "move" "I") ∈ rd_T := List.mem_filter.mpr ⟨List.mem_of_getElem? (i := 254) (by decide +kernel), by decide +kernel⟩
theorem rf_X9_204 : (.fieldLink RX9 204 "RevealDeck$Report" "move" "I") ∈ rd_T := List.mem_filter.mpr ⟨List.mem_of_getElem? (i := 255) (by decide +kernel), by decide +kernel⟩
theorem rf_X4_15 : (.fieldLink RX4 15 "RevealDeck$Report" "character" "I") ∈ rd_T := List.mem_filter.mpr ⟨List.mem_of_getElem? (i := 256) (by decide +kernel), by decide +kernel⟩
theorem rf_X9_207 : (.fieldLink RX9 207 "RevealDeck$Report" "character" "I") ∈ rd_T := List.mem_filter.mpr ⟨List.mem_of_getElem? (i := 257) (by decide +kernel), by decide +kernel⟩
theorem rf_X4_18 : (.fieldLink RX4 18 "RevealDeck$Report" "number" "I") ∈ rd_T := List.mem_filter.mpr ⟨List.mem_of_getElem? (i := 258) (by decide +kernel), by decide +kernel⟩
theorem rf_X9_210 : (.fieldLink RX9 210 "RevealDeck$Report" "number" "I") ∈ rd_T := List.mem_filter.mpr ⟨List.mem_of_getElem? (i := 259) (by decide +kernel), by decide +kernel⟩
theorem rf_X4_21 : (.fieldLink RX4 21 "RevealDeck$Report" "step" "I") ∈ rd_T := List.mem_filter.mpr ⟨List.mem_of_getElem? (i := 260) (by decide +kernel), by decide +kernel⟩
theorem rf_X9_211 : (.fieldLink RX9 211 "RevealDeck$Report" "step" "I") ∈ rd_T := List.mem_filter.mpr ⟨List.mem_of_getElem? (i := 261) (by decide +kernel), by decide +kernel⟩
theorem rk_X9_37 : (.classLink RX9 37 RX1) ∈ rd_T := List.mem_filter.mpr ⟨List.mem_of_getElem? (i := 271) (by decide +kernel), by decide +kernel⟩
theorem rq_X1 : (.instantiable RX1 1) ∈ rd_T := List.mem_filter.mpr ⟨List.mem_of_getElem? (i := 272) (by decide +kernel), by decide +kernel⟩
theorem ri_X1_init : (.instanceMethod yX1_init) ∈ rd_T := List.mem_filter.mpr ⟨List.mem_of_getElem? (i := 274) (by decide +kernel), by decide +kernel⟩
theorem rc_X1_init : (.code yX1_init cX1_init 1 (Option.none : Option Jvm.ClassFile.FieldType)) ∈ rd_T := List.mem_filter.mpr ⟨List.mem_of_getElem? (i := 275) (by decide +kernel), by decide +kernel⟩
theorem rm_X1_3 : (.methodLink RX1 3 ⟨"java/lang/Object", "<init>", "()V"⟩) ∈ rd_T := List.mem_filter.mpr ⟨List.mem_of_getElem? (i := 276) (by decide +kernel), by decide +kernel⟩
theorem rf_X1_9 : (.fieldLink RX1 9 "RevealDeck$Forecast" "reached" "[I") ∈ rd_T := List.mem_filter.mpr ⟨List.mem_of_getElem? (i := 277) (by decide +kernel), by decide +kernel⟩
theorem rf_X9_10 : (.fieldLink RX9 10 "RevealDeck" "state" "LRevealDeck$State;") ∈ rd_T := List.mem_filter.mpr ⟨List.mem_of_getElem? (i := 281) (by decide +kernel), by decide +kernel⟩
theorem rf_X9_19 : (.fieldLink RX9 19 "RevealDeck" "history" "LRevealDeck$History;") ∈ rd_T := List.mem_filter.mpr ⟨List.mem_of_getElem? (i := 282) (by decide +kernel), by decide +kernel⟩
theorem rf_X9_26 : (.fieldLink RX9 26 "RevealDeck" "script" "LRevealDeck$Script;") ∈ rd_T := List.mem_filter.mpr ⟨List.mem_of_getElem? (i := 283) (by decide +kernel), by decide +kernel⟩
theorem rf_X9_33 : (.fieldLink RX9 33 "RevealDeck" "report" "LRevealDeck$Report;") ∈ rd_T := List.mem_filter.mpr ⟨List.mem_of_getElem? (i := 284) (by decide +kernel), by decide +kernel⟩
theorem rf_X9_40 : (.fieldLink RX9 40 "RevealDeck" "forecast" "LRevealDeck$Forecast;") ∈ rd_T := List.mem_filter.mpr ⟨List.mem_of_getElem? (i := 285) (by decide +kernel), by decide +kernel⟩
theorem rm_L_13 : (.methodLink RL 13 yX9_addSlide) ∈ rd_T := List.mem_filter.mpr ⟨List.mem_of_getElem? (i := 297) (by decide +kernel), by decide +kernel⟩
theorem ri_X9_addSlide : (.instanceMethod yX9_addSlide) ∈ rd_T := List.mem_filter.mpr ⟨List.mem_of_getElem? (i := 298) (by decide +kernel), by decide +kernel⟩
theorem rs_X9_addSlide : (.selects RX9 yX9_addSlide yX9_addSlide) ∈ rd_T := List.mem_filter.mpr ⟨List.mem_of_getElem? (i := 299) (by decide +kernel), by decide +kernel⟩
theorem rc_X9_addSlide : (.code yX9_addSlide cX9_addSlide 2 (Option.some Jvm.ClassFile.FieldType.int)) ∈ rd_T := List.mem_filter.mpr ⟨List.mem_of_getElem? (i := 300) (by decide +kernel), by decide +kernel⟩
theorem rm_X9_48 : (.methodLink RX9 48 yX0_lowestFree) ∈ rd_T := List.mem_filter.mpr ⟨List.mem_of_getElem? (i := 301) (by decide +kernel), by decide +kernel⟩
theorem ri_X0_lowestFree : (.instanceMethod yX0_lowestFree) ∈ rd_T := List.mem_filter.mpr ⟨List.mem_of_getElem? (i := 302) (by decide +kernel), by decide +kernel⟩
theorem rs_X0_lowestFree : (.selects RX0 yX0_lowestFree yX0_lowestFree) ∈ rd_T := List.mem_filter.mpr ⟨List.mem_of_getElem? (i := 303) (by decide +kernel), by decide +kernel⟩
theorem rc_X0_lowestFree : (.code yX0_lowestFree cX0_lowestFree 2 (Option.some Jvm.ClassFile.FieldType.int)) ∈ rd_T := List.mem_filter.mpr ⟨List.mem_of_getElem? (i := 304) (by decide +kernel), by decide +kernel⟩
theorem rm_X9_54 : (.methodLink RX9 54 yX2_keep) ∈ rd_T := List.mem_filter.mpr ⟨List.mem_of_getElem? (i := 305) (by decide +kernel), by decide +kernel⟩
theorem ri_X2_keep : (.instanceMethod yX2_keep) ∈ rd_T := List.mem_filter.mpr ⟨List.mem_of_getElem? (i := 306) (by decide +kernel), by decide +kernel⟩
theorem rs_X2_keep : (.selects RX2 yX2_keep yX2_keep) ∈ rd_T := List.mem_filter.mpr ⟨List.mem_of_getElem? (i := 307) (by decide +kernel), by decide +kernel⟩
theorem rc_X2_keep : (.code yX2_keep cX2_keep 2 (Option.none : Option Jvm.ClassFile.FieldType)) ∈ rd_T := List.mem_filter.mpr ⟨List.mem_of_getElem? (i := 308) (by decide +kernel), by decide +kernel⟩
theorem rm_X2_22 : (.methodLink RX2 22 yX2_dropOldest) ∈ rd_T := List.mem_filter.mpr ⟨List.mem_of_getElem? (i := 309) (by decide +kernel), by decide +kernel⟩
theorem ri_X2_dropOldest : (.instanceMethod yX2_dropOldest) ∈ rd_T := List.mem_filter.mpr ⟨List.mem_of_getElem? (i := 310) (by decide +kernel), by decide +kernel⟩
theorem rs_X2_dropOldest : (.selects RX2 yX2_dropOldest yX2_dropOldest) ∈ rd_T := List.mem_filter.mpr ⟨List.mem_of_getElem? (i := 311) (by decide +kernel), by decide +kernel⟩
theorem rc_X2_dropOldest : (.code yX2_dropOldest cX2_dropOldest 3 (Option.none : Option Jvm.ClassFile.FieldType)) ∈ rd_T := List.mem_filter.mpr ⟨List.mem_of_getElem? (i := 312) (by decide +kernel), by decide +kernel⟩
theorem rm_X2_25 : (.methodLink RX2 25 yX8_copyFrom) ∈ rd_T := List.mem_filter.mpr ⟨List.mem_of_getElem? (i := 313) (by decide +kernel), by decide +kernel⟩
theorem ri_X8_copyFrom : (.instanceMethod yX8_copyFrom) ∈ rd_T := List.mem_filter.mpr ⟨List.mem_of_getElem? (i := 314) (by decide +kernel), by decide +kernel⟩
theorem rs_X8_copyFrom : (.selects RX8 yX8_copyFrom yX8_copyFrom) ∈ rd_T := List.mem_filter.mpr ⟨List.mem_of_getElem? (i := 315) (by decide +kernel), by decide +kernel⟩
theorem rc_X8_copyFrom : (.code yX8_copyFrom cX8_copyFrom 2 (Option.none : Option Jvm.ClassFile.FieldType)) ∈ rd_T := List.mem_filter.mpr ⟨List.mem_of_getElem? (i := 316) (by decide +kernel), by decide +kernel⟩
theorem rm_X8_36 : (.methodLink RX8 36 yX0_copyFrom) ∈ rd_T := List.mem_filter.mpr ⟨List.mem_of_getElem? (i := 317) (by decide +kernel), by decide +kernel⟩
theorem ri_X0_copyFrom : (.instanceMethod yX0_copyFrom) ∈ rd_T := List.mem_filter.mpr ⟨List.mem_of_getElem? (i := 318) (by decide +kernel), by decide +kernel⟩
theorem rs_X0_copyFrom : (.selects RX0 yX0_copyFrom yX0_copyFrom) ∈ rd_T := List.mem_filter.mpr ⟨List.mem_of_getElem? (i := 319) (by decide +kernel), by decide +kernel⟩
theorem rc_X0_copyFrom : (.code yX0_copyFrom cX0_copyFrom 3 (Option.none : Option Jvm.ClassFile.FieldType)) ∈ rd_T := List.mem_filter.mpr ⟨List.mem_of_getElem? (i := 320) (by decide +kernel), by decide +kernel⟩
theorem rm_X0_29 : (.methodLink RX0 29 ⟨"java/lang/System", "arraycopy", "(Ljava/lang/Object;ILjava/lang/Object;II)V"⟩) ∈ rd_T := List.mem_filter.mpr ⟨List.mem_of_getElem? (i := 321) (by decide +kernel), by decide +kernel⟩
theorem rt_System_arraycopy : (.static ⟨"java/lang/System", "arraycopy", "(Ljava/lang/Object;ILjava/lang/Object;II)V"⟩) ∈ rd_T := List.mem_filter.mpr ⟨List.mem_of_getElem? (i := 322) (by decide +kernel), by decide +kernel⟩
theorem rn_System_arraycopy : (.native ⟨"java/lang/System", "arraycopy", "(Ljava/lang/Object;ILjava/lang/Object;II)V"⟩) ∈ rd_T := List.mem_filter.mpr ⟨List.mem_of_getElem? (i := 323) (by decide +kernel), by decide +kernel⟩
theorem rm_X0_35 : (.methodLink RX0 35 yX7_copyFrom) ∈ rd_T := List.mem_filter.mpr ⟨List.mem_of_getElem? (i := 324) (by decide +kernel), by decide +kernel⟩
theorem ri_X7_copyFrom : (.instanceMethod yX7_copyFrom) ∈ rd_T := List.mem_filter.mpr ⟨List.mem_of_getElem? (i := 325) (by decide +kernel), by decide +kernel⟩
theorem rs_X7_copyFrom : (.selects RX7 yX7_copyFrom yX7_copyFrom) ∈ rd_T := List.mem_filter.mpr ⟨List.mem_of_getElem? (i := 326) (by decide +kernel), by decide +kernel⟩
theorem rc_X7_copyFrom : (.code yX7_copyFrom cX7_copyFrom 2 (Option.none : Option Jvm.ClassFile.FieldType)) ∈ rd_T := List.mem_filter.mpr ⟨List.mem_of_getElem? (i := 327) (by decide +kernel), by decide +kernel⟩
theorem rm_X7_38 : (.methodLink RX7 38 ⟨"java/lang/System", "arraycopy", "(Ljava/lang/Object;ILjava/lang/Object;II)V"⟩) ∈ rd_T := List.mem_filter.mpr ⟨List.mem_of_getElem? (i := 328) (by decide +kernel), by decide +kernel⟩
theorem rm_X8_40 : (.methodLink RX8 40 yX3_copyFrom) ∈ rd_T := List.mem_filter.mpr ⟨List.mem_of_getElem? (i := 329) (by decide +kernel), by decide +kernel⟩
theorem ri_X3_copyFrom : (.instanceMethod yX3_copyFrom) ∈ rd_T := List.mem_filter.mpr ⟨List.mem_of_getElem? (i := 330) (by decide +kernel), by decide +kernel⟩
theorem rs_X3_copyFrom : (.selects RX3 yX3_copyFrom yX3_copyFrom) ∈ rd_T := List.mem_filter.mpr ⟨List.mem_of_getElem? (i := 331) (by decide +kernel), by decide +kernel⟩
theorem rc_X3_copyFrom : (.code yX3_copyFrom cX3_copyFrom 2 (Option.none : Option Jvm.ClassFile.FieldType)) ∈ rd_T := List.mem_filter.mpr ⟨List.mem_of_getElem? (i := 332) (by decide +kernel), by decide +kernel⟩
theorem rm_X3_22 : (.methodLink RX3 22 ⟨"java/lang/System", "arraycopy", "(Ljava/lang/Object;ILjava/lang/Object;II)V"⟩) ∈ rd_T := List.mem_filter.mpr ⟨List.mem_of_getElem? (i := 333) (by decide +kernel), by decide +kernel⟩
theorem rm_X8_43 : (.methodLink RX8 43 yX6_copyFrom) ∈ rd_T := List.mem_filter.mpr ⟨List.mem_of_getElem? (i := 334) (by decide +kernel), by decide +kernel⟩
theorem ri_X6_copyFrom : (.instanceMethod yX6_copyFrom) ∈ rd_T := List.mem_filter.mpr ⟨List.mem_of_getElem? (i := 335) (by decide +kernel), by decide +kernel⟩
theorem rs_X6_copyFrom : (.selects RX6 yX6_copyFrom yX6_copyFrom) ∈ rd_T := List.mem_filter.mpr ⟨List.mem_of_getElem? (i := 336) (by decide +kernel), by decide +kernel⟩
theorem rc_X6_copyFrom : (.code yX6_copyFrom cX6_copyFrom 2 (Option.none : Option Jvm.ClassFile.FieldType)) ∈ rd_T := List.mem_filter.mpr ⟨List.mem_of_getElem? (i := 337) (by decide +kernel), by decide +kernel⟩
theorem rm_X6_40 : (.methodLink RX6 40 ⟨"java/lang/System", "arraycopy", "(Ljava/lang/Object;ILjava/lang/Object;II)V"⟩) ∈ rd_T := List.mem_filter.mpr ⟨List.mem_of_getElem? (i := 338) (by decide +kernel), by decide +kernel⟩
theorem rm_X9_58 : (.methodLink RX9 58 yX0_putSlide) ∈ rd_T := List.mem_filter.mpr ⟨List.mem_of_getElem? (i := 339) (by decide +kernel), by decide +kernel⟩
theorem ri_X0_putSlide : (.instanceMethod yX0_putSlide) ∈ rd_T := List.mem_filter.mpr ⟨List.mem_of_getElem? (i := 340) (by decide +kernel), by decide +kernel⟩
theorem rs_X0_putSlide : (.selects RX0 yX0_putSlide yX0_putSlide) ∈ rd_T := List.mem_filter.mpr ⟨List.mem_of_getElem? (i := 341) (by decide +kernel), by decide +kernel⟩
theorem rc_X0_putSlide : (.code yX0_putSlide cX0_putSlide 2 (Option.none : Option Jvm.ClassFile.FieldType)) ∈ rd_T := List.mem_filter.mpr ⟨List.mem_of_getElem? (i := 342) (by decide +kernel), by decide +kernel⟩
theorem rt_X9_isWithin : (.static yX9_isWithin) ∈ rd_T := List.mem_filter.mpr ⟨List.mem_of_getElem? (i := 344) (by decide +kernel), by decide +kernel⟩
theorem rc_X9_isWithin : (.code yX9_isWithin cX9_isWithin 3 (Option.some Jvm.ClassFile.FieldType.boolean)) ∈ rd_T := List.mem_filter.mpr ⟨List.mem_of_getElem? (i := 345) (by decide +kernel), by decide +kernel⟩
theorem rm_X0_47 : (.methodLink RX0 47 yX0_putInOrder) ∈ rd_T := List.mem_filter.mpr ⟨List.mem_of_getElem? (i := 346) (by decide +kernel), by decide +kernel⟩
theorem ri_X0_putInOrder : (.instanceMethod yX0_putInOrder) ∈ rd_T := List.mem_filter.mpr ⟨List.mem_of_getElem? (i := 347) (by decide +kernel), by decide +kernel⟩
theorem rs_X0_putInOrder : (.selects RX0 yX0_putInOrder yX0_putInOrder) ∈ rd_T := List.mem_filter.mpr ⟨List.mem_of_getElem? (i := 348) (by decide +kernel), by decide +kernel⟩
theorem rc_X0_putInOrder : (.code yX0_putInOrder cX0_putInOrder 4 (Option.none : Option Jvm.ClassFile.FieldType)) ∈ rd_T := List.mem_filter.mpr ⟨List.mem_of_getElem? (i := 349) (by decide +kernel), by decide +kernel⟩
theorem rm_L_18 : (.methodLink RL 18 yX9_removeSlide) ∈ rd_T := List.mem_filter.mpr ⟨List.mem_of_getElem? (i := 350) (by decide +kernel), by decide +kernel⟩
theorem ri_X9_removeSlide : (.instanceMethod yX9_removeSlide) ∈ rd_T := List.mem_filter.mpr ⟨List.mem_of_getElem? (i := 351) (by decide +kernel), by decide +kernel⟩
theorem rs_X9_removeSlide : (.selects RX9 yX9_removeSlide yX9_removeSlide) ∈ rd_T := List.mem_filter.mpr ⟨List.mem_of_getElem? (i := 352) (by decide +kernel), by decide +kernel⟩
theorem rc_X9_removeSlide : (.code yX9_removeSlide cX9_removeSlide 2 (Option.some Jvm.ClassFile.FieldType.int)) ∈ rd_T := List.mem_filter.mpr ⟨List.mem_of_getElem? (i := 353) (by decide +kernel), by decide +kernel⟩
theorem rm_X9_62 : (.methodLink RX9 62 yX0_find) ∈ rd_T := List.mem_filter.mpr ⟨List.mem_of_getElem? (i := 354) (by decide +kernel), by decide +kernel⟩
theorem ri_X0_find : (.instanceMethod yX0_find) ∈ rd_T := List.mem_filter.mpr ⟨List.mem_of_getElem? (i := 355) (by decide +kernel), by decide +kernel⟩
theorem rs_X0_find : (.selects RX0 yX0_find yX0_find) ∈ rd_T := List.mem_filter.mpr ⟨List.mem_of_getElem? (i := 356) (by decide +kernel), by decide +kernel⟩
theorem rc_X0_find : (.code yX0_find cX0_find 3 (Option.some (Jvm.ClassFile.FieldType.object "RevealDeck$Slide"))) ∈ rd_T := List.mem_filter.mpr ⟨List.mem_of_getElem? (i := 357) (by decide +kernel), by decide +kernel⟩
theorem rm_X9_76 : (.methodLink RX9 76 yX0_dropSlide) ∈ rd_T := List.mem_filter.mpr ⟨List.mem_of_getElem? (i := 358) (by decide +kernel), by decide +kernel⟩
theorem ri_X0_dropSlide : (.instanceMethod yX0_dropSlide) ∈ rd_T := List.mem_filter.mpr ⟨List.mem_of_getElem? (i := 359) (by decide +kernel), by decide +kernel⟩
theorem rs_X0_dropSlide : (.selects RX0 yX0_dropSlide yX0_dropSlide) ∈ rd_T := List.mem_filter.mpr ⟨List.mem_of_getElem? (i := 360) (by decide +kernel), by decide +kernel⟩
theorem rc_X0_dropSlide : (.code yX0_dropSlide cX0_dropSlide 7 (Option.none : Option Jvm.ClassFile.FieldType)) ∈ rd_T := List.mem_filter.mpr ⟨List.mem_of_getElem? (i := 361) (by decide +kernel), by decide +kernel⟩
theorem rm_X0_51 : (.methodLink RX0 51 yX0_find) ∈ rd_T := List.mem_filter.mpr ⟨List.mem_of_getElem? (i := 362) (by decide +kernel), by decide +kernel⟩
theorem rm_X0_55 : (.methodLink RX0 55 yX0_dropFromOrder) ∈ rd_T := List.mem_filter.mpr ⟨List.mem_of_getElem? (i := 363) (by decide +kernel), by decide +kernel⟩
theorem ri_X0_dropFromOrder : (.instanceMethod yX0_dropFromOrder) ∈ rd_T := List.mem_filter.mpr ⟨List.mem_of_getElem? (i := 364) (by decide +kernel), by decide +kernel⟩
theorem rs_X0_dropFromOrder : (.selects RX0 yX0_dropFromOrder yX0_dropFromOrder) ∈ rd_T := List.mem_filter.mpr ⟨List.mem_of_getElem? (i := 365) (by decide +kernel), by decide +kernel⟩
theorem rc_X0_dropFromOrder : (.code yX0_dropFromOrder cX0_dropFromOrder 4 (Option.none : Option Jvm.ClassFile.FieldType)) ∈ rd_T := List.mem_filter.mpr ⟨List.mem_of_getElem? (i := 366) (by decide +kernel), by decide +kernel⟩
theorem rm_X0_62 : (.methodLink RX0 62 yX0_placeOf) ∈ rd_T := List.mem_filter.mpr ⟨List.mem_of_getElem? (i := 367) (by decide +kernel), by decide +kernel⟩
theorem ri_X0_placeOf : (.instanceMethod yX0_placeOf) ∈ rd_T := List.mem_filter.mpr ⟨List.mem_of_getElem? (i := 368) (by decide +kernel), by decide +kernel⟩
theorem rs_X0_placeOf : (.selects RX0 yX0_placeOf yX0_placeOf) ∈ rd_T := List.mem_filter.mpr ⟨List.mem_of_getElem? (i := 369) (by decide +kernel), by decide +kernel⟩
theorem rc_X0_placeOf : (.code yX0_placeOf cX0_placeOf 3 (Option.some Jvm.ClassFile.FieldType.int)) ∈ rd_T := List.mem_filter.mpr ⟨List.mem_of_getElem? (i := 370) (by decide +kernel), by decide +kernel⟩
theorem rm_X0_59 : (.methodLink RX0 59 yX7_dropLinksTo) ∈ rd_T := List.mem_filter.mpr ⟨List.mem_of_getElem? (i := 371) (by decide +kernel), by decide +kernel⟩
theorem ri_X7_dropLinksTo : (.instanceMethod yX7_dropLinksTo) ∈ rd_T := List.mem_filter.mpr ⟨List.mem_of_getElem? (i := 372) (by decide +kernel), by decide +kernel⟩
theorem rs_X7_dropLinksTo : (.selects RX7 yX7_dropLinksTo yX7_dropLinksTo) ∈ rd_T := List.mem_filter.mpr ⟨List.mem_of_getElem? (i := 373) (by decide +kernel), by decide +kernel⟩
theorem rc_X7_dropLinksTo : (.code yX7_dropLinksTo cX7_dropLinksTo 3 (Option.none : Option Jvm.ClassFile.FieldType)) ∈ rd_T := List.mem_filter.mpr ⟨List.mem_of_getElem? (i := 374) (by decide +kernel), by decide +kernel⟩
theorem rm_L_23 : (.methodLink RL 23 yX9_moveSlide) ∈ rd_T := List.mem_filter.mpr ⟨List.mem_of_getElem? (i := 375) (by decide +kernel), by decide +kernel⟩
theorem ri_X9_moveSlide : (.instanceMethod yX9_moveSlide) ∈ rd_T := List.mem_filter.mpr ⟨List.mem_of_getElem? (i := 376) (by decide +kernel), by decide +kernel⟩
theorem rs_X9_moveSlide : (.selects RX9 yX9_moveSlide yX9_moveSlide) ∈ rd_T := List.mem_filter.mpr ⟨List.mem_of_getElem? (i := 377) (by decide +kernel), by decide +kernel⟩
theorem rc_X9_moveSlide : (.code yX9_moveSlide cX9_moveSlide 4 (Option.some Jvm.ClassFile.FieldType.int)) ∈ rd_T := List.mem_filter.mpr ⟨List.mem_of_getElem? (i := 378) (by decide +kernel), by decide +kernel⟩
theorem rm_X9_82 : (.methodLink RX9 82 yX9_isWithin) ∈ rd_T := List.mem_filter.mpr ⟨List.mem_of_getElem? (i := 379) (by decide +kernel), by decide +kernel⟩
theorem rm_X9_86 : (.methodLink RX9 86 yX0_placeOf) ∈ rd_T := List.mem_filter.mpr ⟨List.mem_of_getElem? (i := 380) (by decide +kernel), by decide +kernel⟩
theorem rm_X9_90 : (.methodLink RX9 90 yX0_dropFromOrder) ∈ rd_T := List.mem_filter.mpr ⟨List.mem_of_getElem? (i := 381) (by decide +kernel), by decide +kernel⟩
theorem rm_X9_93 : (.methodLink RX9 93 yX0_putInOrder) ∈ rd_T := List.mem_filter.mpr ⟨List.mem_of_getElem? (i := 382) (by decide +kernel), by decide +kernel⟩
theorem rm_L_28 : (.methodLink RL 28 yX9_hide) ∈ rd_T := List.mem_filter.mpr ⟨List.mem_of_getElem? (i := 383) (by decide +kernel), by decide +kernel⟩
theorem ri_X9_hide : (.instanceMethod yX9_hide) ∈ rd_T := List.mem_filter.mpr ⟨List.mem_of_getElem? (i := 384) (by decide +kernel), by decide +kernel⟩
theorem rs_X9_hide : (.selects RX9 yX9_hide yX9_hide) ∈ rd_T := List.mem_filter.mpr ⟨List.mem_of_getElem? (i := 385) (by decide +kernel), by decide +kernel⟩
theorem rc_X9_hide : (.code yX9_hide cX9_hide 4 (Option.some Jvm.ClassFile.FieldType.int)) ∈ rd_T := List.mem_filter.mpr ⟨List.mem_of_getElem? (i := 386) (by decide +kernel), by decide +kernel⟩
theorem rm_X9_103 : (.methodLink RX9 103 yX0_countHidden) ∈ rd_T := List.mem_filter.mpr ⟨List.mem_of_getElem? (i := 387) (by decide +kernel), by decide +kernel⟩
theorem ri_X0_countHidden : (.instanceMethod yX0_countHidden) ∈ rd_T := List.mem_filter.mpr ⟨List.mem_of_getElem? (i := 388) (by decide +kernel), by decide +kernel⟩
theorem rs_X0_countHidden : (.selects RX0 yX0_countHidden yX0_countHidden) ∈ rd_T := List.mem_filter.mpr ⟨List.mem_of_getElem? (i := 389) (by decide +kernel), by decide +kernel⟩
theorem rc_X0_countHidden : (.code yX0_countHidden cX0_countHidden 6 (Option.some Jvm.ClassFile.FieldType.int)) ∈ rd_T := List.mem_filter.mpr ⟨List.mem_of_getElem? (i := 390) (by decide +kernel), by decide +kernel⟩
theorem rm_L_33 : (.methodLink RL 33 yX9_setPause) ∈ rd_T := List.mem_filter.mpr ⟨List.mem_of_getElem? (i := 391) (by decide +kernel), by decide +kernel⟩
theorem ri_X9_setPause : (.instanceMethod yX9_setPause) ∈ rd_T := List.mem_filter.mpr ⟨List.mem_of_getElem? (i := 392) (by decide +kernel), by decide +kernel⟩
theorem rs_X9_setPause : (.selects RX9 yX9_setPause yX9_setPause) ∈ rd_T := List.mem_filter.mpr ⟨List.mem_of_getElem? (i := 393) (by decide +kernel), by decide +kernel⟩
theorem rc_X9_setPause : (.code yX9_setPause cX9_setPause 5 (Option.some Jvm.ClassFile.FieldType.int)) ∈ rd_T := List.mem_filter.mpr ⟨List.mem_of_getElem? (i := 394) (by decide +kernel), by decide +kernel⟩
theorem rm_L_37 : (.methodLink RL 37 yX9_addItem) ∈ rd_T := List.mem_filter.mpr ⟨List.mem_of_getElem? (i := 395) (by decide +kernel), by decide +kernel⟩
theorem ri_X9_addItem : (.instanceMethod yX9_addItem) ∈ rd_T := List.mem_filter.mpr ⟨List.mem_of_getElem? (i := 396) (by decide +kernel), by decide +kernel⟩
theorem rs_X9_addItem : (.selects RX9 yX9_addItem yX9_addItem) ∈ rd_T := List.mem_filter.mpr ⟨List.mem_of_getElem? (i := 397) (by decide +kernel), by decide +kernel⟩
theorem rc_X9_addItem : (.code yX9_addItem cX9_addItem 6 (Option.some Jvm.ClassFile.FieldType.int)) ∈ rd_T := List.mem_filter.mpr ⟨List.mem_of_getElem? (i := 398) (by decide +kernel), by decide +kernel⟩
theorem rm_X9_112 : (.methodLink RX9 112 yX7_putItem) ∈ rd_T := List.mem_filter.mpr ⟨List.mem_of_getElem? (i := 399) (by decide +kernel), by decide +kernel⟩
theorem ri_X7_putItem : (.instanceMethod yX7_putItem) ∈ rd_T := List.mem_filter.mpr ⟨List.mem_of_getElem? (i := 400) (by decide +kernel), by decide +kernel⟩
theorem rs_X7_putItem : (.selects RX7 yX7_putItem yX7_putItem) ∈ rd_T := List.mem_filter.mpr ⟨List.mem_of_getElem? (i := 401) (by decide +kernel), by decide +kernel⟩
theorem rc_X7_putItem : (.code yX7_putItem cX7_putItem 4 (Option.none : Option Jvm.ClassFile.FieldType)) ∈ rd_T := List.mem_filter.mpr ⟨List.mem_of_getElem? (i := 402) (by decide +kernel), by decide +kernel⟩
theorem rm_L_42 : (.methodLink RL 42 yX9_removeItem) ∈ rd_T := List.mem_filter.mpr ⟨List.mem_of_getElem? (i := 403) (by decide +kernel), by decide +kernel⟩
theorem ri_X9_removeItem : (.instanceMethod yX9_removeItem) ∈ rd_T := List.mem_filter.mpr ⟨List.mem_of_getElem? (i := 404) (by decide +kernel), by decide +kernel⟩
theorem rs_X9_removeItem : (.selects RX9 yX9_removeItem yX9_removeItem) ∈ rd_T := List.mem_filter.mpr ⟨List.mem_of_getElem? (i := 405) (by decide +kernel), by decide +kernel⟩
theorem rc_X9_removeItem : (.code yX9_removeItem cX9_removeItem 4 (Option.some Jvm.ClassFile.FieldType.int)) ∈ rd_T := List.mem_filter.mpr ⟨List.mem_of_getElem? (i := 406) (by decide +kernel), by decide +kernel⟩
theorem rm_X9_116 : (.methodLink RX9 116 yX7_dropItem) ∈ rd_T := List.mem_filter.mpr ⟨List.mem_of_getElem? (i := 407) (by decide +kernel), by decide +kernel⟩
theorem ri_X7_dropItem : (.instanceMethod yX7_dropItem) ∈ rd_T := List.mem_filter.mpr ⟨List.mem_of_getElem? (i := 408) (by decide +kernel), by decide +kernel⟩
theorem rs_X7_dropItem : (.selects RX7 yX7_dropItem yX7_dropItem) ∈ rd_T := List.mem_filter.mpr ⟨List.mem_of_getElem? (i := 409) (by decide +kernel), by decide +kernel⟩
theorem rc_X7_dropItem : (.code yX7_dropItem cX7_dropItem 3 (Option.none : Option Jvm.ClassFile.FieldType)) ∈ rd_T := List.mem_filter.mpr ⟨List.mem_of_getElem? (i := 410) (by decide +kernel), by decide +kernel⟩
theorem rm_X9_119 : (.methodLink RX9 119 yX8_clampStep) ∈ rd_T := List.mem_filter.mpr ⟨List.mem_of_getElem? (i := 412) (by decide +kernel), by decide +kernel⟩
theorem ri_X8_clampStep : (.instanceMethod yX8_clampStep) ∈ rd_T := List.mem_filter.mpr ⟨List.mem_of_getElem? (i := 413) (by decide +kernel), by decide +kernel⟩
theorem rs_X8_clampStep : (.selects RX8 yX8_clampStep yX8_clampStep) ∈ rd_T := List.mem_filter.mpr ⟨List.mem_of_getElem? (i := 414) (by decide +kernel), by decide +kernel⟩
theorem rc_X8_clampStep : (.code yX8_clampStep cX8_clampStep 2 (Option.none : Option Jvm.ClassFile.FieldType)) ∈ rd_T := List.mem_filter.mpr ⟨List.mem_of_getElem? (i := 415) (by decide +kernel), by decide +kernel⟩
theorem rm_X8_56 : (.methodLink RX8 56 yX8_here) ∈ rd_T := List.mem_filter.mpr ⟨List.mem_of_getElem? (i := 416) (by decide +kernel), by decide +kernel⟩
theorem ri_X8_here : (.instanceMethod yX8_here) ∈ rd_T := List.mem_filter.mpr ⟨List.mem_of_getElem? (i := 417) (by decide +kernel), by decide +kernel⟩
theorem rs_X8_here : (.selects RX8 yX8_here yX8_here) ∈ rd_T := List.mem_filter.mpr ⟨List.mem_of_getElem? (i := 418) (by decide +kernel), by decide +kernel⟩
theorem rc_X8_here : (.code yX8_here cX8_here 1 (Option.some (Jvm.ClassFile.FieldType.object "RevealDeck$Slide"))) ∈ rd_T := List.mem_filter.mpr ⟨List.mem_of_getElem? (i := 419) (by decide +kernel), by decide +kernel⟩
theorem rm_X8_49 : (.methodLink RX8 49 yX0_find) ∈ rd_T := List.mem_filter.mpr ⟨List.mem_of_getElem? (i := 420) (by decide +kernel), by decide +kernel⟩
theorem rm_X8_93 : (.methodLink RX8 93 yX7_finalStep) ∈ rd_T := List.mem_filter.mpr ⟨List.mem_of_getElem? (i := 421) (by decide +kernel), by decide +kernel⟩
theorem ri_X7_finalStep : (.instanceMethod yX7_finalStep) ∈ rd_T := List.mem_filter.mpr ⟨List.mem_of_getElem? (i := 422) (by decide +kernel), by decide +kernel⟩
theorem rs_X7_finalStep : (.selects RX7 yX7_finalStep yX7_finalStep) ∈ rd_T := List.mem_filter.mpr ⟨List.mem_of_getElem? (i := 423) (by decide +kernel), by decide +kernel⟩
theorem rc_X7_finalStep : (.code yX7_finalStep cX7_finalStep 3 (Option.some Jvm.ClassFile.FieldType.int)) ∈ rd_T := List.mem_filter.mpr ⟨List.mem_of_getElem? (i := 424) (by decide +kernel), by decide +kernel⟩
theorem rm_X7_48 : (.methodLink RX7 48 yJ9_max_7cf53) ∈ rd_T := List.mem_filter.mpr ⟨List.mem_of_getElem? (i := 425) (by decide +kernel), by decide +kernel⟩
theorem rt_J9_max_7cf53 : (.static yJ9_max_7cf53) ∈ rd_T := List.mem_filter.mpr ⟨List.mem_of_getElem? (i := 426) (by decide +kernel), by decide +kernel⟩
theorem rc_J9_max_7cf53 : (.code yJ9_max_7cf53 cJ9_max_7cf53 2 (Option.some Jvm.ClassFile.FieldType.int)) ∈ rd_T := List.mem_filter.mpr ⟨List.mem_of_getElem? (i := 427) (by decide +kernel), by decide +kernel⟩
theorem rm_X8_126 : (.methodLink RX8 126 yJ9_min_7cf53) ∈ rd_T := List.mem_filter.mpr ⟨List.mem_of_getElem? (i := 428) (by decide +kernel), by decide +kernel⟩
theorem rt_J9_min_7cf53 : (.static yJ9_min_7cf53) ∈ rd_T := List.mem_filter.mpr ⟨List.mem_of_getElem? (i := 429) (by decide +kernel), by decide +kernel⟩
theorem rc_J9_min_7cf53 : (.code yJ9_min_7cf53 cJ9_min_7cf53 2 (Option.some Jvm.ClassFile.FieldType.int)) ∈ rd_T := List.mem_filter.mpr ⟨List.mem_of_getElem? (i := 430) (by decide +kernel), by decide +kernel⟩
theorem rm_L_46 : (.methodLink RL 46 yX9_link) ∈ rd_T := List.mem_filter.mpr ⟨List.mem_of_getElem? (i := 431) (by decide +kernel), by decide +kernel⟩
theorem ri_X9_link : (.instanceMethod yX9_link) ∈ rd_T := List.mem_filter.mpr ⟨List.mem_of_getElem? (i := 432) (by decide +kernel), by decide +kernel⟩
theorem rs_X9_link : (.selects RX9 yX9_link yX9_link) ∈ rd_T := List.mem_filter.mpr ⟨List.mem_of_getElem? (i := 433) (by decide +kernel), by decide +kernel⟩
theorem rc_X9_link : (.code yX9_link cX9_link 5 (Option.some Jvm.ClassFile.FieldType.int)) ∈ rd_T := List.mem_filter.mpr ⟨List.mem_of_getElem? (i := 434) (by decide +kernel), by decide +kernel⟩
theorem rm_X9_122 : (.methodLink RX9 122 yX7_targetOf) ∈ rd_T := List.mem_filter.mpr ⟨List.mem_of_getElem? (i := 435) (by decide +kernel), by decide +kernel⟩
theorem ri_X7_targetOf : (.instanceMethod yX7_targetOf) ∈ rd_T := List.mem_filter.mpr ⟨List.mem_of_getElem? (i := 436) (by decide +kernel), by decide +kernel⟩
theorem rs_X7_targetOf : (.selects RX7 yX7_targetOf yX7_targetOf) ∈ rd_T := List.mem_filter.mpr ⟨List.mem_of_getElem? (i := 437) (by decide +kernel), by decide +kernel⟩
theorem rc_X7_targetOf : (.code yX7_targetOf cX7_targetOf 2 (Option.some Jvm.ClassFile.FieldType.int)) ∈ rd_T := List.mem_filter.mpr ⟨List.mem_of_getElem? (i := 438) (by decide +kernel), by decide +kernel⟩
theorem rm_X9_125 : (.methodLink RX9 125 yX7_countLinks) ∈ rd_T := List.mem_filter.mpr ⟨List.mem_of_getElem? (i := 439) (by decide +kernel), by decide +kernel⟩
theorem ri_X7_countLinks : (.instanceMethod yX7_countLinks) ∈ rd_T := List.mem_filter.mpr ⟨List.mem_of_getElem? (i := 440) (by decide +kernel), by decide +kernel⟩
theorem rs_X7_countLinks : (.selects RX7 yX7_countLinks yX7_countLinks) ∈ rd_T := List.mem_filter.mpr ⟨List.mem_of_getElem? (i := 441) (by decide +kernel), by decide +kernel⟩
theorem rc_X7_countLinks : (.code yX7_countLinks cX7_countLinks 6 (Option.some Jvm.ClassFile.FieldType.int)) ∈ rd_T := List.mem_filter.mpr ⟨List.mem_of_getElem? (i := 442) (by decide +kernel), by decide +kernel⟩
theorem rm_X9_128 : (.methodLink RX9 128 yX7_setTarget) ∈ rd_T := List.mem_filter.mpr ⟨List.mem_of_getElem? (i := 443) (by decide +kernel), by decide +kernel⟩
theorem ri_X7_setTarget : (.instanceMethod yX7_setTarget) ∈ rd_T := List.mem_filter.mpr ⟨List.mem_of_getElem? (i := 444) (by decide +kernel), by decide +kernel⟩
theorem rs_X7_setTarget : (.selects RX7 yX7_setTarget yX7_setTarget) ∈ rd_T := List.mem_filter.mpr ⟨List.mem_of_getElem? (i := 445) (by decide +kernel), by decide +kernel⟩
theorem rc_X7_setTarget : (.code yX7_setTarget cX7_setTarget 3 (Option.none : Option Jvm.ClassFile.FieldType)) ∈ rd_T := List.mem_filter.mpr ⟨List.mem_of_getElem? (i := 446) (by decide +kernel), by decide +kernel⟩
theorem rm_L_51 : (.methodLink RL 51 yX9_unlink) ∈ rd_T := List.mem_filter.mpr ⟨List.mem_of_getElem? (i := 447) (by decide +kernel), by decide +kernel⟩
theorem ri_X9_unlink : (.instanceMethod yX9_unlink) ∈ rd_T := List.mem_filter.mpr ⟨List.mem_of_getElem? (i := 448) (by decide +kernel), by decide +kernel⟩
theorem rs_X9_unlink : (.selects RX9 yX9_unlink yX9_unlink) ∈ rd_T := List.mem_filter.mpr ⟨List.mem_of_getElem? (i := 449) (by decide +kernel), by decide +kernel⟩
theorem rc_X9_unlink : (.code yX9_unlink cX9_unlink 4 (Option.some Jvm.ClassFile.FieldType.int)) ∈ rd_T := List.mem_filter.mpr ⟨List.mem_of_getElem? (i := 450) (by decide +kernel), by decide +kernel⟩
theorem rm_L_55 : (.methodLink RL 55 yX9_note) ∈ rd_T := List.mem_filter.mpr ⟨List.mem_of_getElem? (i := 451) (by decide +kernel), by decide +kernel⟩
theorem ri_X9_note : (.instanceMethod yX9_note) ∈ rd_T := List.mem_filter.mpr ⟨List.mem_of_getElem? (i := 452) (by decide +kernel), by decide +kernel⟩
theorem rs_X9_note : (.selects RX9 yX9_note yX9_note) ∈ rd_T := List.mem_filter.mpr ⟨List.mem_of_getElem? (i := 453) (by decide +kernel), by decide +kernel⟩
theorem rc_X9_note : (.code yX9_note cX9_note 4 (Option.some Jvm.ClassFile.FieldType.int)) ∈ rd_T := List.mem_filter.mpr ⟨List.mem_of_getElem? (i := 454) (by decide +kernel), by decide +kernel⟩
theorem rm_X9_135 : (.methodLink RX9 135 yX3_placeOf) ∈ rd_T := List.mem_filter.mpr ⟨List.mem_of_getElem? (i := 455) (by decide +kernel), by decide +kernel⟩
theorem ri_X3_placeOf : (.instanceMethod yX3_placeOf) ∈ rd_T := List.mem_filter.mpr ⟨List.mem_of_getElem? (i := 456) (by decide +kernel), by decide +kernel⟩
theorem rs_X3_placeOf : (.selects RX3 yX3_placeOf yX3_placeOf) ∈ rd_T := List.mem_filter.mpr ⟨List.mem_of_getElem? (i := 457) (by decide +kernel), by decide +kernel⟩
theorem rc_X3_placeOf : (.code yX3_placeOf cX3_placeOf 3 (Option.some Jvm.ClassFile.FieldType.int)) ∈ rd_T := List.mem_filter.mpr ⟨List.mem_of_getElem? (i := 458) (by decide +kernel), by decide +kernel⟩
theorem rm_X9_139 : (.methodLink RX9 139 yX3_dropAt) ∈ rd_T := List.mem_filter.mpr ⟨List.mem_of_getElem? (i := 459) (by decide +kernel), by decide +kernel⟩
theorem ri_X3_dropAt : (.instanceMethod yX3_dropAt) ∈ rd_T := List.mem_filter.mpr ⟨List.mem_of_getElem? (i := 460) (by decide +kernel), by decide +kernel⟩
theorem rs_X3_dropAt : (.selects RX3 yX3_dropAt yX3_dropAt) ∈ rd_T := List.mem_filter.mpr ⟨List.mem_of_getElem? (i := 461) (by decide +kernel), by decide +kernel⟩
theorem rc_X3_dropAt : (.code yX3_dropAt cX3_dropAt 2 (Option.none : Option Jvm.ClassFile.FieldType)) ∈ rd_T := List.mem_filter.mpr ⟨List.mem_of_getElem? (i := 462) (by decide +kernel), by decide +kernel⟩
theorem rm_X9_142 : (.methodLink RX9 142 yX3_putAt) ∈ rd_T := List.mem_filter.mpr ⟨List.mem_of_getElem? (i := 464) (by decide +kernel), by decide +kernel⟩
theorem ri_X3_putAt : (.instanceMethod yX3_putAt) ∈ rd_T := List.mem_filter.mpr ⟨List.mem_of_getElem? (i := 465) (by decide +kernel), by decide +kernel⟩
theorem rs_X3_putAt : (.selects RX3 yX3_putAt yX3_putAt) ∈ rd_T := List.mem_filter.mpr ⟨List.mem_of_getElem? (i := 466) (by decide +kernel), by decide +kernel⟩
theorem rc_X3_putAt : (.code yX3_putAt cX3_putAt 5 (Option.none : Option Jvm.ClassFile.FieldType)) ∈ rd_T := List.mem_filter.mpr ⟨List.mem_of_getElem? (i := 467) (by decide +kernel), by decide +kernel⟩
theorem rm_L_59 : (.methodLink RL 59 yX9_setEnd) ∈ rd_T := List.mem_filter.mpr ⟨List.mem_of_getElem? (i := 468) (by decide +kernel), by decide +kernel⟩
theorem ri_X9_setEnd : (.instanceMethod yX9_setEnd) ∈ rd_T := List.mem_filter.mpr ⟨List.mem_of_getElem? (i := 469) (by decide +kernel), by decide +kernel⟩
theorem rs_X9_setEnd : (.selects RX9 yX9_setEnd yX9_setEnd) ∈ rd_T := List.mem_filter.mpr ⟨List.mem_of_getElem? (i := 470) (by decide +kernel), by decide +kernel⟩
theorem rc_X9_setEnd : (.code yX9_setEnd cX9_setEnd 3 (Option.some Jvm.ClassFile.FieldType.int)) ∈ rd_T := List.mem_filter.mpr ⟨List.mem_of_getElem? (i := 471) (by decide +kernel), by decide +kernel⟩
theorem rm_L_63 : (.methodLink RL 63 yX9_start) ∈ rd_T := List.mem_filter.mpr ⟨List.mem_of_getElem? (i := 472) (by decide +kernel), by decide +kernel⟩
theorem ri_X9_start : (.instanceMethod yX9_start) ∈ rd_T := List.mem_filter.mpr ⟨List.mem_of_getElem? (i := 473) (by decide +kernel), by decide +kernel⟩
theorem rs_X9_start : (.selects RX9 yX9_start yX9_start) ∈ rd_T := List.mem_filter.mpr ⟨List.mem_of_getElem? (i := 474) (by decide +kernel), by decide +kernel⟩
theorem rc_X9_start : (.code yX9_start cX9_start 2 (Option.some Jvm.ClassFile.FieldType.int)) ∈ rd_T := List.mem_filter.mpr ⟨List.mem_of_getElem? (i := 475) (by decide +kernel), by decide +kernel⟩
theorem rm_X9_148 : (.methodLink RX9 148 yX0_nextShown) ∈ rd_T := List.mem_filter.mpr ⟨List.mem_of_getElem? (i := 476) (by decide +kernel), by decide +kernel⟩
theorem ri_X0_nextShown : (.instanceMethod yX0_nextShown) ∈ rd_T := List.mem_filter.mpr ⟨List.mem_of_getElem? (i := 477) (by decide +kernel), by decide +kernel⟩
theorem rs_X0_nextShown : (.selects RX0 yX0_nextShown yX0_nextShown) ∈ rd_T := List.mem_filter.mpr ⟨List.mem_of_getElem? (i := 478) (by decide +kernel), by decide +kernel⟩
theorem rc_X0_nextShown : (.code yX0_nextShown cX0_nextShown 5 (Option.some Jvm.ClassFile.FieldType.int)) ∈ rd_T := List.mem_filter.mpr ⟨List.mem_of_getElem? (i := 479) (by decide +kernel), by decide +kernel⟩
theorem rm_X0_66 : (.methodLink RX0 66 yX0_numberAt) ∈ rd_T := List.mem_filter.mpr ⟨List.mem_of_getElem? (i := 480) (by decide +kernel), by decide +kernel⟩
theorem ri_X0_numberAt : (.instanceMethod yX0_numberAt) ∈ rd_T := List.mem_filter.mpr ⟨List.mem_of_getElem? (i := 481) (by decide +kernel), by decide +kernel⟩
theorem rs_X0_numberAt : (.selects RX0 yX0_numberAt yX0_numberAt) ∈ rd_T := List.mem_filter.mpr ⟨List.mem_of_getElem? (i := 482) (by decide +kernel), by decide +kernel⟩
theorem rc_X0_numberAt : (.code yX0_numberAt cX0_numberAt 2 (Option.some Jvm.ClassFile.FieldType.int)) ∈ rd_T := List.mem_filter.mpr ⟨List.mem_of_getElem? (i := 483) (by decide +kernel), by decide +kernel⟩
theorem rm_X9_151 : (.methodLink RX9 151 yX6_begin) ∈ rd_T := List.mem_filter.mpr ⟨List.mem_of_getElem? (i := 484) (by decide +kernel), by decide +kernel⟩
theorem ri_X6_begin : (.instanceMethod yX6_begin) ∈ rd_T := List.mem_filter.mpr ⟨List.mem_of_getElem? (i := 485) (by decide +kernel), by decide +kernel⟩
theorem rs_X6_begin : (.selects RX6 yX6_begin yX6_begin) ∈ rd_T := List.mem_filter.mpr ⟨List.mem_of_getElem? (i := 486) (by decide +kernel), by decide +kernel⟩
theorem rc_X6_begin : (.code yX6_begin cX6_begin 2 (Option.none : Option Jvm.ClassFile.FieldType)) ∈ rd_T := List.mem_filter.mpr ⟨List.mem_of_getElem? (i := 487) (by decide +kernel), by decide +kernel⟩
theorem rm_X6_46 : (.methodLink RX6 46 yX6_clear) ∈ rd_T := List.mem_filter.mpr ⟨List.mem_of_getElem? (i := 488) (by decide +kernel), by decide +kernel⟩
theorem ri_X6_clear : (.instanceMethod yX6_clear) ∈ rd_T := List.mem_filter.mpr ⟨List.mem_of_getElem? (i := 489) (by decide +kernel), by decide +kernel⟩
theorem rs_X6_clear : (.selects RX6 yX6_clear yX6_clear) ∈ rd_T := List.mem_filter.mpr ⟨List.mem_of_getElem? (i := 490) (by decide +kernel), by decide +kernel⟩
theorem rc_X6_clear : (.code yX6_clear cX6_clear 1 (Option.none : Option Jvm.ClassFile.FieldType)) ∈ rd_T := List.mem_filter.mpr ⟨List.mem_of_getElem? (i := 491) (by decide +kernel), by decide +kernel⟩
theorem rm_L_67 : (.methodLink RL 67 yX9_stop) ∈ rd_T := List.mem_filter.mpr ⟨List.mem_of_getElem? (i := 492) (by decide +kernel), by decide +kernel⟩
theorem ri_X9_stop : (.instanceMethod yX9_stop) ∈ rd_T := List.mem_filter.mpr ⟨List.mem_of_getElem? (i := 493) (by decide +kernel), by decide +kernel⟩
theorem rs_X9_stop : (.selects RX9 yX9_stop yX9_stop) ∈ rd_T := List.mem_filter.mpr ⟨List.mem_of_getElem? (i := 494) (by decide +kernel), by decide +kernel⟩
theorem rc_X9_stop : (.code yX9_stop cX9_stop 2 (Option.some Jvm.ClassFile.FieldType.int)) ∈ rd_T := List.mem_filter.mpr ⟨List.mem_of_getElem? (i := 495) (by decide +kernel), by decide +kernel⟩
theorem rm_X9_154 : (.methodLink RX9 154 yX8_here) ∈ rd_T := List.mem_filter.mpr ⟨List.mem_of_getElem? (i := 496) (by decide +kernel), by decide +kernel⟩
theorem rm_X9_161 : (.methodLink RX9 161 yX6_clear) ∈ rd_T := List.mem_filter.mpr ⟨List.mem_of_getElem? (i := 497) (by decide +kernel), by decide +kernel⟩
theorem rm_L_71 : (.methodLink RL 71 yX9_forward) ∈ rd_T := List.mem_filter.mpr ⟨List.mem_of_getElem? (i := 498) (by decide +kernel), by decide +kernel⟩
theorem ri_X9_forward : (.instanceMethod yX9_forward) ∈ rd_T := List.mem_filter.mpr ⟨List.mem_of_getElem? (i := 499) (by decide +kernel), by decide +kernel⟩
theorem rs_X9_forward : (.selects RX9 yX9_forward yX9_forward) ∈ rd_T := List.mem_filter.mpr ⟨List.mem_of_getElem? (i := 500) (by decide +kernel), by decide +kernel⟩
theorem rc_X9_forward : (.code yX9_forward cX9_forward 1 (Option.some Jvm.ClassFile.FieldType.int)) ∈ rd_T := List.mem_filter.mpr ⟨List.mem_of_getElem? (i := 501) (by decide +kernel), by decide +kernel⟩
theorem rm_X9_164 : (.methodLink RX9 164 yX8_canMake) ∈ rd_T := List.mem_filter.mpr ⟨List.mem_of_getElem? (i := 502) (by decide +kernel), by decide +kernel⟩
theorem ri_X8_canMake : (.instanceMethod yX8_canMake) ∈ rd_T := List.mem_filter.mpr ⟨List.mem_of_getElem? (i := 503) (by decide +kernel), by decide +kernel⟩
theorem rs_X8_canMake : (.selects RX8 yX8_canMake yX8_canMake) ∈ rd_T := List.mem_filter.mpr ⟨List.mem_of_getElem? (i := 504) (by decide +kernel), by decide +kernel⟩
theorem rc_X8_canMake : (.code yX8_canMake cX8_canMake 4 (Option.some Jvm.ClassFile.FieldType.boolean)) ∈ rd_T := List.mem_filter.mpr ⟨List.mem_of_getElem? (i := 505) (by decide +kernel), by decide +kernel⟩
theorem rm_X8_60 : (.methodLink RX8 60 yX8_isOver) ∈ rd_T := List.mem_filter.mpr ⟨List.mem_of_getElem? (i := 506) (by decide +kernel), by decide +kernel⟩
theorem ri_X8_isOver : (.instanceMethod yX8_isOver) ∈ rd_T := List.mem_filter.mpr ⟨List.mem_of_getElem? (i := 507) (by decide +kernel), by decide +kernel⟩
theorem rs_X8_isOver : (.selects RX8 yX8_isOver yX8_isOver) ∈ rd_T := List.mem_filter.mpr ⟨List.mem_of_getElem? (i := 508) (by decide +kernel), by decide +kernel⟩
theorem rc_X8_isOver : (.code yX8_isOver cX8_isOver 1 (Option.some Jvm.ClassFile.FieldType.boolean)) ∈ rd_T := List.mem_filter.mpr ⟨List.mem_of_getElem? (i := 509) (by decide +kernel), by decide +kernel⟩
theorem rm_X8_64 : (.methodLink RX8 64 yX8_nextNumber) ∈ rd_T := List.mem_filter.mpr ⟨List.mem_of_getElem? (i := 510) (by decide +kernel), by decide +kernel⟩
theorem ri_X8_nextNumber : (.instanceMethod yX8_nextNumber) ∈ rd_T := List.mem_filter.mpr ⟨List.mem_of_getElem? (i := 511) (by decide +kernel), by decide +kernel⟩
theorem rs_X8_nextNumber : (.selects RX8 yX8_nextNumber yX8_nextNumber) ∈ rd_T := List.mem_filter.mpr ⟨List.mem_of_getElem? (i := 512) (by decide +kernel), by decide +kernel⟩
theorem rc_X8_nextNumber : (.code yX8_nextNumber cX8_nextNumber 2 (Option.some Jvm.ClassFile.FieldType.int)) ∈ rd_T := List.mem_filter.mpr ⟨List.mem_of_getElem? (i := 513) (by decide +kernel), by decide +kernel⟩
theorem rm_X8_96 : (.methodLink RX8 96 yX0_placeOf) ∈ rd_T := List.mem_filter.mpr ⟨List.mem_of_getElem? (i := 514) (by decide +kernel), by decide +kernel⟩
theorem rm_X8_99 : (.methodLink RX8 99 yX0_nextShown) ∈ rd_T := List.mem_filter.mpr ⟨List.mem_of_getElem? (i := 515) (by decide +kernel), by decide +kernel⟩
theorem rm_X8_68 : (.methodLink RX8 68 yX8_backPlace) ∈ rd_T := List.mem_filter.mpr ⟨List.mem_of_getElem? (i := 516) (by decide +kernel), by decide +kernel⟩
theorem ri_X8_backPlace : (.instanceMethod yX8_backPlace) ∈ rd_T := List.mem_filter.mpr ⟨List.mem_of_getElem? (i := 517) (by decide +kernel), by decide +kernel⟩
theorem rs_X8_backPlace : (.selects RX8 yX8_backPlace yX8_backPlace) ∈ rd_T := List.mem_filter.mpr ⟨List.mem_of_getElem? (i := 518) (by decide +kernel), by decide +kernel⟩
theorem rc_X8_backPlace : (.code yX8_backPlace cX8_backPlace 3 (Option.some Jvm.ClassFile.FieldType.int)) ∈ rd_T := List.mem_filter.mpr ⟨List.mem_of_getElem? (i := 519) (by decide +kernel), by decide +kernel⟩
theorem rm_X8_112 : (.methodLink RX8 112 yX6_trailValue) ∈ rd_T := List.mem_filter.mpr ⟨List.mem_of_getElem? (i := 520) (by decide +kernel), by decide +kernel⟩
theorem ri_X6_trailValue : (.instanceMethod yX6_trailValue) ∈ rd_T := List.mem_filter.mpr ⟨List.mem_of_getElem? (i := 521) (by decide +kernel), by decide +kernel⟩
theorem rs_X6_trailValue : (.selects RX6 yX6_trailValue yX6_trailValue) ∈ rd_T := List.mem_filter.mpr ⟨List.mem_of_getElem? (i := 522) (by decide +kernel), by decide +kernel⟩
theorem rc_X6_trailValue : (.code yX6_trailValue cX6_trailValue 3 (Option.some Jvm.ClassFile.FieldType.int)) ∈ rd_T := List.mem_filter.mpr ⟨List.mem_of_getElem? (i := 523) (by decide +kernel), by decide +kernel⟩
theorem rm_X8_71 : (.methodLink RX8 71 yX7_targetOf) ∈ rd_T := List.mem_filter.mpr ⟨List.mem_of_getElem? (i := 525) (by decide +kernel), by decide +kernel⟩
theorem rm_X9_168 : (.methodLink RX9 168 yX8_make) ∈ rd_T := List.mem_filter.mpr ⟨List.mem_of_getElem? (i := 526) (by decide +kernel), by decide +kernel⟩
theorem ri_X8_make : (.instanceMethod yX8_make) ∈ rd_T := List.mem_filter.mpr ⟨List.mem_of_getElem? (i := 527) (by decide +kernel), by decide +kernel⟩
theorem rs_X8_make : (.selects RX8 yX8_make yX8_make) ∈ rd_T := List.mem_filter.mpr ⟨List.mem_of_getElem? (i := 528) (by decide +kernel), by decide +kernel⟩
theorem rc_X8_make : (.code yX8_make cX8_make 3 (Option.none : Option Jvm.ClassFile.FieldType)) ∈ rd_T := List.mem_filter.mpr ⟨List.mem_of_getElem? (i := 529) (by decide +kernel), by decide +kernel⟩
theorem rm_X8_77 : (.methodLink RX8 77 yX8_goForward) ∈ rd_T := List.mem_filter.mpr ⟨List.mem_of_getElem? (i := 530) (by decide +kernel), by decide +kernel⟩
theorem ri_X8_goForward : (.instanceMethod yX8_goForward) ∈ rd_T := List.mem_filter.mpr ⟨List.mem_of_getElem? (i := 531) (by decide +kernel), by decide +kernel⟩
theorem rs_X8_goForward : (.selects RX8 yX8_goForward yX8_goForward) ∈ rd_T := List.mem_filter.mpr ⟨List.mem_of_getElem? (i := 532) (by decide +kernel), by decide +kernel⟩
theorem rc_X8_goForward : (.code yX8_goForward cX8_goForward 3 (Option.none : Option Jvm.ClassFile.FieldType)) ∈ rd_T := List.mem_filter.mpr ⟨List.mem_of_getElem? (i := 533) (by decide +kernel), by decide +kernel⟩
theorem rm_X8_105 : (.methodLink RX8 105 yX6_moveTo) ∈ rd_T := List.mem_filter.mpr ⟨List.mem_of_getElem? (i := 534) (by decide +kernel), by decide +kernel⟩
theorem ri_X6_moveTo : (.instanceMethod yX6_moveTo) ∈ rd_T := List.mem_filter.mpr ⟨List.mem_of_getElem? (i := 535) (by decide +kernel), by decide +kernel⟩
theorem rs_X6_moveTo : (.selects RX6 yX6_moveTo yX6_moveTo) ∈ rd_T := List.mem_filter.mpr ⟨List.mem_of_getElem? (i := 536) (by decide +kernel), by decide +kernel⟩
theorem rc_X6_moveTo : (.code yX6_moveTo cX6_moveTo 4 (Option.none : Option Jvm.ClassFile.FieldType)) ∈ rd_T := List.mem_filter.mpr ⟨List.mem_of_getElem? (i := 537) (by decide +kernel), by decide +kernel⟩
theorem rm_X6_49 : (.methodLink RX6 49 yX6_dropOldest) ∈ rd_T := List.mem_filter.mpr ⟨List.mem_of_getElem? (i := 538) (by decide +kernel), by decide +kernel⟩
theorem ri_X6_dropOldest : (.instanceMethod yX6_dropOldest) ∈ rd_T := List.mem_filter.mpr ⟨List.mem_of_getElem? (i := 539) (by decide +kernel), by decide +kernel⟩
theorem rs_X6_dropOldest : (.selects RX6 yX6_dropOldest yX6_dropOldest) ∈ rd_T := List.mem_filter.mpr ⟨List.mem_of_getElem? (i := 540) (by decide +kernel), by decide +kernel⟩
theorem rc_X6_dropOldest : (.code yX6_dropOldest cX6_dropOldest 2 (Option.none : Option Jvm.ClassFile.FieldType)) ∈ rd_T := List.mem_filter.mpr ⟨List.mem_of_getElem? (i := 541) (by decide +kernel), by decide +kernel⟩
theorem rm_X8_80 : (.methodLink RX8 80 yX8_goBack) ∈ rd_T := List.mem_filter.mpr ⟨List.mem_of_getElem? (i := 542) (by decide +kernel), by decide +kernel⟩
theorem ri_X8_goBack : (.instanceMethod yX8_goBack) ∈ rd_T := List.mem_filter.mpr ⟨List.mem_of_getElem? (i := 543) (by decide +kernel), by decide +kernel⟩
theorem rs_X8_goBack : (.selects RX8 yX8_goBack yX8_goBack) ∈ rd_T := List.mem_filter.mpr ⟨List.mem_of_getElem? (i := 544) (by decide +kernel), by decide +kernel⟩
theorem rc_X8_goBack : (.code yX8_goBack cX8_goBack 1 (Option.none : Option Jvm.ClassFile.FieldType)) ∈ rd_T := List.mem_filter.mpr ⟨List.mem_of_getElem? (i := 545) (by decide +kernel), by decide +kernel⟩
theorem rm_X8_120 : (.methodLink RX8 120 yX6_returnTo) ∈ rd_T := List.mem_filter.mpr ⟨List.mem_of_getElem? (i := 546) (by decide +kernel), by decide +kernel⟩
theorem ri_X6_returnTo : (.instanceMethod yX6_returnTo) ∈ rd_T := List.mem_filter.mpr ⟨List.mem_of_getElem? (i := 547) (by decide +kernel), by decide +kernel⟩
theorem rs_X6_returnTo : (.selects RX6 yX6_returnTo yX6_returnTo) ∈ rd_T := List.mem_filter.mpr ⟨List.mem_of_getElem? (i := 548) (by decide +kernel), by decide +kernel⟩
theorem rc_X6_returnTo : (.code yX6_returnTo cX6_returnTo 2 (Option.none : Option Jvm.ClassFile.FieldType)) ∈ rd_T := List.mem_filter.mpr ⟨List.mem_of_getElem? (i := 549) (by decide +kernel), by decide +kernel⟩
theorem rm_X8_123 : (.methodLink RX8 123 yX8_clampStep) ∈ rd_T := List.mem_filter.mpr ⟨List.mem_of_getElem? (i := 550) (by decide +kernel), by decide +kernel⟩
theorem rm_X8_83 : (.methodLink RX8 83 yX8_goByKey) ∈ rd_T := List.mem_filter.mpr ⟨List.mem_of_getElem? (i := 551) (by decide +kernel), by decide +kernel⟩
theorem ri_X8_goByKey : (.instanceMethod yX8_goByKey) ∈ rd_T := List.mem_filter.mpr ⟨List.mem_of_getElem? (i := 552) (by decide +kernel), by decide +kernel⟩
theorem rs_X8_goByKey : (.selects RX8 yX8_goByKey yX8_goByKey) ∈ rd_T := List.mem_filter.mpr ⟨List.mem_of_getElem? (i := 553) (by decide +kernel), by decide +kernel⟩
theorem rc_X8_goByKey : (.code yX8_goByKey cX8_goByKey 3 (Option.none : Option Jvm.ClassFile.FieldType)) ∈ rd_T := List.mem_filter.mpr ⟨List.mem_of_getElem? (i := 554) (by decide +kernel), by decide +kernel⟩
theorem rm_X8_87 : (.methodLink RX8 87 yX8_passSeconds) ∈ rd_T := List.mem_filter.mpr ⟨List.mem_of_getElem? (i := 555) (by decide +kernel), by decide +kernel⟩
theorem ri_X8_passSeconds : (.instanceMethod yX8_passSeconds) ∈ rd_T := List.mem_filter.mpr ⟨List.mem_of_getElem? (i := 556) (by decide +kernel), by decide +kernel⟩
theorem rs_X8_passSeconds : (.selects RX8 yX8_passSeconds yX8_passSeconds) ∈ rd_T := List.mem_filter.mpr ⟨List.mem_of_getElem? (i := 557) (by decide +kernel), by decide +kernel⟩
theorem rc_X8_passSeconds : (.code yX8_passSeconds cX8_passSeconds 4 (Option.some Jvm.ClassFile.FieldType.int)) ∈ rd_T := List.mem_filter.mpr ⟨List.mem_of_getElem? (i := 558) (by decide +kernel), by decide +kernel⟩
theorem rm_X8_134 : (.methodLink RX8 134 yX8_isPauseOver) ∈ rd_T := List.mem_filter.mpr ⟨List.mem_of_getElem? (i := 559) (by decide +kernel), by decide +kernel⟩
theorem ri_X8_isPauseOver : (.instanceMethod yX8_isPauseOver) ∈ rd_T := List.mem_filter.mpr ⟨List.mem_of_getElem? (i := 560) (by decide +kernel), by decide +kernel⟩
theorem rs_X8_isPauseOver : (.selects RX8 yX8_isPauseOver yX8_isPauseOver) ∈ rd_T := List.mem_filter.mpr ⟨List.mem_of_getElem? (i := 561) (by decide +kernel), by decide +kernel⟩
theorem rc_X8_isPauseOver : (.code yX8_isPauseOver cX8_isPauseOver 2 (Option.some Jvm.ClassFile.FieldType.boolean)) ∈ rd_T := List.mem_filter.mpr ⟨List.mem_of_getElem? (i := 562) (by decide +kernel), by decide +kernel⟩
theorem rm_L_75 : (.methodLink RL 75 yX9_back) ∈ rd_T := List.mem_filter.mpr ⟨List.mem_of_getElem? (i := 563) (by decide +kernel), by decide +kernel⟩
theorem ri_X9_back : (.instanceMethod yX9_back) ∈ rd_T := List.mem_filter.mpr ⟨List.mem_of_getElem? (i := 564) (by decide +kernel), by decide +kernel⟩
theorem rs_X9_back : (.selects RX9 yX9_back yX9_back) ∈ rd_T := List.mem_filter.mpr ⟨List.mem_of_getElem? (i := 565) (by decide +kernel), by decide +kernel⟩
theorem rc_X9_back : (.code yX9_back cX9_back 1 (Option.some Jvm.ClassFile.FieldType.int)) ∈ rd_T := List.mem_filter.mpr ⟨List.mem_of_getElem? (i := 566) (by decide +kernel), by decide +kernel⟩
theorem rm_L_79 : (.methodLink RL 79 yX9_press) ∈ rd_T := List.mem_filter.mpr ⟨List.mem_of_getElem? (i := 567) (by decide +kernel), by decide +kernel⟩
theorem ri_X9_press : (.instanceMethod yX9_press) ∈ rd_T := List.mem_filter.mpr ⟨List.mem_of_getElem? (i := 568) (by decide +kernel), by decide +kernel⟩
theorem rs_X9_press : (.selects RX9 yX9_press yX9_press) ∈ rd_T := List.mem_filter.mpr ⟨List.mem_of_getElem? (i := 569) (by decide +kernel), by decide +kernel⟩
theorem rc_X9_press : (.code yX9_press cX9_press 2 (Option.some Jvm.ClassFile.FieldType.int)) ∈ rd_T := List.mem_filter.mpr ⟨List.mem_of_getElem? (i := 570) (by decide +kernel), by decide +kernel⟩
theorem rm_L_83 : (.methodLink RL 83 yX9_tick) ∈ rd_T := List.mem_filter.mpr ⟨List.mem_of_getElem? (i := 571) (by decide +kernel), by decide +kernel⟩
theorem ri_X9_tick : (.instanceMethod yX9_tick) ∈ rd_T := List.mem_filter.mpr ⟨List.mem_of_getElem? (i := 572) (by decide +kernel), by decide +kernel⟩
theorem rs_X9_tick : (.selects RX9 yX9_tick yX9_tick) ∈ rd_T := List.mem_filter.mpr ⟨List.mem_of_getElem? (i := 573) (by decide +kernel), by decide +kernel⟩
theorem rc_X9_tick : (.code yX9_tick cX9_tick 2 (Option.some Jvm.ClassFile.FieldType.int)) ∈ rd_T := List.mem_filter.mpr ⟨List.mem_of_getElem? (i := 574) (by decide +kernel), by decide +kernel⟩
theorem rm_X9_175 : (.methodLink RX9 175 yX8_passSeconds) ∈ rd_T := List.mem_filter.mpr ⟨List.mem_of_getElem? (i := 575) (by decide +kernel), by decide +kernel⟩
theorem rm_L_87 : (.methodLink RL 87 yX9_append) ∈ rd_T := List.mem_filter.mpr ⟨List.mem_of_getElem? (i := 576) (by decide +kernel), by decide +kernel⟩
theorem ri_X9_append : (.instanceMethod yX9_append) ∈ rd_T := List.mem_filter.mpr ⟨List.mem_of_getElem? (i := 577) (by decide +kernel), by decide +kernel⟩
theorem rs_X9_append : (.selects RX9 yX9_append yX9_append) ∈ rd_T := List.mem_filter.mpr ⟨List.mem_of_getElem? (i := 578) (by decide +kernel), by decide +kernel⟩
theorem rc_X9_append : (.code yX9_append cX9_append 2 (Option.some Jvm.ClassFile.FieldType.int)) ∈ rd_T := List.mem_filter.mpr ⟨List.mem_of_getElem? (i := 579) (by decide +kernel), by decide +kernel⟩
theorem rm_X9_181 : (.methodLink RX9 181 yX5_addSign) ∈ rd_T := List.mem_filter.mpr ⟨List.mem_of_getElem? (i := 580) (by decide +kernel), by decide +kernel⟩
theorem ri_X5_addSign : (.instanceMethod yX5_addSign) ∈ rd_T := List.mem_filter.mpr ⟨List.mem_of_getElem? (i := 581) (by decide +kernel), by decide +kernel⟩
theorem rs_X5_addSign : (.selects RX5 yX5_addSign yX5_addSign) ∈ rd_T := List.mem_filter.mpr ⟨List.mem_of_getElem? (i := 582) (by decide +kernel), by decide +kernel⟩
theorem rc_X5_addSign : (.code yX5_addSign cX5_addSign 2 (Option.none : Option Jvm.ClassFile.FieldType)) ∈ rd_T := List.mem_filter.mpr ⟨List.mem_of_getElem? (i := 583) (by decide +kernel), by decide +kernel⟩
theorem rm_L_91 : (.methodLink RL 91 yX9_clearText) ∈ rd_T := List.mem_filter.mpr ⟨List.mem_of_getElem? (i := 584) (by decide +kernel), by decide +kernel⟩
theorem ri_X9_clearText : (.instanceMethod yX9_clearText) ∈ rd_T := List.mem_filter.mpr ⟨List.mem_of_getElem? (i := 585) (by decide +kernel), by decide +kernel⟩
theorem rs_X9_clearText : (.selects RX9 yX9_clearText yX9_clearText) ∈ rd_T := List.mem_filter.mpr ⟨List.mem_of_getElem? (i := 586) (by decide +kernel), by decide +kernel⟩
theorem rc_X9_clearText : (.code yX9_clearText cX9_clearText 2 (Option.some Jvm.ClassFile.FieldType.int)) ∈ rd_T := List.mem_filter.mpr ⟨List.mem_of_getElem? (i := 587) (by decide +kernel), by decide +kernel⟩
theorem rm_L_95 : (.methodLink RL 95 yX9_fault) ∈ rd_T := List.mem_filter.mpr ⟨List.mem_of_getElem? (i := 588) (by decide +kernel), by decide +kernel⟩
theorem ri_X9_fault : (.instanceMethod yX9_fault) ∈ rd_T := List.mem_filter.mpr ⟨List.mem_of_getElem? (i := 589) (by decide +kernel), by decide +kernel⟩
theorem rs_X9_fault : (.selects RX9 yX9_fault yX9_fault) ∈ rd_T := List.mem_filter.mpr ⟨List.mem_of_getElem? (i := 590) (by decide +kernel), by decide +kernel⟩
theorem rc_X9_fault : (.code yX9_fault cX9_fault 1 (Option.some Jvm.ClassFile.FieldType.int)) ∈ rd_T := List.mem_filter.mpr ⟨List.mem_of_getElem? (i := 591) (by decide +kernel), by decide +kernel⟩
theorem rm_X9_185 : (.methodLink RX9 185 yX5_findFault) ∈ rd_T := List.mem_filter.mpr ⟨List.mem_of_getElem? (i := 592) (by decide +kernel), by decide +kernel⟩
theorem ri_X5_findFault : (.instanceMethod yX5_findFault) ∈ rd_T := List.mem_filter.mpr ⟨List.mem_of_getElem? (i := 593) (by decide +kernel), by decide +kernel⟩
theorem rs_X5_findFault : (.selects RX5 yX5_findFault yX5_findFault) ∈ rd_T := List.mem_filter.mpr ⟨List.mem_of_getElem? (i := 594) (by decide +kernel), by decide +kernel⟩
theorem rc_X5_findFault : (.code yX5_findFault cX5_findFault 3 (Option.some Jvm.ClassFile.FieldType.int)) ∈ rd_T := List.mem_filter.mpr ⟨List.mem_of_getElem? (i := 595) (by decide +kernel), by decide +kernel⟩
theorem rm_X5_23 : (.methodLink RX5 23 yX5_signAt) ∈ rd_T := List.mem_filter.mpr ⟨List.mem_of_getElem? (i := 596) (by decide +kernel), by decide +kernel⟩
theorem ri_X5_signAt : (.instanceMethod yX5_signAt) ∈ rd_T := List.mem_filter.mpr ⟨List.mem_of_getElem? (i := 597) (by decide +kernel), by decide +kernel⟩
theorem rs_X5_signAt : (.selects RX5 yX5_signAt yX5_signAt) ∈ rd_T := List.mem_filter.mpr ⟨List.mem_of_getElem? (i := 598) (by decide +kernel), by decide +kernel⟩
theorem rc_X5_signAt : (.code yX5_signAt cX5_signAt 2 (Option.some Jvm.ClassFile.FieldType.char)) ∈ rd_T := List.mem_filter.mpr ⟨List.mem_of_getElem? (i := 599) (by decide +kernel), by decide +kernel⟩
theorem rm_X5_27 : (.methodLink RX5 27 yX5_expectedBehind) ∈ rd_T := List.mem_filter.mpr ⟨List.mem_of_getElem? (i := 601) (by decide +kernel), by decide +kernel⟩
theorem rt_X5_expectedBehind : (.static yX5_expectedBehind) ∈ rd_T := List.mem_filter.mpr ⟨List.mem_of_getElem? (i := 602) (by decide +kernel), by decide +kernel⟩
theorem rc_X5_expectedBehind : (.code yX5_expectedBehind cX5_expectedBehind 2 (Option.some Jvm.ClassFile.FieldType.int)) ∈ rd_T := List.mem_filter.mpr ⟨List.mem_of_getElem? (i := 603) (by decide +kernel), by decide +kernel⟩
theorem rm_X5_31 : (.methodLink RX5 31 yX5_expectedBehindLetter) ∈ rd_T := List.mem_filter.mpr ⟨List.mem_of_getElem? (i := 604) (by decide +kernel), by decide +kernel⟩
theorem rt_X5_expectedBehindLetter : (.static yX5_expectedBehindLetter) ∈ rd_T := List.mem_filter.mpr ⟨List.mem_of_getElem? (i := 605) (by decide +kernel), by decide +kernel⟩
theorem rc_X5_expectedBehindLetter : (.code yX5_expectedBehindLetter cX5_expectedBehindLetter 1 (Option.some Jvm.ClassFile.FieldType.int)) ∈ rd_T := List.mem_filter.mpr ⟨List.mem_of_getElem? (i := 606) (by decide +kernel), by decide +kernel⟩
theorem rm_X5_35 : (.methodLink RX5 35 yX5_isDigit) ∈ rd_T := List.mem_filter.mpr ⟨List.mem_of_getElem? (i := 607) (by decide +kernel), by decide +kernel⟩
theorem rt_X5_isDigit : (.static yX5_isDigit) ∈ rd_T := List.mem_filter.mpr ⟨List.mem_of_getElem? (i := 608) (by decide +kernel), by decide +kernel⟩
theorem rc_X5_isDigit : (.code yX5_isDigit cX5_isDigit 1 (Option.some Jvm.ClassFile.FieldType.boolean)) ∈ rd_T := List.mem_filter.mpr ⟨List.mem_of_getElem? (i := 609) (by decide +kernel), by decide +kernel⟩
theorem rm_X5_39 : (.methodLink RX5 39 yX5_expectedBehindMove) ∈ rd_T := List.mem_filter.mpr ⟨List.mem_of_getElem? (i := 610) (by decide +kernel), by decide +kernel⟩
theorem rt_X5_expectedBehindMove : (.static yX5_expectedBehindMove) ∈ rd_T := List.mem_filter.mpr ⟨List.mem_of_getElem? (i := 611) (by decide +kernel), by decide +kernel⟩
theorem rc_X5_expectedBehindMove : (.code yX5_expectedBehindMove cX5_expectedBehindMove 1 (Option.some Jvm.ClassFile.FieldType.int)) ∈ rd_T := List.mem_filter.mpr ⟨List.mem_of_getElem? (i := 612) (by decide +kernel), by decide +kernel⟩
theorem rm_L_99 : (.methodLink RL 99 yX9_run) ∈ rd_T := List.mem_filter.mpr ⟨List.mem_of_getElem? (i := 613) (by decide +kernel), by decide +kernel⟩
theorem ri_X9_run : (.instanceMethod yX9_run) ∈ rd_T := List.mem_filter.mpr ⟨List.mem_of_getElem? (i := 614) (by decide +kernel), by decide +kernel⟩
theorem rs_X9_run : (.selects RX9 yX9_run yX9_run) ∈ rd_T := List.mem_filter.mpr ⟨List.mem_of_getElem? (i := 615) (by decide +kernel), by decide +kernel⟩
theorem rc_X9_run : (.code yX9_run cX9_run 5 (Option.some Jvm.ClassFile.FieldType.int)) ∈ rd_T := List.mem_filter.mpr ⟨List.mem_of_getElem? (i := 616) (by decide +kernel), by decide +kernel⟩
theorem rm_X9_188 : (.methodLink RX9 188 yX4_clear) ∈ rd_T := List.mem_filter.mpr ⟨List.mem_of_getElem? (i := 617) (by decide +kernel), by decide +kernel⟩
theorem ri_X4_clear : (.instanceMethod yX4_clear) ∈ rd_T := List.mem_filter.mpr ⟨List.mem_of_getElem? (i := 618) (by decide +kernel), by decide +kernel⟩
theorem rs_X4_clear : (.selects RX4 yX4_clear yX4_clear) ∈ rd_T := List.mem_filter.mpr ⟨List.mem_of_getElem? (i := 619) (by decide +kernel), by decide +kernel⟩
theorem rc_X4_clear : (.code yX4_clear cX4_clear 1 (Option.none : Option Jvm.ClassFile.FieldType)) ∈ rd_T := List.mem_filter.mpr ⟨List.mem_of_getElem? (i := 620) (by decide +kernel), by decide +kernel⟩
theorem rm_X9_189 : (.methodLink RX9 189 yX5_signAt) ∈ rd_T := List.mem_filter.mpr ⟨List.mem_of_getElem? (i := 621) (by decide +kernel), by decide +kernel⟩
theorem rm_X9_193 : (.methodLink RX9 193 yX5_isMove) ∈ rd_T := List.mem_filter.mpr ⟨List.mem_of_getElem? (i := 622) (by decide +kernel), by decide +kernel⟩
theorem rt_X5_isMove : (.static yX5_isMove) ∈ rd_T := List.mem_filter.mpr ⟨List.mem_of_getElem? (i := 623) (by decide +kernel), by decide +kernel⟩
theorem rc_X5_isMove : (.code yX5_isMove cX5_isMove 1 (Option.some Jvm.ClassFile.FieldType.boolean)) ∈ rd_T := List.mem_filter.mpr ⟨List.mem_of_getElem? (i := 624) (by decide +kernel), by decide +kernel⟩
theorem rm_X9_197 : (.methodLink RX9 197 yX5_numberBehind) ∈ rd_T := List.mem_filter.mpr ⟨List.mem_of_getElem? (i := 625) (by decide +kernel), by decide +kernel⟩
theorem ri_X5_numberBehind : (.instanceMethod yX5_numberBehind) ∈ rd_T := List.mem_filter.mpr ⟨List.mem_of_getElem? (i := 626) (by decide +kernel), by decide +kernel⟩
theorem rs_X5_numberBehind : (.selects RX5 yX5_numberBehind yX5_numberBehind) ∈ rd_T := List.mem_filter.mpr ⟨List.mem_of_getElem? (i := 627) (by decide +kernel), by decide +kernel⟩
theorem rc_X5_numberBehind : (.code yX5_numberBehind cX5_numberBehind 4 (Option.some Jvm.ClassFile.FieldType.int)) ∈ rd_T := List.mem_filter.mpr ⟨List.mem_of_getElem? (i := 628) (by decide +kernel), by decide +kernel⟩
theorem rm_X9_200 : (.methodLink RX9 200 yX4_tell) ∈ rd_T := List.mem_filter.mpr ⟨List.mem_of_getElem? (i := 629) (by decide +kernel), by decide +kernel⟩
theorem ri_X4_tell : (.instanceMethod yX4_tell) ∈ rd_T := List.mem_filter.mpr ⟨List.mem_of_getElem? (i := 630) (by decide +kernel), by decide +kernel⟩
theorem rs_X4_tell : (.selects RX4 yX4_tell yX4_tell) ∈ rd_T := List.mem_filter.mpr ⟨List.mem_of_getElem? (i := 631) (by decide +kernel), by decide +kernel⟩
theorem rc_X4_tell : (.code yX4_tell cX4_tell 5 (Option.none : Option Jvm.ClassFile.FieldType)) ∈ rd_T := List.mem_filter.mpr ⟨List.mem_of_getElem? (i := 632) (by decide +kernel), by decide +kernel⟩
theorem rm_L_103 : (.methodLink RL 103 yX9_why) ∈ rd_T := List.mem_filter.mpr ⟨List.mem_of_getElem? (i := 633) (by decide +kernel), by decide +kernel⟩
theorem ri_X9_why : (.instanceMethod yX9_why) ∈ rd_T := List.mem_filter.mpr ⟨List.mem_of_getElem? (i := 634) (by decide +kernel), by decide +kernel⟩
theorem rs_X9_why : (.selects RX9 yX9_why yX9_why) ∈ rd_T := List.mem_filter.mpr ⟨List.mem_of_getElem? (i := 635) (by decide +kernel), by decide +kernel⟩
theorem rc_X9_why : (.code yX9_why cX9_why 2 (Option.some Jvm.ClassFile.FieldType.int)) ∈ rd_T := List.mem_filter.mpr ⟨List.mem_of_getElem? (i := 636) (by decide +kernel), by decide +kernel⟩
theorem rm_L_107 : (.methodLink RL 107 yX9_undo) ∈ rd_T := List.mem_filter.mpr ⟨List.mem_of_getElem? (i := 637) (by decide +kernel), by decide +kernel⟩
theorem ri_X9_undo : (.instanceMethod yX9_undo) ∈ rd_T := List.mem_filter.mpr ⟨List.mem_of_getElem? (i := 638) (by decide +kernel), by decide +kernel⟩
theorem rs_X9_undo : (.selects RX9 yX9_undo yX9_undo) ∈ rd_T := List.mem_filter.mpr ⟨List.mem_of_getElem? (i := 639) (by decide +kernel), by decide +kernel⟩
theorem rc_X9_undo : (.code yX9_undo cX9_undo 1 (Option.some Jvm.ClassFile.FieldType.int)) ∈ rd_T := List.mem_filter.mpr ⟨List.mem_of_getElem? (i := 640) (by decide +kernel), by decide +kernel⟩
theorem rm_X9_213 : (.methodLink RX9 213 yX2_restore) ∈ rd_T := List.mem_filter.mpr ⟨List.mem_of_getElem? (i := 641) (by decide +kernel), by decide +kernel⟩
theorem ri_X2_restore : (.instanceMethod yX2_restore) ∈ rd_T := List.mem_filter.mpr ⟨List.mem_of_getElem? (i := 642) (by decide +kernel), by decide +kernel⟩
theorem rs_X2_restore : (.selects RX2 yX2_restore yX2_restore) ∈ rd_T := List.mem_filter.mpr ⟨List.mem_of_getElem? (i := 643) (by decide +kernel), by decide +kernel⟩
theorem rc_X2_restore : (.code yX2_restore cX2_restore 2 (Option.none : Option Jvm.ClassFile.FieldType)) ∈ rd_T := List.mem_filter.mpr ⟨List.mem_of_getElem? (i := 644) (by decide +kernel), by decide +kernel⟩
theorem rm_L_111 : (.methodLink RL 111 yX9_slides) ∈ rd_T := List.mem_filter.mpr ⟨List.mem_of_getElem? (i := 645) (by decide +kernel), by decide +kernel⟩
theorem ri_X9_slides : (.instanceMethod yX9_slides) ∈ rd_T := List.mem_filter.mpr ⟨List.mem_of_getElem? (i := 646) (by decide +kernel), by decide +kernel⟩
theorem rs_X9_slides : (.selects RX9 yX9_slides yX9_slides) ∈ rd_T := List.mem_filter.mpr ⟨List.mem_of_getElem? (i := 647) (by decide +kernel), by decide +kernel⟩
theorem rc_X9_slides : (.code yX9_slides cX9_slides 1 (Option.some Jvm.ClassFile.FieldType.int)) ∈ rd_T := List.mem_filter.mpr ⟨List.mem_of_getElem? (i := 648) (by decide +kernel), by decide +kernel⟩
theorem rm_L_115 : (.methodLink RL 115 yX9_slideAt) ∈ rd_T := List.mem_filter.mpr ⟨List.mem_of_getElem? (i := 649) (by decide +kernel), by decide +kernel⟩
theorem ri_X9_slideAt : (.instanceMethod yX9_slideAt) ∈ rd_T := List.mem_filter.mpr ⟨List.mem_of_getElem? (i := 650) (by decide +kernel), by decide +kernel⟩
theorem rs_X9_slideAt : (.selects RX9 yX9_slideAt yX9_slideAt) ∈ rd_T := List.mem_filter.mpr ⟨List.mem_of_getElem? (i := 651) (by decide +kernel), by decide +kernel⟩
theorem rc_X9_slideAt : (.code yX9_slideAt cX9_slideAt 3 (Option.some Jvm.ClassFile.FieldType.int)) ∈ rd_T := List.mem_filter.mpr ⟨List.mem_of_getElem? (i := 652) (by decide +kernel), by decide +kernel⟩
theorem rm_X9_216 : (.methodLink RX9 216 yX0_numberAt) ∈ rd_T := List.mem_filter.mpr ⟨List.mem_of_getElem? (i := 653) (by decide +kernel), by decide +kernel⟩
theorem rm_L_119 : (.methodLink RL 119 yX9_slide) ∈ rd_T := List.mem_filter.mpr ⟨List.mem_of_getElem? (i := 654) (by decide +kernel), by decide +kernel⟩
theorem ri_X9_slide : (.instanceMethod yX9_slide) ∈ rd_T := List.mem_filter.mpr ⟨List.mem_of_getElem? (i := 655) (by decide +kernel), by decide +kernel⟩
theorem rs_X9_slide : (.selects RX9 yX9_slide yX9_slide) ∈ rd_T := List.mem_filter.mpr ⟨List.mem_of_getElem? (i := 656) (by decide +kernel), by decide +kernel⟩
theorem rc_X9_slide : (.code yX9_slide cX9_slide 4 (Option.some Jvm.ClassFile.FieldType.int)) ∈ rd_T := List.mem_filter.mpr ⟨List.mem_of_getElem? (i := 657) (by decide +kernel), by decide +kernel⟩
theorem rm_X9_219 : (.methodLink RX9 219 yX9_asNumber) ∈ rd_T := List.mem_filter.mpr ⟨List.mem_of_getElem? (i := 658) (by decide +kernel), by decide +kernel⟩
theorem rt_X9_asNumber : (.static yX9_asNumber) ∈ rd_T := List.mem_filter.mpr ⟨List.mem_of_getElem? (i := 659) (by decide +kernel), by decide +kernel⟩
theorem rc_X9_asNumber : (.code yX9_asNumber cX9_asNumber 1 (Option.some Jvm.ClassFile.FieldType.int)) ∈ rd_T := List.mem_filter.mpr ⟨List.mem_of_getElem? (i := 660) (by decide +kernel), by decide +kernel⟩
theorem rm_X9_223 : (.methodLink RX9 223 yX7_finalStep) ∈ rd_T := List.mem_filter.mpr ⟨List.mem_of_getElem? (i := 661) (by decide +kernel), by decide +kernel⟩
theorem rm_L_123 : (.methodLink RL 123 yX9_item) ∈ rd_T := List.mem_filter.mpr ⟨List.mem_of_getElem? (i := 662) (by decide +kernel), by decide +kernel⟩
theorem ri_X9_item : (.instanceMethod yX9_item) ∈ rd_T := List.mem_filter.mpr ⟨List.mem_of_getElem? (i := 663) (by decide +kernel), by decide +kernel⟩
theorem rs_X9_item : (.selects RX9 yX9_item yX9_item) ∈ rd_T := List.mem_filter.mpr ⟨List.mem_of_getElem? (i := 664) (by decide +kernel), by decide +kernel⟩
theorem rc_X9_item : (.code yX9_item cX9_item 5 (Option.some Jvm.ClassFile.FieldType.int)) ∈ rd_T := List.mem_filter.mpr ⟨List.mem_of_getElem? (i := 665) (by decide +kernel), by decide +kernel⟩
theorem rm_L_127 : (.methodLink RL 127 yX9_target) ∈ rd_T := List.mem_filter.mpr ⟨List.mem_of_getElem? (i := 666) (by decide +kernel), by decide +kernel⟩
theorem ri_X9_target : (.instanceMethod yX9_target) ∈ rd_T := List.mem_filter.mpr ⟨List.mem_of_getElem? (i := 667) (by decide +kernel), by decide +kernel⟩
theorem rs_X9_target : (.selects RX9 yX9_target yX9_target) ∈ rd_T := List.mem_filter.mpr ⟨List.mem_of_getElem? (i := 668) (by decide +kernel), by decide +kernel⟩
theorem rc_X9_target : (.code yX9_target cX9_target 5 (Option.some Jvm.ClassFile.FieldType.int)) ∈ rd_T := List.mem_filter.mpr ⟨List.mem_of_getElem? (i := 669) (by decide +kernel), by decide +kernel⟩
theorem rm_L_131 : (.methodLink RL 131 yX9_picture) ∈ rd_T := List.mem_filter.mpr ⟨List.mem_of_getElem? (i := 670) (by decide +kernel), by decide +kernel⟩
theorem ri_X9_picture : (.instanceMethod yX9_picture) ∈ rd_T := List.mem_filter.mpr ⟨List.mem_of_getElem? (i := 671) (by decide +kernel), by decide +kernel⟩
theorem rs_X9_picture : (.selects RX9 yX9_picture yX9_picture) ∈ rd_T := List.mem_filter.mpr ⟨List.mem_of_getElem? (i := 672) (by decide +kernel), by decide +kernel⟩
theorem rc_X9_picture : (.code yX9_picture cX9_picture 4 (Option.some Jvm.ClassFile.FieldType.int)) ∈ rd_T := List.mem_filter.mpr ⟨List.mem_of_getElem? (i := 673) (by decide +kernel), by decide +kernel⟩
theorem rm_X9_236 : (.methodLink RX9 236 yX7_maskAt) ∈ rd_T := List.mem_filter.mpr ⟨List.mem_of_getElem? (i := 674) (by decide +kernel), by decide +kernel⟩
theorem ri_X7_maskAt : (.instanceMethod yX7_maskAt) ∈ rd_T := List.mem_filter.mpr ⟨List.mem_of_getElem? (i := 675) (by decide +kernel), by decide +kernel⟩
theorem rs_X7_maskAt : (.selects RX7 yX7_maskAt yX7_maskAt) ∈ rd_T := List.mem_filter.mpr ⟨List.mem_of_getElem? (i := 676) (by decide +kernel), by decide +kernel⟩
theorem rc_X7_maskAt : (.code yX7_maskAt cX7_maskAt 4 (Option.some Jvm.ClassFile.FieldType.int)) ∈ rd_T := List.mem_filter.mpr ⟨List.mem_of_getElem? (i := 677) (by decide +kernel), by decide +kernel⟩
theorem rm_X7_54 : (.methodLink RX7 54 yX7_isSeen) ∈ rd_T := List.mem_filter.mpr ⟨List.mem_of_getElem? (i := 678) (by decide +kernel), by decide +kernel⟩
theorem ri_X7_isSeen : (.instanceMethod yX7_isSeen) ∈ rd_T := List.mem_filter.mpr ⟨List.mem_of_getElem? (i := 679) (by decide +kernel), by decide +kernel⟩
theorem rs_X7_isSeen : (.selects RX7 yX7_isSeen yX7_isSeen) ∈ rd_T := List.mem_filter.mpr ⟨List.mem_of_getElem? (i := 680) (by decide +kernel), by decide +kernel⟩
theorem rc_X7_isSeen : (.code yX7_isSeen cX7_isSeen 3 (Option.some Jvm.ClassFile.FieldType.boolean)) ∈ rd_T := List.mem_filter.mpr ⟨List.mem_of_getElem? (i := 681) (by decide +kernel), by decide +kernel⟩
theorem rm_L_135 : (.methodLink RL 135 yX9_now) ∈ rd_T := List.mem_filter.mpr ⟨List.mem_of_getElem? (i := 682) (by decide +kernel), by decide +kernel⟩
theorem ri_X9_now : (.instanceMethod yX9_now) ∈ rd_T := List.mem_filter.mpr ⟨List.mem_of_getElem? (i := 683) (by decide +kernel), by decide +kernel⟩
theorem rs_X9_now : (.selects RX9 yX9_now yX9_now) ∈ rd_T := List.mem_filter.mpr ⟨List.mem_of_getElem? (i := 684) (by decide +kernel), by decide +kernel⟩
theorem rc_X9_now : (.code yX9_now cX9_now 2 (Option.some Jvm.ClassFile.FieldType.int)) ∈ rd_T := List.mem_filter.mpr ⟨List.mem_of_getElem? (i := 685) (by decide +kernel), by decide +kernel⟩
theorem rm_X9_245 : (.methodLink RX9 245 yX8_isOver) ∈ rd_T := List.mem_filter.mpr ⟨List.mem_of_getElem? (i := 686) (by decide +kernel), by decide +kernel⟩
theorem rm_L_139 : (.methodLink RL 139 yX9_trail) ∈ rd_T := List.mem_filter.mpr ⟨List.mem_of_getElem? (i := 687) (by decide +kernel), by decide +kernel⟩
theorem ri_X9_trail : (.instanceMethod yX9_trail) ∈ rd_T := List.mem_filter.mpr ⟨List.mem_of_getElem? (i := 688) (by decide +kernel), by decide +kernel⟩
theorem rs_X9_trail : (.selects RX9 yX9_trail yX9_trail) ∈ rd_T := List.mem_filter.mpr ⟨List.mem_of_getElem? (i := 689) (by decide +kernel), by decide +kernel⟩
theorem rc_X9_trail : (.code yX9_trail cX9_trail 3 (Option.some Jvm.ClassFile.FieldType.int)) ∈ rd_T := List.mem_filter.mpr ⟨List.mem_of_getElem? (i := 690) (by decide +kernel), by decide +kernel⟩
theorem rm_X9_252 : (.methodLink RX9 252 yX6_trailValue) ∈ rd_T := List.mem_filter.mpr ⟨List.mem_of_getElem? (i := 691) (by decide +kernel), by decide +kernel⟩
theorem rm_L_143 : (.methodLink RL 143 yX9_labels) ∈ rd_T := List.mem_filter.mpr ⟨List.mem_of_getElem? (i := 692) (by decide +kernel), by decide +kernel⟩
theorem ri_X9_labels : (.instanceMethod yX9_labels) ∈ rd_T := List.mem_filter.mpr ⟨List.mem_of_getElem? (i := 693) (by decide +kernel), by decide +kernel⟩
theorem rs_X9_labels : (.selects RX9 yX9_labels yX9_labels) ∈ rd_T := List.mem_filter.mpr ⟨List.mem_of_getElem? (i := 694) (by decide +kernel), by decide +kernel⟩
theorem rc_X9_labels : (.code yX9_labels cX9_labels 2 (Option.some Jvm.ClassFile.FieldType.int)) ∈ rd_T := List.mem_filter.mpr ⟨List.mem_of_getElem? (i := 695) (by decide +kernel), by decide +kernel⟩
theorem rm_X9_256 : (.methodLink RX9 256 yX7_sumTagsAt) ∈ rd_T := List.mem_filter.mpr ⟨List.mem_of_getElem? (i := 696) (by decide +kernel), by decide +kernel⟩
theorem ri_X7_sumTagsAt : (.instanceMethod yX7_sumTagsAt) ∈ rd_T := List.mem_filter.mpr ⟨List.mem_of_getElem? (i := 697) (by decide +kernel), by decide +kernel⟩
theorem rs_X7_sumTagsAt : (.selects RX7 yX7_sumTagsAt yX7_sumTagsAt) ∈ rd_T := List.mem_filter.mpr ⟨List.mem_of_getElem? (i := 698) (by decide +kernel), by decide +kernel⟩
theorem rc_X7_sumTagsAt : (.code yX7_sumTagsAt cX7_sumTagsAt 4 (Option.some Jvm.ClassFile.FieldType.int)) ∈ rd_T := List.mem_filter.mpr ⟨List.mem_of_getElem? (i := 699) (by decide +kernel), by decide +kernel⟩
theorem rm_L_147 : (.methodLink RL 147 yX9_noteNow) ∈ rd_T := List.mem_filter.mpr ⟨List.mem_of_getElem? (i := 700) (by decide +kernel), by decide +kernel⟩
theorem ri_X9_noteNow : (.instanceMethod yX9_noteNow) ∈ rd_T := List.mem_filter.mpr ⟨List.mem_of_getElem? (i := 701) (by decide +kernel), by decide +kernel⟩
theorem rs_X9_noteNow : (.selects RX9 yX9_noteNow yX9_noteNow) ∈ rd_T := List.mem_filter.mpr ⟨List.mem_of_getElem? (i := 702) (by decide +kernel), by decide +kernel⟩
theorem rc_X9_noteNow : (.code yX9_noteNow cX9_noteNow 1 (Option.some Jvm.ClassFile.FieldType.int)) ∈ rd_T := List.mem_filter.mpr ⟨List.mem_of_getElem? (i := 703) (by decide +kernel), by decide +kernel⟩
theorem rm_X9_259 : (.methodLink RX9 259 yX3_latestAt) ∈ rd_T := List.mem_filter.mpr ⟨List.mem_of_getElem? (i := 704) (by decide +kernel), by decide +kernel⟩
theorem ri_X3_latestAt : (.instanceMethod yX3_latestAt) ∈ rd_T := List.mem_filter.mpr ⟨List.mem_of_getElem? (i := 705) (by decide +kernel), by decide +kernel⟩
theorem rs_X3_latestAt : (.selects RX3 yX3_latestAt yX3_latestAt) ∈ rd_T := List.mem_filter.mpr ⟨List.mem_of_getElem? (i := 706) (by decide +kernel), by decide +kernel⟩
theorem rc_X3_latestAt : (.code yX3_latestAt cX3_latestAt 5 (Option.some Jvm.ClassFile.FieldType.int)) ∈ rd_T := List.mem_filter.mpr ⟨List.mem_of_getElem? (i := 707) (by decide +kernel), by decide +kernel⟩
theorem rm_L_151 : (.methodLink RL 151 yX9_end) ∈ rd_T := List.mem_filter.mpr ⟨List.mem_of_getElem? (i := 708) (by decide +kernel), by decide +kernel⟩
theorem ri_X9_end : (.instanceMethod yX9_end) ∈ rd_T := List.mem_filter.mpr ⟨List.mem_of_getElem? (i := 709) (by decide +kernel), by decide +kernel⟩
theorem rs_X9_end : (.selects RX9 yX9_end yX9_end) ∈ rd_T := List.mem_filter.mpr ⟨List.mem_of_getElem? (i := 710) (by decide +kernel), by decide +kernel⟩
theorem rc_X9_end : (.code yX9_end cX9_end 1 (Option.some Jvm.ClassFile.FieldType.int)) ∈ rd_T := List.mem_filter.mpr ⟨List.mem_of_getElem? (i := 711) (by decide +kernel), by decide +kernel⟩
theorem rm_L_155 : (.methodLink RL 155 yX9_meanSteps) ∈ rd_T := List.mem_filter.mpr ⟨List.mem_of_getElem? (i := 712) (by decide +kernel), by decide +kernel⟩
theorem ri_X9_meanSteps : (.instanceMethod yX9_meanSteps) ∈ rd_T := List.mem_filter.mpr ⟨List.mem_of_getElem? (i := 713) (by decide +kernel), by decide +kernel⟩
theorem rs_X9_meanSteps : (.selects RX9 yX9_meanSteps yX9_meanSteps) ∈ rd_T := List.mem_filter.mpr ⟨List.mem_of_getElem? (i := 714) (by decide +kernel), by decide +kernel⟩
theorem rc_X9_meanSteps : (.code yX9_meanSteps cX9_meanSteps 2 (Option.some Jvm.ClassFile.FieldType.float)) ∈ rd_T := List.mem_filter.mpr ⟨List.mem_of_getElem? (i := 715) (by decide +kernel), by decide +kernel⟩
theorem rm_X9_262 : (.methodLink RX9 262 yX0_sumSteps) ∈ rd_T := List.mem_filter.mpr ⟨List.mem_of_getElem? (i := 716) (by decide +kernel), by decide +kernel⟩
theorem ri_X0_sumSteps : (.instanceMethod yX0_sumSteps) ∈ rd_T := List.mem_filter.mpr ⟨List.mem_of_getElem? (i := 717) (by decide +kernel), by decide +kernel⟩
theorem rs_X0_sumSteps : (.selects RX0 yX0_sumSteps yX0_sumSteps) ∈ rd_T := List.mem_filter.mpr ⟨List.mem_of_getElem? (i := 718) (by decide +kernel), by decide +kernel⟩
theorem rc_X0_sumSteps : (.code yX0_sumSteps cX0_sumSteps 6 (Option.some Jvm.ClassFile.FieldType.int)) ∈ rd_T := List.mem_filter.mpr ⟨List.mem_of_getElem? (i := 719) (by decide +kernel), by decide +kernel⟩
theorem rm_X0_72 : (.methodLink RX0 72 yX7_finalStep) ∈ rd_T := List.mem_filter.mpr ⟨List.mem_of_getElem? (i := 720) (by decide +kernel), by decide +kernel⟩
theorem rm_L_160 : (.methodLink RL 160 yX9_movesLeft) ∈ rd_T := List.mem_filter.mpr ⟨List.mem_of_getElem? (i := 721) (by decide +kernel), by decide +kernel⟩
theorem ri_X9_movesLeft : (.instanceMethod yX9_movesLeft) ∈ rd_T := List.mem_filter.mpr ⟨List.mem_of_getElem? (i := 722) (by decide +kernel), by decide +kernel⟩
theorem rs_X9_movesLeft : (.selects RX9 yX9_movesLeft yX9_movesLeft) ∈ rd_T := List.mem_filter.mpr ⟨List.mem_of_getElem? (i := 723) (by decide +kernel), by decide +kernel⟩
theorem rc_X9_movesLeft : (.code yX9_movesLeft cX9_movesLeft 1 (Option.some Jvm.ClassFile.FieldType.int)) ∈ rd_T := List.mem_filter.mpr ⟨List.mem_of_getElem? (i := 724) (by decide +kernel), by decide +kernel⟩
theorem rm_X9_265 : (.methodLink RX9 265 yX1_countMoves) ∈ rd_T := List.mem_filter.mpr ⟨List.mem_of_getElem? (i := 725) (by decide +kernel), by decide +kernel⟩
theorem ri_X1_countMoves : (.instanceMethod yX1_countMoves) ∈ rd_T := List.mem_filter.mpr ⟨List.mem_of_getElem? (i := 726) (by decide +kernel), by decide +kernel⟩
theorem rs_X1_countMoves : (.selects RX1 yX1_countMoves yX1_countMoves) ∈ rd_T := List.mem_filter.mpr ⟨List.mem_of_getElem? (i := 727) (by decide +kernel), by decide +kernel⟩
theorem rc_X1_countMoves : (.code yX1_countMoves cX1_countMoves 4 (Option.some Jvm.ClassFile.FieldType.int)) ∈ rd_T := List.mem_filter.mpr ⟨List.mem_of_getElem? (i := 728) (by decide +kernel), by decide +kernel⟩
theorem rm_X1_15 : (.methodLink RX1 15 yX8_here) ∈ rd_T := List.mem_filter.mpr ⟨List.mem_of_getElem? (i := 729) (by decide +kernel), by decide +kernel⟩
theorem rm_X1_35 : (.methodLink RX1 35 yX0_placeOf) ∈ rd_T := List.mem_filter.mpr ⟨List.mem_of_getElem? (i := 730) (by decide +kernel), by decide +kernel⟩
theorem rm_X1_44 : (.methodLink RX1 44 yX1_movesOn) ∈ rd_T := List.mem_filter.mpr ⟨List.mem_of_getElem? (i := 731) (by decide +kernel), by decide +kernel⟩
theorem rt_X1_movesOn : (.static yX1_movesOn) ∈ rd_T := List.mem_filter.mpr ⟨List.mem_of_getElem? (i := 732) (by decide +kernel), by decide +kernel⟩
theorem rc_X1_movesOn : (.code yX1_movesOn cX1_movesOn 6 (Option.some Jvm.ClassFile.FieldType.int)) ∈ rd_T := List.mem_filter.mpr ⟨List.mem_of_getElem? (i := 733) (by decide +kernel), by decide +kernel⟩
theorem rm_X1_48 : (.methodLink RX1 48 yX0_numberAt) ∈ rd_T := List.mem_filter.mpr ⟨List.mem_of_getElem? (i := 734) (by decide +kernel), by decide +kernel⟩
theorem rm_X1_51 : (.methodLink RX1 51 yX0_find) ∈ rd_T := List.mem_filter.mpr ⟨List.mem_of_getElem? (i := 735) (by decide +kernel), by decide +kernel⟩
theorem rm_X1_73 : (.methodLink RX1 73 yX7_finalStep) ∈ rd_T := List.mem_filter.mpr ⟨List.mem_of_getElem? (i := 736) (by decide +kernel), by decide +kernel⟩
theorem rm_X1_80 : (.methodLink RX1 80 yX0_nextShown) ∈ rd_T := List.mem_filter.mpr ⟨List.mem_of_getElem? (i := 737) (by decide +kernel), by decide +kernel⟩
theorem rm_L_164 : (.methodLink RL 164 yX9_fewest) ∈ rd_T := List.mem_filter.mpr ⟨List.mem_of_getElem? (i := 738) (by decide +kernel), by decide +kernel⟩
theorem ri_X9_fewest : (.instanceMethod yX9_fewest) ∈ rd_T := List.mem_filter.mpr ⟨List.mem_of_getElem? (i := 739) (by decide +kernel), by decide +kernel⟩
theorem rs_X9_fewest : (.selects RX9 yX9_fewest yX9_fewest) ∈ rd_T := List.mem_filter.mpr ⟨List.mem_of_getElem? (i := 740) (by decide +kernel), by decide +kernel⟩
theorem rc_X9_fewest : (.code yX9_fewest cX9_fewest 2 (Option.some Jvm.ClassFile.FieldType.int)) ∈ rd_T := List.mem_filter.mpr ⟨List.mem_of_getElem? (i := 741) (by decide +kernel), by decide +kernel⟩
theorem rm_X9_269 : (.methodLink RX9 269 yX1_leastMoves) ∈ rd_T := List.mem_filter.mpr ⟨List.mem_of_getElem? (i := 742) (by decide +kernel), by decide +kernel⟩
theorem ri_X1_leastMoves : (.instanceMethod yX1_leastMoves) ∈ rd_T := List.mem_filter.mpr ⟨List.mem_of_getElem? (i := 743) (by decide +kernel), by decide +kernel⟩
theorem rs_X1_leastMoves : (.selects RX1 yX1_leastMoves yX1_leastMoves) ∈ rd_T := List.mem_filter.mpr ⟨List.mem_of_getElem? (i := 744) (by decide +kernel), by decide +kernel⟩
theorem rc_X1_leastMoves : (.code yX1_leastMoves cX1_leastMoves 5 (Option.some Jvm.ClassFile.FieldType.int)) ∈ rd_T := List.mem_filter.mpr ⟨List.mem_of_getElem? (i := 745) (by decide +kernel), by decide +kernel⟩
theorem rl_X1_87 : (.constant RX1 87 (1000000)) ∈ rd_T := List.mem_filter.mpr ⟨List.mem_of_getElem? (i := 747) (by decide +kernel), by decide +kernel⟩
theorem rm_X1_88 : (.methodLink RX1 88 yX1_lower) ∈ rd_T := List.mem_filter.mpr ⟨List.mem_of_getElem? (i := 748) (by decide +kernel), by decide +kernel⟩
theorem ri_X1_lower : (.instanceMethod yX1_lower) ∈ rd_T := List.mem_filter.mpr ⟨List.mem_of_getElem? (i := 749) (by decide +kernel), by decide +kernel⟩
theorem rs_X1_lower : (.selects RX1 yX1_lower yX1_lower) ∈ rd_T := List.mem_filter.mpr ⟨List.mem_of_getElem? (i := 750) (by decide +kernel), by decide +kernel⟩
theorem rc_X1_lower : (.code yX1_lower cX1_lower 3 (Option.none : Option Jvm.ClassFile.FieldType)) ∈ rd_T := List.mem_filter.mpr ⟨List.mem_of_getElem? (i := 751) (by decide +kernel), by decide +kernel⟩
theorem rm_X1_92 : (.methodLink RX1 92 yX1_spreadFrom) ∈ rd_T := List.mem_filter.mpr ⟨List.mem_of_getElem? (i := 752) (by decide +kernel), by decide +kernel⟩
theorem ri_X1_spreadFrom : (.instanceMethod yX1_spreadFrom) ∈ rd_T := List.mem_filter.mpr ⟨List.mem_of_getElem? (i := 753) (by decide +kernel), by decide +kernel⟩
theorem rs_X1_spreadFrom : (.selects RX1 yX1_spreadFrom yX1_spreadFrom) ∈ rd_T := List.mem_filter.mpr ⟨List.mem_of_getElem? (i := 754) (by decide +kernel), by decide +kernel⟩
theorem rc_X1_spreadFrom : (.code yX1_spreadFrom cX1_spreadFrom 9 (Option.none : Option Jvm.ClassFile.FieldType)) ∈ rd_T := List.mem_filter.mpr ⟨List.mem_of_getElem? (i := 755) (by decide +kernel), by decide +kernel⟩
theorem rm_L_168 : (.methodLink RL 168 yX9_secondsLeft) ∈ rd_T := List.mem_filter.mpr ⟨List.mem_of_getElem? (i := 756) (by decide +kernel), by decide +kernel⟩
theorem ri_X9_secondsLeft : (.instanceMethod yX9_secondsLeft) ∈ rd_T := List.mem_filter.mpr ⟨List.mem_of_getElem? (i := 757) (by decide +kernel), by decide +kernel⟩
theorem rs_X9_secondsLeft : (.selects RX9 yX9_secondsLeft yX9_secondsLeft) ∈ rd_T := List.mem_filter.mpr ⟨List.mem_of_getElem? (i := 758) (by decide +kernel), by decide +kernel⟩
theorem rc_X9_secondsLeft : (.code yX9_secondsLeft cX9_secondsLeft 1 (Option.some Jvm.ClassFile.FieldType.int)) ∈ rd_T := List.mem_filter.mpr ⟨List.mem_of_getElem? (i := 759) (by decide +kernel), by decide +kernel⟩
theorem rm_X9_273 : (.methodLink RX9 273 yX1_countSeconds) ∈ rd_T := List.mem_filter.mpr ⟨List.mem_of_getElem? (i := 760) (by decide +kernel), by decide +kernel⟩
theorem ri_X1_countSeconds : (.instanceMethod yX1_countSeconds) ∈ rd_T := List.mem_filter.mpr ⟨List.mem_of_getElem? (i := 761) (by decide +kernel), by decide +kernel⟩
theorem rs_X1_countSeconds : (.selects RX1 yX1_countSeconds yX1_countSeconds) ∈ rd_T := List.mem_filter.mpr ⟨List.mem_of_getElem? (i := 762) (by decide +kernel), by decide +kernel⟩
theorem rc_X1_countSeconds : (.code yX1_countSeconds cX1_countSeconds 7 (Option.some Jvm.ClassFile.FieldType.int)) ∈ rd_T := List.mem_filter.mpr ⟨List.mem_of_getElem? (i := 763) (by decide +kernel), by decide +kernel⟩
theorem rm_X1_63 : (.methodLink RX1 63 yJ9_max_7cf53) ∈ rd_T := List.mem_filter.mpr ⟨List.mem_of_getElem? (i := 764) (by decide +kernel), by decide +kernel⟩
theorem rm_L_172 : (.methodLink RL 172 yX9_backTo) ∈ rd_T := List.mem_filter.mpr ⟨List.mem_of_getElem? (i := 765) (by decide +kernel), by decide +kernel⟩
theorem ri_X9_backTo : (.instanceMethod yX9_backTo) ∈ rd_T := List.mem_filter.mpr ⟨List.mem_of_getElem? (i := 766) (by decide +kernel), by decide +kernel⟩
theorem rs_X9_backTo : (.selects RX9 yX9_backTo yX9_backTo) ∈ rd_T := List.mem_filter.mpr ⟨List.mem_of_getElem? (i := 767) (by decide +kernel), by decide +kernel⟩
theorem rc_X9_backTo : (.code yX9_backTo cX9_backTo 1 (Option.some Jvm.ClassFile.FieldType.int)) ∈ rd_T := List.mem_filter.mpr ⟨List.mem_of_getElem? (i := 768) (by decide +kernel), by decide +kernel⟩
theorem rm_X9_276 : (.methodLink RX9 276 yX8_backPlace) ∈ rd_T := List.mem_filter.mpr ⟨List.mem_of_getElem? (i := 769) (by decide +kernel), by decide +kernel⟩
theorem rk_L_10 : (.classLink RL 10 RX10) ∈ rd_T := List.mem_filter.mpr ⟨List.mem_of_getElem? (i := 770) (by decide +kernel), by decide +kernel⟩
theorem rq_X10 : (.instantiable RX10 9) ∈ rd_T := List.mem_filter.mpr ⟨List.mem_of_getElem? (i := 771) (by decide +kernel), by decide +kernel⟩
theorem rm_L_12 : (.methodLink RL 12 yX10_init) ∈ rd_T := List.mem_filter.mpr ⟨List.mem_of_getElem? (i := 772) (by decide +kernel), by decide +kernel⟩
theorem ri_X10_init : (.instanceMethod yX10_init) ∈ rd_T := List.mem_filter.mpr ⟨List.mem_of_getElem? (i := 773) (by decide +kernel), by decide +kernel⟩
theorem rc_X10_init : (.code yX10_init cX10_init 1 (Option.none : Option Jvm.ClassFile.FieldType)) ∈ rd_T := List.mem_filter.mpr ⟨List.mem_of_getElem? (i := 774) (by decide +kernel), by decide +kernel⟩
theorem rm_X10_1 : (.methodLink RX10 1 ⟨"java/lang/Object", "<init>", "()V"⟩) ∈ rd_T := List.mem_filter.mpr ⟨List.mem_of_getElem? (i := 775) (by decide +kernel), by decide +kernel⟩
theorem rf_X10_7 : (.fieldLink RX10 7 "RevealDeckModel" "s" "[I") ∈ rd_T := List.mem_filter.mpr ⟨List.mem_of_getElem? (i := 776) (by decide +kernel), by decide +kernel⟩
theorem rf_X10_68 : (.fieldLink RX10 68 "RevealDeckModel" "states" "I") ∈ rd_T := List.mem_filter.mpr ⟨List.mem_of_getElem? (i := 777) (by decide +kernel), by decide +kernel⟩
theorem rf_X10_13 : (.fieldLink RX10 13 "RevealDeckModel" "text" "[I") ∈ rd_T := List.mem_filter.mpr ⟨List.mem_of_getElem? (i := 778) (by decide +kernel), by decide +kernel⟩
theorem rf_X10_113 : (.fieldLink RX10 113 "RevealDeckModel" "length" "I") ∈ rd_T := List.mem_filter.mpr ⟨List.mem_of_getElem? (i := 779) (by decide +kernel), by decide +kernel⟩
theorem rf_X10_116 : (.fieldLink RX10 116 "RevealDeckModel" "at" "I") ∈ rd_T := List.mem_filter.mpr ⟨List.mem_of_getElem? (i := 780) (by decide +kernel), by decide +kernel⟩
theorem rf_X10_122 : (.fieldLink RX10 122 "RevealDeckModel" "letter" "I") ∈ rd_T := List.mem_filter.mpr ⟨List.mem_of_getElem? (i := 781) (by decide +kernel), by decide +kernel⟩
theorem rf_X10_128 : (.fieldLink RX10 128 "RevealDeckModel" "number" "I") ∈ rd_T := List.mem_filter.mpr ⟨List.mem_of_getElem? (i := 782) (by decide +kernel), by decide +kernel⟩
theorem rf_X10_16 : (.fieldLink RX10 16 "RevealDeckModel" "report" "[I") ∈ rd_T := List.mem_filter.mpr ⟨List.mem_of_getElem? (i := 783) (by decide +kernel), by decide +kernel⟩
theorem rf_X10_19 : (.fieldLink RX10 19 "RevealDeckModel" "moves" "[I") ∈ rd_T := List.mem_filter.mpr ⟨List.mem_of_getElem? (i := 784) (by decide +kernel), by decide +kernel⟩
theorem rm_L_17 : (.methodLink RL 17 yX10_addSlide) ∈ rd_T := List.mem_filter.mpr ⟨List.mem_of_getElem? (i := 804) (by decide +kernel), by decide +kernel⟩
theorem ri_X10_addSlide : (.instanceMethod yX10_addSlide) ∈ rd_T := List.mem_filter.mpr ⟨List.mem_of_getElem? (i := 805) (by decide +kernel), by decide +kernel⟩
theorem rs_X10_addSlide : (.selects RX10 yX10_addSlide yX10_addSlide) ∈ rd_T := List.mem_filter.mpr ⟨List.mem_of_getElem? (i := 806) (by decide +kernel), by decide +kernel⟩
theorem rc_X10_addSlide : (.code yX10_addSlide cX10_addSlide 3 (Option.some Jvm.ClassFile.FieldType.int)) ∈ rd_T := List.mem_filter.mpr ⟨List.mem_of_getElem? (i := 807) (by decide +kernel), by decide +kernel⟩
theorem rm_X10_76 : (.methodLink RX10 76 yX10_save) ∈ rd_T := List.mem_filter.mpr ⟨List.mem_of_getElem? (i := 808) (by decide +kernel), by decide +kernel⟩
theorem ri_X10_save : (.instanceMethod yX10_save) ∈ rd_T := List.mem_filter.mpr ⟨List.mem_of_getElem? (i := 810) (by decide +kernel), by decide +kernel⟩
theorem rc_X10_save : (.code yX10_save cX10_save 2 (Option.none : Option Jvm.ClassFile.FieldType)) ∈ rd_T := List.mem_filter.mpr ⟨List.mem_of_getElem? (i := 811) (by decide +kernel), by decide +kernel⟩
theorem rm_X10_72 : (.methodLink RX10 72 yX10_copies) ∈ rd_T := List.mem_filter.mpr ⟨List.mem_of_getElem? (i := 812) (by decide +kernel), by decide +kernel⟩
theorem ri_X10_copies : (.instanceMethod yX10_copies) ∈ rd_T := List.mem_filter.mpr ⟨List.mem_of_getElem? (i := 814) (by decide +kernel), by decide +kernel⟩
theorem rc_X10_copies : (.code yX10_copies cX10_copies 4 (Option.none : Option Jvm.ClassFile.FieldType)) ∈ rd_T := List.mem_filter.mpr ⟨List.mem_of_getElem? (i := 815) (by decide +kernel), by decide +kernel⟩
theorem rm_X10_26 : (.methodLink RX10 26 yX10_of) ∈ rd_T := List.mem_filter.mpr ⟨List.mem_of_getElem? (i := 816) (by decide +kernel), by decide +kernel⟩
theorem ri_X10_of : (.instanceMethod yX10_of) ∈ rd_T := List.mem_filter.mpr ⟨List.mem_of_getElem? (i := 818) (by decide +kernel), by decide +kernel⟩
theorem rc_X10_of : (.code yX10_of cX10_of 3 (Option.some Jvm.ClassFile.FieldType.int)) ∈ rd_T := List.mem_filter.mpr ⟨List.mem_of_getElem? (i := 819) (by decide +kernel), by decide +kernel⟩
theorem rm_X10_79 : (.methodLink RX10 79 yX10_lay) ∈ rd_T := List.mem_filter.mpr ⟨List.mem_of_getElem? (i := 820) (by decide +kernel), by decide +kernel⟩
theorem ri_X10_lay : (.instanceMethod yX10_lay) ∈ rd_T := List.mem_filter.mpr ⟨List.mem_of_getElem? (i := 822) (by decide +kernel), by decide +kernel⟩
theorem rc_X10_lay : (.code yX10_lay cX10_lay 4 (Option.none : Option Jvm.ClassFile.FieldType)) ∈ rd_T := List.mem_filter.mpr ⟨List.mem_of_getElem? (i := 823) (by decide +kernel), by decide +kernel⟩
theorem rm_L_22 : (.methodLink RL 22 yX10_removeSlide) ∈ rd_T := List.mem_filter.mpr ⟨List.mem_of_getElem? (i := 824) (by decide +kernel), by decide +kernel⟩
theorem ri_X10_removeSlide : (.instanceMethod yX10_removeSlide) ∈ rd_T := List.mem_filter.mpr ⟨List.mem_of_getElem? (i := 825) (by decide +kernel), by decide +kernel⟩
theorem rs_X10_removeSlide : (.selects RX10 yX10_removeSlide yX10_removeSlide) ∈ rd_T := List.mem_filter.mpr ⟨List.mem_of_getElem? (i := 826) (by decide +kernel), by decide +kernel⟩
theorem rc_X10_removeSlide : (.code yX10_removeSlide cX10_removeSlide 3 (Option.some Jvm.ClassFile.FieldType.int)) ∈ rd_T := List.mem_filter.mpr ⟨List.mem_of_getElem? (i := 827) (by decide +kernel), by decide +kernel⟩
theorem rm_X10_30 : (.methodLink RX10 30 yX10_isSlide) ∈ rd_T := List.mem_filter.mpr ⟨List.mem_of_getElem? (i := 828) (by decide +kernel), by decide +kernel⟩
theorem ri_X10_isSlide : (.instanceMethod yX10_isSlide) ∈ rd_T := List.mem_filter.mpr ⟨List.mem_of_getElem? (i := 830) (by decide +kernel), by decide +kernel⟩
theorem rc_X10_isSlide : (.code yX10_isSlide cX10_isSlide 2 (Option.some Jvm.ClassFile.FieldType.boolean)) ∈ rd_T := List.mem_filter.mpr ⟨List.mem_of_getElem? (i := 831) (by decide +kernel), by decide +kernel⟩
theorem rm_X10_22 : (.methodLink RX10 22 yX10_in) ∈ rd_T := List.mem_filter.mpr ⟨List.mem_of_getElem? (i := 832) (by decide +kernel), by decide +kernel⟩
theorem rt_X10_in : (.static yX10_in) ∈ rd_T := List.mem_filter.mpr ⟨List.mem_of_getElem? (i := 833) (by decide +kernel), by decide +kernel⟩
theorem rc_X10_in : (.code yX10_in cX10_in 3 (Option.some Jvm.ClassFile.FieldType.boolean)) ∈ rd_T := List.mem_filter.mpr ⟨List.mem_of_getElem? (i := 834) (by decide +kernel), by decide +kernel⟩
theorem rm_X10_82 : (.methodLink RX10 82 yX10_takesOut) ∈ rd_T := List.mem_filter.mpr ⟨List.mem_of_getElem? (i := 835) (by decide +kernel), by decide +kernel⟩
theorem ri_X10_takesOut : (.instanceMethod yX10_takesOut) ∈ rd_T := List.mem_filter.mpr ⟨List.mem_of_getElem? (i := 837) (by decide +kernel), by decide +kernel⟩
theorem rc_X10_takesOut : (.code yX10_takesOut cX10_takesOut 4 (Option.some Jvm.ClassFile.FieldType.int)) ∈ rd_T := List.mem_filter.mpr ⟨List.mem_of_getElem? (i := 838) (by decide +kernel), by decide +kernel⟩
theorem rm_X10_37 : (.methodLink RX10 37 yX10_placeOf) ∈ rd_T := List.mem_filter.mpr ⟨List.mem_of_getElem? (i := 839) (by decide +kernel), by decide +kernel⟩
theorem ri_X10_placeOf : (.instanceMethod yX10_placeOf) ∈ rd_T := List.mem_filter.mpr ⟨List.mem_of_getElem? (i := 841) (by decide +kernel), by decide +kernel⟩
theorem rc_X10_placeOf : (.code yX10_placeOf cX10_placeOf 3 (Option.some Jvm.ClassFile.FieldType.int)) ∈ rd_T := List.mem_filter.mpr ⟨List.mem_of_getElem? (i := 842) (by decide +kernel), by decide +kernel⟩
theorem rm_L_27 : (.methodLink RL 27 yX10_moveSlide) ∈ rd_T := List.mem_filter.mpr ⟨List.mem_of_getElem? (i := 843) (by decide +kernel), by decide +kernel⟩
theorem ri_X10_moveSlide : (.instanceMethod yX10_moveSlide) ∈ rd_T := List.mem_filter.mpr ⟨List.mem_of_getElem? (i := 844) (by decide +kernel), by decide +kernel⟩
theorem rs_X10_moveSlide : (.selects RX10 yX10_moveSlide yX10_moveSlide) ∈ rd_T := List.mem_filter.mpr ⟨List.mem_of_getElem? (i := 845) (by decide +kernel), by decide +kernel⟩
theorem rc_X10_moveSlide : (.code yX10_moveSlide cX10_moveSlide 5 (Option.some Jvm.ClassFile.FieldType.int)) ∈ rd_T := List.mem_filter.mpr ⟨List.mem_of_getElem? (i := 846) (by decide +kernel), by decide +kernel⟩
theorem rm_L_32 : (.methodLink RL 32 yX10_hide) ∈ rd_T := List.mem_filter.mpr ⟨List.mem_of_getElem? (i := 847) (by decide +kernel), by decide +kernel⟩
theorem ri_X10_hide : (.instanceMethod yX10_hide) ∈ rd_T := List.mem_filter.mpr ⟨List.mem_of_getElem? (i := 848) (by decide +kernel), by decide +kernel⟩
theorem rs_X10_hide : (.selects RX10 yX10_hide yX10_hide) ∈ rd_T := List.mem_filter.mpr ⟨List.mem_of_getElem? (i := 849) (by decide +kernel), by decide +kernel⟩
theorem rc_X10_hide : (.code yX10_hide cX10_hide 5 (Option.some Jvm.ClassFile.FieldType.int)) ∈ rd_T := List.mem_filter.mpr ⟨List.mem_of_getElem? (i := 850) (by decide +kernel), by decide +kernel⟩
theorem rm_L_36 : (.methodLink RL 36 yX10_setPause) ∈ rd_T := List.mem_filter.mpr ⟨List.mem_of_getElem? (i := 851) (by decide +kernel), by decide +kernel⟩
theorem ri_X10_setPause : (.instanceMethod yX10_setPause) ∈ rd_T := List.mem_filter.mpr ⟨List.mem_of_getElem? (i := 852) (by decide +kernel), by decide +kernel⟩
theorem rs_X10_setPause : (.selects RX10 yX10_setPause yX10_setPause) ∈ rd_T := List.mem_filter.mpr ⟨List.mem_of_getElem? (i := 853) (by decide +kernel), by decide +kernel⟩
theorem rc_X10_setPause : (.code yX10_setPause cX10_setPause 4 (Option.some Jvm.ClassFile.FieldType.int)) ∈ rd_T := List.mem_filter.mpr ⟨List.mem_of_getElem? (i := 854) (by decide +kernel), by decide +kernel⟩
theorem rm_L_41 : (.methodLink RL 41 yX10_addItem) ∈ rd_T := List.mem_filter.mpr ⟨List.mem_of_getElem? (i := 855) (by decide +kernel), by decide +kernel⟩
theorem ri_X10_addItem : (.instanceMethod yX10_addItem) ∈ rd_T := List.mem_filter.mpr ⟨List.mem_of_getElem? (i := 856) (by decide +kernel), by decide +kernel⟩
theorem rs_X10_addItem : (.selects RX10 yX10_addItem yX10_addItem) ∈ rd_T := List.mem_filter.mpr ⟨List.mem_of_getElem? (i := 857) (by decide +kernel), by decide +kernel⟩
theorem rc_X10_addItem : (.code yX10_addItem cX10_addItem 7 (Option.some Jvm.ClassFile.FieldType.int)) ∈ rd_T := List.mem_filter.mpr ⟨List.mem_of_getElem? (i := 858) (by decide +kernel), by decide +kernel⟩
theorem rm_L_45 : (.methodLink RL 45 yX10_removeItem) ∈ rd_T := List.mem_filter.mpr ⟨List.mem_of_getElem? (i := 859) (by decide +kernel), by decide +kernel⟩
theorem ri_X10_removeItem : (.instanceMethod yX10_removeItem) ∈ rd_T := List.mem_filter.mpr ⟨List.mem_of_getElem? (i := 860) (by decide +kernel), by decide +kernel⟩
theorem rs_X10_removeItem : (.selects RX10 yX10_removeItem yX10_removeItem) ∈ rd_T := List.mem_filter.mpr ⟨List.mem_of_getElem? (i := 861) (by decide +kernel), by decide +kernel⟩
theorem rc_X10_removeItem : (.code yX10_removeItem cX10_removeItem 5 (Option.some Jvm.ClassFile.FieldType.int)) ∈ rd_T := List.mem_filter.mpr ⟨List.mem_of_getElem? (i := 862) (by decide +kernel), by decide +kernel⟩
theorem rm_X10_85 : (.methodLink RX10 85 yX10_isItem) ∈ rd_T := List.mem_filter.mpr ⟨List.mem_of_getElem? (i := 863) (by decide +kernel), by decide +kernel⟩
theorem ri_X10_isItem : (.instanceMethod yX10_isItem) ∈ rd_T := List.mem_filter.mpr ⟨List.mem_of_getElem? (i := 865) (by decide +kernel), by decide +kernel⟩
theorem rc_X10_isItem : (.code yX10_isItem cX10_isItem 3 (Option.some Jvm.ClassFile.FieldType.boolean)) ∈ rd_T := List.mem_filter.mpr ⟨List.mem_of_getElem? (i := 866) (by decide +kernel), by decide +kernel⟩
theorem rm_X10_48 : (.methodLink RX10 48 yX10_finalStep) ∈ rd_T := List.mem_filter.mpr ⟨List.mem_of_getElem? (i := 867) (by decide +kernel), by decide +kernel⟩
theorem ri_X10_finalStep : (.instanceMethod yX10_finalStep) ∈ rd_T := List.mem_filter.mpr ⟨List.mem_of_getElem? (i := 869) (by decide +kernel), by decide +kernel⟩
theorem rc_X10_finalStep : (.code yX10_finalStep cX10_finalStep 6 (Option.some Jvm.ClassFile.FieldType.int)) ∈ rd_T := List.mem_filter.mpr ⟨List.mem_of_getElem? (i := 870) (by decide +kernel), by decide +kernel⟩
theorem rm_L_50 : (.methodLink RL 50 yX10_link) ∈ rd_T := List.mem_filter.mpr ⟨List.mem_of_getElem? (i := 871) (by decide +kernel), by decide +kernel⟩
theorem ri_X10_link : (.instanceMethod yX10_link) ∈ rd_T := List.mem_filter.mpr ⟨List.mem_of_getElem? (i := 872) (by decide +kernel), by decide +kernel⟩
theorem rs_X10_link : (.selects RX10 yX10_link yX10_link) ∈ rd_T := List.mem_filter.mpr ⟨List.mem_of_getElem? (i := 873) (by decide +kernel), by decide +kernel⟩
theorem rc_X10_link : (.code yX10_link cX10_link 4 (Option.some Jvm.ClassFile.FieldType.int)) ∈ rd_T := List.mem_filter.mpr ⟨List.mem_of_getElem? (i := 874) (by decide +kernel), by decide +kernel⟩
theorem rm_X10_89 : (.methodLink RX10 89 yX10_isKey) ∈ rd_T := List.mem_filter.mpr ⟨List.mem_of_getElem? (i := 875) (by decide +kernel), by decide +kernel⟩
theorem ri_X10_isKey : (.instanceMethod yX10_isKey) ∈ rd_T := List.mem_filter.mpr ⟨List.mem_of_getElem? (i := 877) (by decide +kernel), by decide +kernel⟩
theorem rc_X10_isKey : (.code yX10_isKey cX10_isKey 2 (Option.some Jvm.ClassFile.FieldType.boolean)) ∈ rd_T := List.mem_filter.mpr ⟨List.mem_of_getElem? (i := 878) (by decide +kernel), by decide +kernel⟩
theorem rm_X10_92 : (.methodLink RX10 92 yX10_links) ∈ rd_T := List.mem_filter.mpr ⟨List.mem_of_getElem? (i := 879) (by decide +kernel), by decide +kernel⟩
theorem ri_X10_links : (.instanceMethod yX10_links) ∈ rd_T := List.mem_filter.mpr ⟨List.mem_of_getElem? (i := 881) (by decide +kernel), by decide +kernel⟩
theorem rc_X10_links : (.code yX10_links cX10_links 4 (Option.some Jvm.ClassFile.FieldType.int)) ∈ rd_T := List.mem_filter.mpr ⟨List.mem_of_getElem? (i := 882) (by decide +kernel), by decide +kernel⟩
theorem rm_L_54 : (.methodLink RL 54 yX10_unlink) ∈ rd_T := List.mem_filter.mpr ⟨List.mem_of_getElem? (i := 883) (by decide +kernel), by decide +kernel⟩
theorem ri_X10_unlink : (.instanceMethod yX10_unlink) ∈ rd_T := List.mem_filter.mpr ⟨List.mem_of_getElem? (i := 884) (by decide +kernel), by decide +kernel⟩
theorem rs_X10_unlink : (.selects RX10 yX10_unlink yX10_unlink) ∈ rd_T := List.mem_filter.mpr ⟨List.mem_of_getElem? (i := 885) (by decide +kernel), by decide +kernel⟩
theorem rc_X10_unlink : (.code yX10_unlink cX10_unlink 3 (Option.some Jvm.ClassFile.FieldType.int)) ∈ rd_T := List.mem_filter.mpr ⟨List.mem_of_getElem? (i := 886) (by decide +kernel), by decide +kernel⟩
theorem rm_L_58 : (.methodLink RL 58 yX10_note) ∈ rd_T := List.mem_filter.mpr ⟨List.mem_of_getElem? (i := 887) (by decide +kernel), by decide +kernel⟩
theorem ri_X10_note : (.instanceMethod yX10_note) ∈ rd_T := List.mem_filter.mpr ⟨List.mem_of_getElem? (i := 888) (by decide +kernel), by decide +kernel⟩
theorem rs_X10_note : (.selects RX10 yX10_note yX10_note) ∈ rd_T := List.mem_filter.mpr ⟨List.mem_of_getElem? (i := 889) (by decide +kernel), by decide +kernel⟩
theorem rc_X10_note : (.code yX10_note cX10_note 4 (Option.some Jvm.ClassFile.FieldType.int)) ∈ rd_T := List.mem_filter.mpr ⟨List.mem_of_getElem? (i := 890) (by decide +kernel), by decide +kernel⟩
theorem rm_X10_95 : (.methodLink RX10 95 yX10_notePlace) ∈ rd_T := List.mem_filter.mpr ⟨List.mem_of_getElem? (i := 891) (by decide +kernel), by decide +kernel⟩
theorem ri_X10_notePlace : (.instanceMethod yX10_notePlace) ∈ rd_T := List.mem_filter.mpr ⟨List.mem_of_getElem? (i := 893) (by decide +kernel), by decide +kernel⟩
theorem rc_X10_notePlace : (.code yX10_notePlace cX10_notePlace 3 (Option.some Jvm.ClassFile.FieldType.int)) ∈ rd_T := List.mem_filter.mpr ⟨List.mem_of_getElem? (i := 894) (by decide +kernel), by decide +kernel⟩
theorem rm_L_62 : (.methodLink RL 62 yX10_setEnd) ∈ rd_T := List.mem_filter.mpr ⟨List.mem_of_getElem? (i := 895) (by decide +kernel), by decide +kernel⟩
theorem ri_X10_setEnd : (.instanceMethod yX10_setEnd) ∈ rd_T := List.mem_filter.mpr ⟨List.mem_of_getElem? (i := 896) (by decide +kernel), by decide +kernel⟩
theorem rs_X10_setEnd : (.selects RX10 yX10_setEnd yX10_setEnd) ∈ rd_T := List.mem_filter.mpr ⟨List.mem_of_getElem? (i := 897) (by decide +kernel), by decide +kernel⟩
theorem rc_X10_setEnd : (.code yX10_setEnd cX10_setEnd 3 (Option.some Jvm.ClassFile.FieldType.int)) ∈ rd_T := List.mem_filter.mpr ⟨List.mem_of_getElem? (i := 898) (by decide +kernel), by decide +kernel⟩
theorem rm_L_66 : (.methodLink RL 66 yX10_start) ∈ rd_T := List.mem_filter.mpr ⟨List.mem_of_getElem? (i := 899) (by decide +kernel), by decide +kernel⟩
theorem ri_X10_start : (.instanceMethod yX10_start) ∈ rd_T := List.mem_filter.mpr ⟨List.mem_of_getElem? (i := 900) (by decide +kernel), by decide +kernel⟩
theorem rs_X10_start : (.selects RX10 yX10_start yX10_start) ∈ rd_T := List.mem_filter.mpr ⟨List.mem_of_getElem? (i := 901) (by decide +kernel), by decide +kernel⟩
theorem rc_X10_start : (.code yX10_start cX10_start 2 (Option.some Jvm.ClassFile.FieldType.int)) ∈ rd_T := List.mem_filter.mpr ⟨List.mem_of_getElem? (i := 902) (by decide +kernel), by decide +kernel⟩
theorem rm_X10_41 : (.methodLink RX10 41 yX10_shownFrom) ∈ rd_T := List.mem_filter.mpr ⟨List.mem_of_getElem? (i := 903) (by decide +kernel), by decide +kernel⟩
theorem ri_X10_shownFrom : (.instanceMethod yX10_shownFrom) ∈ rd_T := List.mem_filter.mpr ⟨List.mem_of_getElem? (i := 905) (by decide +kernel), by decide +kernel⟩
theorem rc_X10_shownFrom : (.code yX10_shownFrom cX10_shownFrom 3 (Option.some Jvm.ClassFile.FieldType.int)) ∈ rd_T := List.mem_filter.mpr ⟨List.mem_of_getElem? (i := 906) (by decide +kernel), by decide +kernel⟩
theorem rm_X10_34 : (.methodLink RX10 34 yX10_isShown) ∈ rd_T := List.mem_filter.mpr ⟨List.mem_of_getElem? (i := 907) (by decide +kernel), by decide +kernel⟩
theorem ri_X10_isShown : (.instanceMethod yX10_isShown) ∈ rd_T := List.mem_filter.mpr ⟨List.mem_of_getElem? (i := 909) (by decide +kernel), by decide +kernel⟩
theorem rc_X10_isShown : (.code yX10_isShown cX10_isShown 2 (Option.some Jvm.ClassFile.FieldType.boolean)) ∈ rd_T := List.mem_filter.mpr ⟨List.mem_of_getElem? (i := 910) (by decide +kernel), by decide +kernel⟩
theorem rm_L_70 : (.methodLink RL 70 yX10_stop) ∈ rd_T := List.mem_filter.mpr ⟨List.mem_of_getElem? (i := 911) (by decide +kernel), by decide +kernel⟩
theorem ri_X10_stop : (.instanceMethod yX10_stop) ∈ rd_T := List.mem_filter.mpr ⟨List.mem_of_getElem? (i := 912) (by decide +kernel), by decide +kernel⟩
theorem rs_X10_stop : (.selects RX10 yX10_stop yX10_stop) ∈ rd_T := List.mem_filter.mpr ⟨List.mem_of_getElem? (i := 913) (by decide +kernel), by decide +kernel⟩
theorem rc_X10_stop : (.code yX10_stop cX10_stop 1 (Option.some Jvm.ClassFile.FieldType.int)) ∈ rd_T := List.mem_filter.mpr ⟨List.mem_of_getElem? (i := 914) (by decide +kernel), by decide +kernel⟩
theorem rm_L_74 : (.methodLink RL 74 yX10_forward) ∈ rd_T := List.mem_filter.mpr ⟨List.mem_of_getElem? (i := 915) (by decide +kernel), by decide +kernel⟩
theorem ri_X10_forward : (.instanceMethod yX10_forward) ∈ rd_T := List.mem_filter.mpr ⟨List.mem_of_getElem? (i := 916) (by decide +kernel), by decide +kernel⟩
theorem rs_X10_forward : (.selects RX10 yX10_forward yX10_forward) ∈ rd_T := List.mem_filter.mpr ⟨List.mem_of_getElem? (i := 917) (by decide +kernel), by decide +kernel⟩
theorem rc_X10_forward : (.code yX10_forward cX10_forward 1 (Option.some Jvm.ClassFile.FieldType.int)) ∈ rd_T := List.mem_filter.mpr ⟨List.mem_of_getElem? (i := 918) (by decide +kernel), by decide +kernel⟩
theorem rm_X10_98 : (.methodLink RX10 98 yX10_isOn) ∈ rd_T := List.mem_filter.mpr ⟨List.mem_of_getElem? (i := 919) (by decide +kernel), by decide +kernel⟩
theorem ri_X10_isOn : (.instanceMethod yX10_isOn) ∈ rd_T := List.mem_filter.mpr ⟨List.mem_of_getElem? (i := 921) (by decide +kernel), by decide +kernel⟩
theorem rc_X10_isOn : (.code yX10_isOn cX10_isOn 1 (Option.some Jvm.ClassFile.FieldType.boolean)) ∈ rd_T := List.mem_filter.mpr ⟨List.mem_of_getElem? (i := 922) (by decide +kernel), by decide +kernel⟩
theorem rm_X10_44 : (.methodLink RX10 44 yX10_isOver) ∈ rd_T := List.mem_filter.mpr ⟨List.mem_of_getElem? (i := 923) (by decide +kernel), by decide +kernel⟩
theorem ri_X10_isOver : (.instanceMethod yX10_isOver) ∈ rd_T := List.mem_filter.mpr ⟨List.mem_of_getElem? (i := 925) (by decide +kernel), by decide +kernel⟩
theorem rc_X10_isOver : (.code yX10_isOver cX10_isOver 1 (Option.some Jvm.ClassFile.FieldType.boolean)) ∈ rd_T := List.mem_filter.mpr ⟨List.mem_of_getElem? (i := 926) (by decide +kernel), by decide +kernel⟩
theorem rm_X10_62 : (.methodLink RX10 62 yX10_canForward) ∈ rd_T := List.mem_filter.mpr ⟨List.mem_of_getElem? (i := 927) (by decide +kernel), by decide +kernel⟩
theorem ri_X10_canForward : (.instanceMethod yX10_canForward) ∈ rd_T := List.mem_filter.mpr ⟨List.mem_of_getElem? (i := 929) (by decide +kernel), by decide +kernel⟩
theorem rc_X10_canForward : (.code yX10_canForward cX10_canForward 1 (Option.some Jvm.ClassFile.FieldType.boolean)) ∈ rd_T := List.mem_filter.mpr ⟨List.mem_of_getElem? (i := 930) (by decide +kernel), by decide +kernel⟩
theorem rm_X10_51 : (.methodLink RX10 51 yX10_nextOf) ∈ rd_T := List.mem_filter.mpr ⟨List.mem_of_getElem? (i := 931) (by decide +kernel), by decide +kernel⟩
theorem ri_X10_nextOf : (.instanceMethod yX10_nextOf) ∈ rd_T := List.mem_filter.mpr ⟨List.mem_of_getElem? (i := 933) (by decide +kernel), by decide +kernel⟩
theorem rc_X10_nextOf : (.code yX10_nextOf cX10_nextOf 2 (Option.some Jvm.ClassFile.FieldType.int)) ∈ rd_T := List.mem_filter.mpr ⟨List.mem_of_getElem? (i := 934) (by decide +kernel), by decide +kernel⟩
theorem rm_X10_65 : (.methodLink RX10 65 yX10_forwards) ∈ rd_T := List.mem_filter.mpr ⟨List.mem_of_getElem? (i := 935) (by decide +kernel), by decide +kernel⟩
theorem ri_X10_forwards : (.instanceMethod yX10_forwards) ∈ rd_T := List.mem_filter.mpr ⟨List.mem_of_getElem? (i := 937) (by decide +kernel), by decide +kernel⟩
theorem rc_X10_forwards : (.code yX10_forwards cX10_forwards 1 (Option.some Jvm.ClassFile.FieldType.int)) ∈ rd_T := List.mem_filter.mpr ⟨List.mem_of_getElem? (i := 938) (by decide +kernel), by decide +kernel⟩
theorem rm_X10_54 : (.methodLink RX10 54 yX10_comes) ∈ rd_T := List.mem_filter.mpr ⟨List.mem_of_getElem? (i := 939) (by decide +kernel), by decide +kernel⟩
theorem ri_X10_comes : (.instanceMethod yX10_comes) ∈ rd_T := List.mem_filter.mpr ⟨List.mem_of_getElem? (i := 941) (by decide +kernel), by decide +kernel⟩
theorem rc_X10_comes : (.code yX10_comes cX10_comes 5 (Option.none : Option Jvm.ClassFile.FieldType)) ∈ rd_T := List.mem_filter.mpr ⟨List.mem_of_getElem? (i := 942) (by decide +kernel), by decide +kernel⟩
theorem rm_L_78 : (.methodLink RL 78 yX10_back) ∈ rd_T := List.mem_filter.mpr ⟨List.mem_of_getElem? (i := 943) (by decide +kernel), by decide +kernel⟩
theorem ri_X10_back : (.instanceMethod yX10_back) ∈ rd_T := List.mem_filter.mpr ⟨List.mem_of_getElem? (i := 944) (by decide +kernel), by decide +kernel⟩
theorem rs_X10_back : (.selects RX10 yX10_back yX10_back) ∈ rd_T := List.mem_filter.mpr ⟨List.mem_of_getElem? (i := 945) (by decide +kernel), by decide +kernel⟩
theorem rc_X10_back : (.code yX10_back cX10_back 1 (Option.some Jvm.ClassFile.FieldType.int)) ∈ rd_T := List.mem_filter.mpr ⟨List.mem_of_getElem? (i := 946) (by decide +kernel), by decide +kernel⟩
theorem rm_X10_58 : (.methodLink RX10 58 yX10_backPlace) ∈ rd_T := List.mem_filter.mpr ⟨List.mem_of_getElem? (i := 947) (by decide +kernel), by decide +kernel⟩
theorem ri_X10_backPlace : (.instanceMethod yX10_backPlace) ∈ rd_T := List.mem_filter.mpr ⟨List.mem_of_getElem? (i := 949) (by decide +kernel), by decide +kernel⟩
theorem rc_X10_backPlace : (.code yX10_backPlace cX10_backPlace 3 (Option.some Jvm.ClassFile.FieldType.int)) ∈ rd_T := List.mem_filter.mpr ⟨List.mem_of_getElem? (i := 950) (by decide +kernel), by decide +kernel⟩
theorem rm_X10_101 : (.methodLink RX10 101 yX10_backs) ∈ rd_T := List.mem_filter.mpr ⟨List.mem_of_getElem? (i := 951) (by decide +kernel), by decide +kernel⟩
theorem ri_X10_backs : (.instanceMethod yX10_backs) ∈ rd_T := List.mem_filter.mpr ⟨List.mem_of_getElem? (i := 953) (by decide +kernel), by decide +kernel⟩
theorem rc_X10_backs : (.code yX10_backs cX10_backs 3 (Option.some Jvm.ClassFile.FieldType.int)) ∈ rd_T := List.mem_filter.mpr ⟨List.mem_of_getElem? (i := 954) (by decide +kernel), by decide +kernel⟩
theorem rm_L_82 : (.methodLink RL 82 yX10_press) ∈ rd_T := List.mem_filter.mpr ⟨List.mem_of_getElem? (i := 955) (by decide +kernel), by decide +kernel⟩
theorem ri_X10_press : (.instanceMethod yX10_press) ∈ rd_T := List.mem_filter.mpr ⟨List.mem_of_getElem? (i := 956) (by decide +kernel), by decide +kernel⟩
theorem rs_X10_press : (.selects RX10 yX10_press yX10_press) ∈ rd_T := List.mem_filter.mpr ⟨List.mem_of_getElem? (i := 957) (by decide +kernel), by decide +kernel⟩
theorem rc_X10_press : (.code yX10_press cX10_press 2 (Option.some Jvm.ClassFile.FieldType.int)) ∈ rd_T := List.mem_filter.mpr ⟨List.mem_of_getElem? (i := 958) (by decide +kernel), by decide +kernel⟩
theorem rm_X10_104 : (.methodLink RX10 104 yX10_canPress) ∈ rd_T := List.mem_filter.mpr ⟨List.mem_of_getElem? (i := 959) (by decide +kernel), by decide +kernel⟩
theorem ri_X10_canPress : (.instanceMethod yX10_canPress) ∈ rd_T := List.mem_filter.mpr ⟨List.mem_of_getElem? (i := 961) (by decide +kernel), by decide +kernel⟩
theorem rc_X10_canPress : (.code yX10_canPress cX10_canPress 2 (Option.some Jvm.ClassFile.FieldType.boolean)) ∈ rd_T := List.mem_filter.mpr ⟨List.mem_of_getElem? (i := 962) (by decide +kernel), by decide +kernel⟩
theorem rm_X10_107 : (.methodLink RX10 107 yX10_presses) ∈ rd_T := List.mem_filter.mpr ⟨List.mem_of_getElem? (i := 963) (by decide +kernel), by decide +kernel⟩
theorem ri_X10_presses : (.instanceMethod yX10_presses) ∈ rd_T := List.mem_filter.mpr ⟨List.mem_of_getElem? (i := 965) (by decide +kernel), by decide +kernel⟩
theorem rc_X10_presses : (.code yX10_presses cX10_presses 2 (Option.some Jvm.ClassFile.FieldType.int)) ∈ rd_T := List.mem_filter.mpr ⟨List.mem_of_getElem? (i := 966) (by decide +kernel), by decide +kernel⟩
theorem rm_L_86 : (.methodLink RL 86 yX10_tick) ∈ rd_T := List.mem_filter.mpr ⟨List.mem_of_getElem? (i := 967) (by decide +kernel), by decide +kernel⟩
theorem ri_X10_tick : (.instanceMethod yX10_tick) ∈ rd_T := List.mem_filter.mpr ⟨List.mem_of_getElem? (i := 968) (by decide +kernel), by decide +kernel⟩
theorem rs_X10_tick : (.selects RX10 yX10_tick yX10_tick) ∈ rd_T := List.mem_filter.mpr ⟨List.mem_of_getElem? (i := 969) (by decide +kernel), by decide +kernel⟩
theorem rc_X10_tick : (.code yX10_tick cX10_tick 2 (Option.some Jvm.ClassFile.FieldType.int)) ∈ rd_T := List.mem_filter.mpr ⟨List.mem_of_getElem? (i := 970) (by decide +kernel), by decide +kernel⟩
theorem rm_X10_110 : (.methodLink RX10 110 yX10_ticks) ∈ rd_T := List.mem_filter.mpr ⟨List.mem_of_getElem? (i := 971) (by decide +kernel), by decide +kernel⟩
theorem ri_X10_ticks : (.instanceMethod yX10_ticks) ∈ rd_T := List.mem_filter.mpr ⟨List.mem_of_getElem? (i := 973) (by decide +kernel), by decide +kernel⟩
theorem rc_X10_ticks : (.code yX10_ticks cX10_ticks 5 (Option.some Jvm.ClassFile.FieldType.int)) ∈ rd_T := List.mem_filter.mpr ⟨List.mem_of_getElem? (i := 974) (by decide +kernel), by decide +kernel⟩
theorem rm_L_90 : (.methodLink RL 90 yX10_append) ∈ rd_T := List.mem_filter.mpr ⟨List.mem_of_getElem? (i := 975) (by decide +kernel), by decide +kernel⟩
theorem ri_X10_append : (.instanceMethod yX10_append) ∈ rd_T := List.mem_filter.mpr ⟨List.mem_of_getElem? (i := 976) (by decide +kernel), by decide +kernel⟩
theorem rs_X10_append : (.selects RX10 yX10_append yX10_append) ∈ rd_T := List.mem_filter.mpr ⟨List.mem_of_getElem? (i := 977) (by decide +kernel), by decide +kernel⟩
theorem rc_X10_append : (.code yX10_append cX10_append 2 (Option.some Jvm.ClassFile.FieldType.int)) ∈ rd_T := List.mem_filter.mpr ⟨List.mem_of_getElem? (i := 978) (by decide +kernel), by decide +kernel⟩
theorem rm_L_94 : (.methodLink RL 94 yX10_clearText) ∈ rd_T := List.mem_filter.mpr ⟨List.mem_of_getElem? (i := 979) (by decide +kernel), by decide +kernel⟩
theorem ri_X10_clearText : (.instanceMethod yX10_clearText) ∈ rd_T := List.mem_filter.mpr ⟨List.mem_of_getElem? (i := 980) (by decide +kernel), by decide +kernel⟩
theorem rs_X10_clearText : (.selects RX10 yX10_clearText yX10_clearText) ∈ rd_T := List.mem_filter.mpr ⟨List.mem_of_getElem? (i := 981) (by decide +kernel), by decide +kernel⟩
theorem rc_X10_clearText : (.code yX10_clearText cX10_clearText 2 (Option.some Jvm.ClassFile.FieldType.int)) ∈ rd_T := List.mem_filter.mpr ⟨List.mem_of_getElem? (i := 982) (by decide +kernel), by decide +kernel⟩
theorem rm_L_98 : (.methodLink RL 98 yX10_fault) ∈ rd_T := List.mem_filter.mpr ⟨List.mem_of_getElem? (i := 983) (by decide +kernel), by decide +kernel⟩
theorem ri_X10_fault : (.instanceMethod yX10_fault) ∈ rd_T := List.mem_filter.mpr ⟨List.mem_of_getElem? (i := 984) (by decide +kernel), by decide +kernel⟩
theorem rs_X10_fault : (.selects RX10 yX10_fault yX10_fault) ∈ rd_T := List.mem_filter.mpr ⟨List.mem_of_getElem? (i := 985) (by decide +kernel), by decide +kernel⟩
theorem rc_X10_fault : (.code yX10_fault cX10_fault 1 (Option.some Jvm.ClassFile.FieldType.int)) ∈ rd_T := List.mem_filter.mpr ⟨List.mem_of_getElem? (i := 986) (by decide +kernel), by decide +kernel⟩
theorem rm_X10_134 : (.methodLink RX10 134 yX10_isText) ∈ rd_T := List.mem_filter.mpr ⟨List.mem_of_getElem? (i := 987) (by decide +kernel), by decide +kernel⟩
theorem ri_X10_isText : (.instanceMethod yX10_isText) ∈ rd_T := List.mem_filter.mpr ⟨List.mem_of_getElem? (i := 989) (by decide +kernel), by decide +kernel⟩
theorem rc_X10_isText : (.code yX10_isText cX10_isText 1 (Option.some Jvm.ClassFile.FieldType.boolean)) ∈ rd_T := List.mem_filter.mpr ⟨List.mem_of_getElem? (i := 990) (by decide +kernel), by decide +kernel⟩
theorem rm_X10_131 : (.methodLink RX10 131 yX10_readsMove) ∈ rd_T := List.mem_filter.mpr ⟨List.mem_of_getElem? (i := 991) (by decide +kernel), by decide +kernel⟩
theorem ri_X10_readsMove : (.instanceMethod yX10_readsMove) ∈ rd_T := List.mem_filter.mpr ⟨List.mem_of_getElem? (i := 993) (by decide +kernel), by decide +kernel⟩
theorem rc_X10_readsMove : (.code yX10_readsMove cX10_readsMove 2 (Option.some Jvm.ClassFile.FieldType.boolean)) ∈ rd_T := List.mem_filter.mpr ⟨List.mem_of_getElem? (i := 994) (by decide +kernel), by decide +kernel⟩
theorem rm_X10_119 : (.methodLink RX10 119 yX10_sign) ∈ rd_T := List.mem_filter.mpr ⟨List.mem_of_getElem? (i := 995) (by decide +kernel), by decide +kernel⟩
theorem ri_X10_sign : (.instanceMethod yX10_sign) ∈ rd_T := List.mem_filter.mpr ⟨List.mem_of_getElem? (i := 997) (by decide +kernel), by decide +kernel⟩
theorem rc_X10_sign : (.code yX10_sign cX10_sign 1 (Option.some Jvm.ClassFile.FieldType.int)) ∈ rd_T := List.mem_filter.mpr ⟨List.mem_of_getElem? (i := 998) (by decide +kernel), by decide +kernel⟩
theorem rm_X10_125 : (.methodLink RX10 125 yX10_takes) ∈ rd_T := List.mem_filter.mpr ⟨List.mem_of_getElem? (i := 999) (by decide +kernel), by decide +kernel⟩
theorem ri_X10_takes : (.instanceMethod yX10_takes) ∈ rd_T := List.mem_filter.mpr ⟨List.mem_of_getElem? (i := 1001) (by decide +kernel), by decide +kernel⟩
theorem rc_X10_takes : (.code yX10_takes cX10_takes 3 (Option.some Jvm.ClassFile.FieldType.boolean)) ∈ rd_T := List.mem_filter.mpr ⟨List.mem_of_getElem? (i := 1002) (by decide +kernel), by decide +kernel⟩
theorem rm_L_102 : (.methodLink RL 102 yX10_run) ∈ rd_T := List.mem_filter.mpr ⟨List.mem_of_getElem? (i := 1003) (by decide +kernel), by decide +kernel⟩
theorem ri_X10_run : (.instanceMethod yX10_run) ∈ rd_T := List.mem_filter.mpr ⟨List.mem_of_getElem? (i := 1004) (by decide +kernel), by decide +kernel⟩
theorem rs_X10_run : (.selects RX10 yX10_run yX10_run) ∈ rd_T := List.mem_filter.mpr ⟨List.mem_of_getElem? (i := 1005) (by decide +kernel), by decide +kernel⟩
theorem rc_X10_run : (.code yX10_run cX10_run 5 (Option.some Jvm.ClassFile.FieldType.int)) ∈ rd_T := List.mem_filter.mpr ⟨List.mem_of_getElem? (i := 1006) (by decide +kernel), by decide +kernel⟩
theorem rm_X10_137 : (.methodLink RX10 137 yX10_isMade) ∈ rd_T := List.mem_filter.mpr ⟨List.mem_of_getElem? (i := 1007) (by decide +kernel), by decide +kernel⟩
theorem ri_X10_isMade : (.instanceMethod yX10_isMade) ∈ rd_T := List.mem_filter.mpr ⟨List.mem_of_getElem? (i := 1009) (by decide +kernel), by decide +kernel⟩
theorem rc_X10_isMade : (.code yX10_isMade cX10_isMade 1 (Option.some Jvm.ClassFile.FieldType.boolean)) ∈ rd_T := List.mem_filter.mpr ⟨List.mem_of_getElem? (i := 1010) (by decide +kernel), by decide +kernel⟩
theorem rm_L_106 : (.methodLink RL 106 yX10_why) ∈ rd_T := List.mem_filter.mpr ⟨List.mem_of_getElem? (i := 1011) (by decide +kernel), by decide +kernel⟩
theorem ri_X10_why : (.instanceMethod yX10_why) ∈ rd_T := List.mem_filter.mpr ⟨List.mem_of_getElem? (i := 1012) (by decide +kernel), by decide +kernel⟩
theorem rs_X10_why : (.selects RX10 yX10_why yX10_why) ∈ rd_T := List.mem_filter.mpr ⟨List.mem_of_getElem? (i := 1013) (by decide +kernel), by decide +kernel⟩
theorem rc_X10_why : (.code yX10_why cX10_why 2 (Option.some Jvm.ClassFile.FieldType.int)) ∈ rd_T := List.mem_filter.mpr ⟨List.mem_of_getElem? (i := 1014) (by decide +kernel), by decide +kernel⟩
theorem rm_L_110 : (.methodLink RL 110 yX10_undo) ∈ rd_T := List.mem_filter.mpr ⟨List.mem_of_getElem? (i := 1015) (by decide +kernel), by decide +kernel⟩
theorem ri_X10_undo : (.instanceMethod yX10_undo) ∈ rd_T := List.mem_filter.mpr ⟨List.mem_of_getElem? (i := 1016) (by decide +kernel), by decide +kernel⟩
theorem rs_X10_undo : (.selects RX10 yX10_undo yX10_undo) ∈ rd_T := List.mem_filter.mpr ⟨List.mem_of_getElem? (i := 1017) (by decide +kernel), by decide +kernel⟩
theorem rc_X10_undo : (.code yX10_undo cX10_undo 1 (Option.some Jvm.ClassFile.FieldType.int)) ∈ rd_T := List.mem_filter.mpr ⟨List.mem_of_getElem? (i := 1018) (by decide +kernel), by decide +kernel⟩
theorem rm_L_114 : (.methodLink RL 114 yX10_slides) ∈ rd_T := List.mem_filter.mpr ⟨List.mem_of_getElem? (i := 1019) (by decide +kernel), by decide +kernel⟩
theorem ri_X10_slides : (.instanceMethod yX10_slides) ∈ rd_T := List.mem_filter.mpr ⟨List.mem_of_getElem? (i := 1020) (by decide +kernel), by decide +kernel⟩
theorem rs_X10_slides : (.selects RX10 yX10_slides yX10_slides) ∈ rd_T := List.mem_filter.mpr ⟨List.mem_of_getElem? (i := 1021) (by decide +kernel), by decide +kernel⟩
theorem rc_X10_slides : (.code yX10_slides cX10_slides 1 (Option.some Jvm.ClassFile.FieldType.int)) ∈ rd_T := List.mem_filter.mpr ⟨List.mem_of_getElem? (i := 1022) (by decide +kernel), by decide +kernel⟩
theorem rm_L_118 : (.methodLink RL 118 yX10_slideAt) ∈ rd_T := List.mem_filter.mpr ⟨List.mem_of_getElem? (i := 1023) (by decide +kernel), by decide +kernel⟩
theorem ri_X10_slideAt : (.instanceMethod yX10_slideAt) ∈ rd_T := List.mem_filter.mpr ⟨List.mem_of_getElem? (i := 1024) (by decide +kernel), by decide +kernel⟩
theorem rs_X10_slideAt : (.selects RX10 yX10_slideAt yX10_slideAt) ∈ rd_T := List.mem_filter.mpr ⟨List.mem_of_getElem? (i := 1025) (by decide +kernel), by decide +kernel⟩
theorem rc_X10_slideAt : (.code yX10_slideAt cX10_slideAt 2 (Option.some Jvm.ClassFile.FieldType.int)) ∈ rd_T := List.mem_filter.mpr ⟨List.mem_of_getElem? (i := 1026) (by decide +kernel), by decide +kernel⟩
theorem rm_L_122 : (.methodLink RL 122 yX10_slide) ∈ rd_T := List.mem_filter.mpr ⟨List.mem_of_getElem? (i := 1027) (by decide +kernel), by decide +kernel⟩
theorem ri_X10_slide : (.instanceMethod yX10_slide) ∈ rd_T := List.mem_filter.mpr ⟨List.mem_of_getElem? (i := 1028) (by decide +kernel), by decide +kernel⟩
theorem rs_X10_slide : (.selects RX10 yX10_slide yX10_slide) ∈ rd_T := List.mem_filter.mpr ⟨List.mem_of_getElem? (i := 1029) (by decide +kernel), by decide +kernel⟩
theorem rc_X10_slide : (.code yX10_slide cX10_slide 3 (Option.some Jvm.ClassFile.FieldType.int)) ∈ rd_T := List.mem_filter.mpr ⟨List.mem_of_getElem? (i := 1030) (by decide +kernel), by decide +kernel⟩
theorem rm_L_126 : (.methodLink RL 126 yX10_item) ∈ rd_T := List.mem_filter.mpr ⟨List.mem_of_getElem? (i := 1031) (by decide +kernel), by decide +kernel⟩
theorem ri_X10_item : (.instanceMethod yX10_item) ∈ rd_T := List.mem_filter.mpr ⟨List.mem_of_getElem? (i := 1032) (by decide +kernel), by decide +kernel⟩
theorem rs_X10_item : (.selects RX10 yX10_item yX10_item) ∈ rd_T := List.mem_filter.mpr ⟨List.mem_of_getElem? (i := 1033) (by decide +kernel), by decide +kernel⟩
theorem rc_X10_item : (.code yX10_item cX10_item 5 (Option.some Jvm.ClassFile.FieldType.int)) ∈ rd_T := List.mem_filter.mpr ⟨List.mem_of_getElem? (i := 1034) (by decide +kernel), by decide +kernel⟩
theorem rm_L_130 : (.methodLink RL 130 yX10_target) ∈ rd_T := List.mem_filter.mpr ⟨List.mem_of_getElem? (i := 1035) (by decide +kernel), by decide +kernel⟩
theorem ri_X10_target : (.instanceMethod yX10_target) ∈ rd_T := List.mem_filter.mpr ⟨List.mem_of_getElem? (i := 1036) (by decide +kernel), by decide +kernel⟩
theorem rs_X10_target : (.selects RX10 yX10_target yX10_target) ∈ rd_T := List.mem_filter.mpr ⟨List.mem_of_getElem? (i := 1037) (by decide +kernel), by decide +kernel⟩
theorem rc_X10_target : (.code yX10_target cX10_target 3 (Option.some Jvm.ClassFile.FieldType.int)) ∈ rd_T := List.mem_filter.mpr ⟨List.mem_of_getElem? (i := 1038) (by decide +kernel), by decide +kernel⟩
theorem rm_L_134 : (.methodLink RL 134 yX10_picture) ∈ rd_T := List.mem_filter.mpr ⟨List.mem_of_getElem? (i := 1039) (by decide +kernel), by decide +kernel⟩
theorem ri_X10_picture : (.instanceMethod yX10_picture) ∈ rd_T := List.mem_filter.mpr ⟨List.mem_of_getElem? (i := 1040) (by decide +kernel), by decide +kernel⟩
theorem rs_X10_picture : (.selects RX10 yX10_picture yX10_picture) ∈ rd_T := List.mem_filter.mpr ⟨List.mem_of_getElem? (i := 1041) (by decide +kernel), by decide +kernel⟩
theorem rc_X10_picture : (.code yX10_picture cX10_picture 3 (Option.some Jvm.ClassFile.FieldType.int)) ∈ rd_T := List.mem_filter.mpr ⟨List.mem_of_getElem? (i := 1042) (by decide +kernel), by decide +kernel⟩
theorem rm_X10_140 : (.methodLink RX10 140 yX10_seen) ∈ rd_T := List.mem_filter.mpr ⟨List.mem_of_getElem? (i := 1043) (by decide +kernel), by decide +kernel⟩
theorem ri_X10_seen : (.instanceMethod yX10_seen) ∈ rd_T := List.mem_filter.mpr ⟨List.mem_of_getElem? (i := 1045) (by decide +kernel), by decide +kernel⟩
theorem rc_X10_seen : (.code yX10_seen cX10_seen 7 (Option.some Jvm.ClassFile.FieldType.int)) ∈ rd_T := List.mem_filter.mpr ⟨List.mem_of_getElem? (i := 1046) (by decide +kernel), by decide +kernel⟩
theorem rm_L_138 : (.methodLink RL 138 yX10_now) ∈ rd_T := List.mem_filter.mpr ⟨List.mem_of_getElem? (i := 1047) (by decide +kernel), by decide +kernel⟩
theorem ri_X10_now : (.instanceMethod yX10_now) ∈ rd_T := List.mem_filter.mpr ⟨List.mem_of_getElem? (i := 1048) (by decide +kernel), by decide +kernel⟩
theorem rs_X10_now : (.selects RX10 yX10_now yX10_now) ∈ rd_T := List.mem_filter.mpr ⟨List.mem_of_getElem? (i := 1049) (by decide +kernel), by decide +kernel⟩
theorem rc_X10_now : (.code yX10_now cX10_now 2 (Option.some Jvm.ClassFile.FieldType.int)) ∈ rd_T := List.mem_filter.mpr ⟨List.mem_of_getElem? (i := 1050) (by decide +kernel), by decide +kernel⟩
theorem rm_L_142 : (.methodLink RL 142 yX10_trail) ∈ rd_T := List.mem_filter.mpr ⟨List.mem_of_getElem? (i := 1051) (by decide +kernel), by decide +kernel⟩
theorem ri_X10_trail : (.instanceMethod yX10_trail) ∈ rd_T := List.mem_filter.mpr ⟨List.mem_of_getElem? (i := 1052) (by decide +kernel), by decide +kernel⟩
theorem rs_X10_trail : (.selects RX10 yX10_trail yX10_trail) ∈ rd_T := List.mem_filter.mpr ⟨List.mem_of_getElem? (i := 1053) (by decide +kernel), by decide +kernel⟩
theorem rc_X10_trail : (.code yX10_trail cX10_trail 3 (Option.some Jvm.ClassFile.FieldType.int)) ∈ rd_T := List.mem_filter.mpr ⟨List.mem_of_getElem? (i := 1054) (by decide +kernel), by decide +kernel⟩
theorem rm_L_146 : (.methodLink RL 146 yX10_labels) ∈ rd_T := List.mem_filter.mpr ⟨List.mem_of_getElem? (i := 1055) (by decide +kernel), by decide +kernel⟩
theorem ri_X10_labels : (.instanceMethod yX10_labels) ∈ rd_T := List.mem_filter.mpr ⟨List.mem_of_getElem? (i := 1056) (by decide +kernel), by decide +kernel⟩
theorem rs_X10_labels : (.selects RX10 yX10_labels yX10_labels) ∈ rd_T := List.mem_filter.mpr ⟨List.mem_of_getElem? (i := 1057) (by decide +kernel), by decide +kernel⟩
theorem rc_X10_labels : (.code yX10_labels cX10_labels 4 (Option.some Jvm.ClassFile.FieldType.int)) ∈ rd_T := List.mem_filter.mpr ⟨List.mem_of_getElem? (i := 1058) (by decide +kernel), by decide +kernel⟩
theorem rm_L_150 : (.methodLink RL 150 yX10_noteNow) ∈ rd_T := List.mem_filter.mpr ⟨List.mem_of_getElem? (i := 1059) (by decide +kernel), by decide +kernel⟩
theorem ri_X10_noteNow : (.instanceMethod yX10_noteNow) ∈ rd_T := List.mem_filter.mpr ⟨List.mem_of_getElem? (i := 1060) (by decide +kernel), by decide +kernel⟩
theorem rs_X10_noteNow : (.selects RX10 yX10_noteNow yX10_noteNow) ∈ rd_T := List.mem_filter.mpr ⟨List.mem_of_getElem? (i := 1061) (by decide +kernel), by decide +kernel⟩
theorem rc_X10_noteNow : (.code yX10_noteNow cX10_noteNow 6 (Option.some Jvm.ClassFile.FieldType.int)) ∈ rd_T := List.mem_filter.mpr ⟨List.mem_of_getElem? (i := 1062) (by decide +kernel), by decide +kernel⟩
theorem rm_L_154 : (.methodLink RL 154 yX10_end) ∈ rd_T := List.mem_filter.mpr ⟨List.mem_of_getElem? (i := 1063) (by decide +kernel), by decide +kernel⟩
theorem ri_X10_end : (.instanceMethod yX10_end) ∈ rd_T := List.mem_filter.mpr ⟨List.mem_of_getElem? (i := 1064) (by decide +kernel), by decide +kernel⟩
theorem rs_X10_end : (.selects RX10 yX10_end yX10_end) ∈ rd_T := List.mem_filter.mpr ⟨List.mem_of_getElem? (i := 1065) (by decide +kernel), by decide +kernel⟩
theorem rc_X10_end : (.code yX10_end cX10_end 1 (Option.some Jvm.ClassFile.FieldType.int)) ∈ rd_T := List.mem_filter.mpr ⟨List.mem_of_getElem? (i := 1066) (by decide +kernel), by decide +kernel⟩
theorem rm_L_159 : (.methodLink RL 159 yX10_meanSteps) ∈ rd_T := List.mem_filter.mpr ⟨List.mem_of_getElem? (i := 1067) (by decide +kernel), by decide +kernel⟩
theorem ri_X10_meanSteps : (.instanceMethod yX10_meanSteps) ∈ rd_T := List.mem_filter.mpr ⟨List.mem_of_getElem? (i := 1068) (by decide +kernel), by decide +kernel⟩
theorem rs_X10_meanSteps : (.selects RX10 yX10_meanSteps yX10_meanSteps) ∈ rd_T := List.mem_filter.mpr ⟨List.mem_of_getElem? (i := 1069) (by decide +kernel), by decide +kernel⟩
theorem rc_X10_meanSteps : (.code yX10_meanSteps cX10_meanSteps 3 (Option.some Jvm.ClassFile.FieldType.float)) ∈ rd_T := List.mem_filter.mpr ⟨List.mem_of_getElem? (i := 1070) (by decide +kernel), by decide +kernel⟩
theorem rm_L_163 : (.methodLink RL 163 yX10_movesLeft) ∈ rd_T := List.mem_filter.mpr ⟨List.mem_of_getElem? (i := 1071) (by decide +kernel), by decide +kernel⟩
theorem ri_X10_movesLeft : (.instanceMethod yX10_movesLeft) ∈ rd_T := List.mem_filter.mpr ⟨List.mem_of_getElem? (i := 1072) (by decide +kernel), by decide +kernel⟩
theorem rs_X10_movesLeft : (.selects RX10 yX10_movesLeft yX10_movesLeft) ∈ rd_T := List.mem_filter.mpr ⟨List.mem_of_getElem? (i := 1073) (by decide +kernel), by decide +kernel⟩
theorem rc_X10_movesLeft : (.code yX10_movesLeft cX10_movesLeft 3 (Option.some Jvm.ClassFile.FieldType.int)) ∈ rd_T := List.mem_filter.mpr ⟨List.mem_of_getElem? (i := 1074) (by decide +kernel), by decide +kernel⟩
theorem rm_L_167 : (.methodLink RL 167 yX10_fewest) ∈ rd_T := List.mem_filter.mpr ⟨List.mem_of_getElem? (i := 1075) (by decide +kernel), by decide +kernel⟩
theorem ri_X10_fewest : (.instanceMethod yX10_fewest) ∈ rd_T := List.mem_filter.mpr ⟨List.mem_of_getElem? (i := 1076) (by decide +kernel), by decide +kernel⟩
theorem rs_X10_fewest : (.selects RX10 yX10_fewest yX10_fewest) ∈ rd_T := List.mem_filter.mpr ⟨List.mem_of_getElem? (i := 1077) (by decide +kernel), by decide +kernel⟩
theorem rc_X10_fewest : (.code yX10_fewest cX10_fewest 2 (Option.some Jvm.ClassFile.FieldType.int)) ∈ rd_T := List.mem_filter.mpr ⟨List.mem_of_getElem? (i := 1078) (by decide +kernel), by decide +kernel⟩
theorem rm_X10_146 : (.methodLink RX10 146 yX10_leads) ∈ rd_T := List.mem_filter.mpr ⟨List.mem_of_getElem? (i := 1079) (by decide +kernel), by decide +kernel⟩
theorem ri_X10_leads : (.instanceMethod yX10_leads) ∈ rd_T := List.mem_filter.mpr ⟨List.mem_of_getElem? (i := 1081) (by decide +kernel), by decide +kernel⟩
theorem rc_X10_leads : (.code yX10_leads cX10_leads 8 (Option.some Jvm.ClassFile.FieldType.int)) ∈ rd_T := List.mem_filter.mpr ⟨List.mem_of_getElem? (i := 1082) (by decide +kernel), by decide +kernel⟩
theorem rm_X10_143 : (.methodLink RX10 143 yX10_reaches) ∈ rd_T := List.mem_filter.mpr ⟨List.mem_of_getElem? (i := 1083) (by decide +kernel), by decide +kernel⟩
theorem ri_X10_reaches : (.instanceMethod yX10_reaches) ∈ rd_T := List.mem_filter.mpr ⟨List.mem_of_getElem? (i := 1085) (by decide +kernel), by decide +kernel⟩
theorem rc_X10_reaches : (.code yX10_reaches cX10_reaches 5 (Option.some Jvm.ClassFile.FieldType.boolean)) ∈ rd_T := List.mem_filter.mpr ⟨List.mem_of_getElem? (i := 1086) (by decide +kernel), by decide +kernel⟩
theorem rm_L_171 : (.methodLink RL 171 yX10_secondsLeft) ∈ rd_T := List.mem_filter.mpr ⟨List.mem_of_getElem? (i := 1087) (by decide +kernel), by decide +kernel⟩
theorem ri_X10_secondsLeft : (.instanceMethod yX10_secondsLeft) ∈ rd_T := List.mem_filter.mpr ⟨List.mem_of_getElem? (i := 1088) (by decide +kernel), by decide +kernel⟩
theorem rs_X10_secondsLeft : (.selects RX10 yX10_secondsLeft yX10_secondsLeft) ∈ rd_T := List.mem_filter.mpr ⟨List.mem_of_getElem? (i := 1089) (by decide +kernel), by decide +kernel⟩
theorem rc_X10_secondsLeft : (.code yX10_secondsLeft cX10_secondsLeft 7 (Option.some Jvm.ClassFile.FieldType.int)) ∈ rd_T := List.mem_filter.mpr ⟨List.mem_of_getElem? (i := 1090) (by decide +kernel), by decide +kernel⟩
theorem rm_L_175 : (.methodLink RL 175 yX10_backTo) ∈ rd_T := List.mem_filter.mpr ⟨List.mem_of_getElem? (i := 1091) (by decide +kernel), by decide +kernel⟩
theorem ri_X10_backTo : (.instanceMethod yX10_backTo) ∈ rd_T := List.mem_filter.mpr ⟨List.mem_of_getElem? (i := 1092) (by decide +kernel), by decide +kernel⟩
theorem rs_X10_backTo : (.selects RX10 yX10_backTo yX10_backTo) ∈ rd_T := List.mem_filter.mpr ⟨List.mem_of_getElem? (i := 1093) (by decide +kernel), by decide +kernel⟩
theorem rc_X10_backTo : (.code yX10_backTo cX10_backTo 2 (Option.some Jvm.ClassFile.FieldType.int)) ∈ rd_T := List.mem_filter.mpr ⟨List.mem_of_getElem? (i := 1094) (by decide +kernel), by decide +kernel⟩
def rd_nest : List Cond := [.methodLinkNest RX9 9 yX8_init "RevealDeck", .methodLinkNest RX0 21 yX7_init "RevealDeck", .methodLinkNest RX8 20 yX3_init "RevealDeck", .methodLinkNest RX8 27 yX6_init "RevealDeck", .methodLinkNest RX2 17 yX8_init "RevealDeck", .methodLinkNest RX9 25 yX5_init "RevealDeck", .methodLinkNest RX9 32 yX4_init "RevealDeck", .methodLinkNest RX9 39 yX1_init "RevealDeck", .methodLinkNest RX0 43 yX9_isWithin "RevealDeck", .methodLinkNest RX7 44 yX9_isWithin "RevealDeck", .methodLinkNest RX3 28 yX9_isWithin "RevealDeck", .methodLinkNest RX6 52 yX9_isWithin "RevealDeck", .methodLinkNest RX5 19 yX9_isWithin "RevealDeck", .methodLinkNest RX1 83 yX9_isWithin "RevealDeck"]
theorem rx_X9_9 : (.methodLinkNest RX9 9 yX8_init "RevealDeck" : Cond) ∈ rd_nest := List.mem_of_getElem? (i := 0) (by decide +kernel)
theorem rx_X0_21 : (.methodLinkNest RX0 21 yX7_init "RevealDeck" : Cond) ∈ rd_nest := List.mem_of_getElem? (i := 1) (by decide +kernel)
theorem rx_X8_20 : (.methodLinkNest RX8 20 yX3_init "RevealDeck" : Cond) ∈ rd_nest := List.mem_of_getElem? (i := 2) (by decide +kernel)
theorem rx_X8_27 : (.methodLinkNest RX8 27 yX6_init "RevealDeck" : Cond) ∈ rd_nest := List.mem_of_getElem? (i := 3) (by decide +kernel)
theorem rx_X2_17 : (.methodLinkNest RX2 17 yX8_init "RevealDeck" : Cond) ∈ rd_nest := List.mem_of_getElem? (i := 4) (by decide +kernel)
theorem rx_X9_25 : (.methodLinkNest RX9 25 yX5_init "RevealDeck" : Cond) ∈ rd_nest := List.mem_of_getElem? (i := 5) (by decide +kernel)
theorem rx_X9_32 : (.methodLinkNest RX9 32 yX4_init "RevealDeck" : Cond) ∈ rd_nest := List.mem_of_getElem? (i := 6) (by decide +kernel)
theorem rx_X9_39 : (.methodLinkNest RX9 39 yX1_init "RevealDeck" : Cond) ∈ rd_nest := List.mem_of_getElem? (i := 7) (by decide +kernel)
theorem rx_X0_43 : (.methodLinkNest RX0 43 yX9_isWithin "RevealDeck" : Cond) ∈ rd_nest := List.mem_of_getElem? (i := 8) (by decide +kernel)
theorem rx_X7_44 : (.methodLinkNest RX7 44 yX9_isWithin "RevealDeck" : Cond) ∈ rd_nest := List.mem_of_getElem? (i := 9) (by decide +kernel)
theorem rx_X3_28 : (.methodLinkNest RX3 28 yX9_isWithin "RevealDeck" : Cond) ∈ rd_nest := List.mem_of_getElem? (i := 10) (by decide +kernel)
theorem rx_X6_52 : (.methodLinkNest RX6 52 yX9_isWithin "RevealDeck" : Cond) ∈ rd_nest := List.mem_of_getElem? (i := 11) (by decide +kernel)
theorem rx_X5_19 : (.methodLinkNest RX5 19 yX9_isWithin "RevealDeck" : Cond) ∈ rd_nest := List.mem_of_getElem? (i := 12) (by decide +kernel)
theorem rx_X1_83 : (.methodLinkNest RX1 83 yX9_isWithin "RevealDeck" : Cond) ∈ rd_nest := List.mem_of_getElem? (i := 13) (by decide +kernel)
theorem rd_nest_in : ∀ w ∈ rd_nest, w ∈ lw_tbl := by decide +kernel
theorem ru_X0 : ∀ w ∈ u_ws RX0 TX0 3, w ∈ rd_T := by decide +kernel
theorem ru_X1 : ∀ w ∈ u_ws RX1 TX1 1, w ∈ rd_T := by decide +kernel
theorem ru_X2 : ∀ w ∈ u_ws RX2 TX2 2, w ∈ rd_T := by decide +kernel
theorem ru_X3 : ∀ w ∈ u_ws RX3 TX3 3, w ∈ rd_T := by decide +kernel
theorem ru_X4 : ∀ w ∈ u_ws RX4 TX4 4, w ∈ rd_T := by decide +kernel
theorem ru_X5 : ∀ w ∈ u_ws RX5 TX5 2, w ∈ rd_T := by decide +kernel
theorem ru_X6 : ∀ w ∈ u_ws RX6 TX6 9, w ∈ rd_T := by decide +kernel
theorem ru_X7 : ∀ w ∈ u_ws RX7 TX7 8, w ∈ rd_T := by decide +kernel
theorem ru_X8 : ∀ w ∈ u_ws RX8 TX8 4, w ∈ rd_T := by decide +kernel
theorem ru_X9 : ∀ w ∈ u_ws RX9 TX9 5, w ∈ rd_T := by decide +kernel
theorem ru_X10 : ∀ w ∈ u_ws RX10 TX10 9, w ∈ rd_T := by decide +kernel

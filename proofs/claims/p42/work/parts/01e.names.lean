theorem rc_X0_sumSteps : (.code yX0_sumSteps cX0_sumSteps 6 (Option.some Jvm.ClassFile.FieldType.int)) ∈ rd_T := List.mem_filter.mpr ⟨List.mem_of_getElem? (i := 679) (by decide +kernel), by decide +kernel⟩
theorem rm_X0_72 : (.methodLink RX0 72 yX7_finalStep) ∈ rd_T := List.mem_filter.mpr ⟨List.mem_of_getElem? (i := 680) (by decide +kernel), by decide +kernel⟩
theorem rm_L_145 : (.methodLink RL 145 yL_isMoved) ∈ rd_T := List.mem_filter.mpr ⟨List.mem_of_getElem? (i := 681) (by decide +kernel), by decide +kernel⟩
theorem rt_L_isMoved : (.static yL_isMoved) ∈ rd_T := List.mem_filter.mpr ⟨List.mem_of_getElem? (i := 682) (by decide +kernel), by decide +kernel⟩
set_option maxRecDepth 100000 in
theorem rc_L_isMoved : (.code yL_isMoved cL_isMoved 17 (Option.some Jvm.ClassFile.FieldType.boolean)) ∈ rd_T := List.mem_filter.mpr ⟨List.mem_of_getElem? (i := 683) (by rfl), by decide +kernel⟩
theorem rm_L_149 : (.methodLink RL 149 yL_isWaited) ∈ rd_T := List.mem_filter.mpr ⟨List.mem_of_getElem? (i := 684) (by decide +kernel), by decide +kernel⟩
theorem rt_L_isWaited : (.static yL_isWaited) ∈ rd_T := List.mem_filter.mpr ⟨List.mem_of_getElem? (i := 685) (by decide +kernel), by decide +kernel⟩
theorem rc_L_isWaited : (.code yL_isWaited cL_isWaited 4 (Option.some Jvm.ClassFile.FieldType.boolean)) ∈ rd_T := List.mem_filter.mpr ⟨List.mem_of_getElem? (i := 686) (by decide +kernel), by decide +kernel⟩
def rd_nest : List Cond := [.methodLinkNest RX9 9 yX8_init "RevealDeck", .methodLinkNest RX0 21 yX7_init "RevealDeck", .methodLinkNest RX8 20 yX3_init "RevealDeck", .methodLinkNest RX8 27 yX6_init "RevealDeck", .methodLinkNest RX2 17 yX8_init "RevealDeck", .methodLinkNest RX9 25 yX5_init "RevealDeck", .methodLinkNest RX9 32 yX4_init "RevealDeck", .methodLinkNest RX9 39 yX1_init "RevealDeck", .methodLinkNest RX6 52 yX9_isWithin "RevealDeck", .methodLinkNest RX7 44 yX9_isWithin "RevealDeck", .methodLinkNest RX0 43 yX9_isWithin "RevealDeck", .methodLinkNest RX3 28 yX9_isWithin "RevealDeck", .methodLinkNest RX1 83 yX9_isWithin "RevealDeck"]
theorem rx_X9_9 : (.methodLinkNest RX9 9 yX8_init "RevealDeck" : Cond) ∈ rd_nest := List.mem_of_getElem? (i := 0) (by decide +kernel)
theorem rx_X0_21 : (.methodLinkNest RX0 21 yX7_init "RevealDeck" : Cond) ∈ rd_nest := List.mem_of_getElem? (i := 1) (by decide +kernel)
theorem rx_X8_20 : (.methodLinkNest RX8 20 yX3_init "RevealDeck" : Cond) ∈ rd_nest := List.mem_of_getElem? (i := 2) (by decide +kernel)
theorem rx_X8_27 : (.methodLinkNest RX8 27 yX6_init "RevealDeck" : Cond) ∈ rd_nest := List.mem_of_getElem? (i := 3) (by decide +kernel)
theorem rx_X2_17 : (.methodLinkNest RX2 17 yX8_init "RevealDeck" : Cond) ∈ rd_nest := List.mem_of_getElem? (i := 4) (by decide +kernel)
theorem rx_X9_25 : (.methodLinkNest RX9 25 yX5_init "RevealDeck" : Cond) ∈ rd_nest := List.mem_of_getElem? (i := 5) (by decide +kernel)
theorem rx_X9_32 : (.methodLinkNest RX9 32 yX4_init "RevealDeck" : Cond) ∈ rd_nest := List.mem_of_getElem? (i := 6) (by decide +kernel)
theorem rx_X9_39 : (.methodLinkNest RX9 39 yX1_init "RevealDeck" : Cond) ∈ rd_nest := List.mem_of_getElem? (i := 7) (by decide +kernel)
theorem rx_X6_52 : (.methodLinkNest RX6 52 yX9_isWithin "RevealDeck" : Cond) ∈ rd_nest := List.mem_of_getElem? (i := 8) (by decide +kernel)
theorem rx_X7_44 : (.methodLinkNest RX7 44 yX9_isWithin "RevealDeck" : Cond) ∈ rd_nest := List.mem_of_getElem? (i := 9) (by decide +kernel)
theorem rx_X0_43 : (.methodLinkNest RX0 43 yX9_isWithin "RevealDeck" : Cond) ∈ rd_nest := List.mem_of_getElem? (i := 10) (by decide +kernel)
theorem rx_X3_28 : (.methodLinkNest RX3 28 yX9_isWithin "RevealDeck" : Cond) ∈ rd_nest := List.mem_of_getElem? (i := 11) (by decide +kernel)
theorem rx_X1_83 : (.methodLinkNest RX1 83 yX9_isWithin "RevealDeck" : Cond) ∈ rd_nest := List.mem_of_getElem? (i := 12) (by decide +kernel)
theorem rd_nest_in : ∀ w ∈ rd_nest, w ∈ lw_tbl := by decide +kernel
theorem ru_X0 : ∀ w ∈ u_ws RX0 TX0 3, w ∈ rd_T := by decide +kernel
theorem ru_X1 : ∀ w ∈ u_ws RX1 TX1 1, w ∈ rd_T := by decide +kernel
theorem ru_X2 : ∀ w ∈ u_ws RX2 TX2 2, w ∈ rd_T := by decide +kernel
theorem ru_X3 : ∀ w ∈ u_ws RX3 TX3 3, w ∈ rd_T := by decide +kernel
theorem ru_X4 : ∀ w ∈ u_ws RX4 TX4 4, w ∈ rd_T := by decide +kernel
theorem ru_X5 : ∀ w ∈ u_ws RX5 TX5 2, w ∈ rd_T := by decide +kernel
theorem ru_X6 : ∀ w ∈ u_ws RX6 TX6 9, w ∈ rd_T := by decide +kernel
theorem ru_X7 : ∀ w ∈ u_ws RX7 TX7 8, w ∈ rd_T := by decide +kernel
theorem ru_X8 : ∀ w ∈ u_ws RX8 TX8 4, w ∈ rd_T := by decide +kernel
theorem ru_X9 : ∀ w ∈ u_ws RX9 TX9 5, w ∈ rd_T := by decide +kernel
theorem ru_X10 : ∀ w ∈ u_ws RX10 TX10 0, w ∈ rd_T := by decide +kernel

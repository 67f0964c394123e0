theorem rs_X9_tick : (.selects RX9 yX9_tick yX9_tick) ∈ rd_T := List.mem_filter.mpr ⟨List.mem_of_getElem? (i := 613) (by decide +kernel), by decide +kernel⟩
theorem rc_X9_tick : (.code yX9_tick cX9_tick 2 (Option.some Jvm.ClassFile.FieldType.int)) ∈ rd_T := List.mem_filter.mpr ⟨List.mem_of_getElem? (i := 614) (by decide +kernel), by decide +kernel⟩
theorem rm_X9_175 : (.methodLink RX9 175 yX8_passSeconds) ∈ rd_T := List.mem_filter.mpr ⟨List.mem_of_getElem? (i := 615) (by decide +kernel), by decide +kernel⟩
theorem rm_L_102 : (.methodLink RL 102 yX9_forward) ∈ rd_T := List.mem_filter.mpr ⟨List.mem_of_getElem? (i := 616) (by decide +kernel), by decide +kernel⟩
theorem ri_X9_forward : (.instanceMethod yX9_forward) ∈ rd_T := List.mem_filter.mpr ⟨List.mem_of_getElem? (i := 617) (by decide +kernel), by decide +kernel⟩
theorem rs_X9_forward : (.selects RX9 yX9_forward yX9_forward) ∈ rd_T := List.mem_filter.mpr ⟨List.mem_of_getElem? (i := 618) (by decide +kernel), by decide +kernel⟩
theorem rc_X9_forward : (.code yX9_forward cX9_forward 1 (Option.some Jvm.ClassFile.FieldType.int)) ∈ rd_T := List.mem_filter.mpr ⟨List.mem_of_getElem? (i := 619) (by decide +kernel), by decide +kernel⟩
theorem rm_L_129 : (.methodLink RL 129 yL_holds) ∈ rd_T := List.mem_filter.mpr ⟨List.mem_of_getElem? (i := 620) (by decide +kernel), by decide +kernel⟩
theorem rt_L_holds : (.static yL_holds) ∈ rd_T := List.mem_filter.mpr ⟨List.mem_of_getElem? (i := 621) (by decide +kernel), by decide +kernel⟩
theorem rc_L_holds : (.code yL_holds cL_holds 10 (Option.some Jvm.ClassFile.FieldType.boolean)) ∈ rd_T := List.mem_filter.mpr ⟨List.mem_of_getElem? (i := 622) (by decide +kernel), by decide +kernel⟩
theorem rm_L_105 : (.methodLink RL 105 yX9_fewest) ∈ rd_T := List.mem_filter.mpr ⟨List.mem_of_getElem? (i := 623) (by decide +kernel), by decide +kernel⟩
theorem ri_X9_fewest : (.instanceMethod yX9_fewest) ∈ rd_T := List.mem_filter.mpr ⟨List.mem_of_getElem? (i := 624) (by decide +kernel), by decide +kernel⟩
theorem rs_X9_fewest : (.selects RX9 yX9_fewest yX9_fewest) ∈ rd_T := List.mem_filter.mpr ⟨List.mem_of_getElem? (i := 625) (by decide +kernel), by decide +kernel⟩
theorem rc_X9_fewest : (.code yX9_fewest cX9_fewest 2 (Option.some Jvm.ClassFile.FieldType.int)) ∈ rd_T := List.mem_filter.mpr ⟨List.mem_of_getElem? (i := 626) (by decide +kernel), by decide +kernel⟩
theorem rm_X9_269 : (.methodLink RX9 269 yX1_leastMoves) ∈ rd_T := List.mem_filter.mpr ⟨List.mem_of_getElem? (i := 627) (by decide +kernel), by decide +kernel⟩
theorem ri_X1_leastMoves : (.instanceMethod yX1_leastMoves) ∈ rd_T := List.mem_filter.mpr ⟨List.mem_of_getElem? (i := 628) (by decide +kernel), by decide +kernel⟩
theorem rs_X1_leastMoves : (.selects RX1 yX1_leastMoves yX1_leastMoves) ∈ rd_T := List.mem_filter.mpr ⟨List.mem_of_getElem? (i := 629) (by decide +kernel), by decide +kernel⟩
theorem rc_X1_leastMoves : (.code yX1_leastMoves cX1_leastMoves 5 (Option.some Jvm.ClassFile.FieldType.int)) ∈ rd_T := List.mem_filter.mpr ⟨List.mem_of_getElem? (i := 630) (by decide +kernel), by decide +kernel⟩
theorem rm_X1_15 : (.methodLink RX1 15 yX8_here) ∈ rd_T := List.mem_filter.mpr ⟨List.mem_of_getElem? (i := 631) (by decide +kernel), by decide +kernel⟩
theorem rl_X1_87 : (.constant RX1 87 (1000000)) ∈ rd_T := List.mem_filter.mpr ⟨List.mem_of_getElem? (i := 633) (by decide +kernel), by decide +kernel⟩
theorem rm_X1_88 : (.methodLink RX1 88 yX1_lower) ∈ rd_T := List.mem_filter.mpr ⟨List.mem_of_getElem? (i := 634) (by decide +kernel), by decide +kernel⟩
theorem ri_X1_lower : (.instanceMethod yX1_lower) ∈ rd_T := List.mem_filter.mpr ⟨List.mem_of_getElem? (i := 635) (by decide +kernel), by decide +kernel⟩
theorem rs_X1_lower : (.selects RX1 yX1_lower yX1_lower) ∈ rd_T := List.mem_filter.mpr ⟨List.mem_of_getElem? (i := 636) (by decide +kernel), by decide +kernel⟩
theorem rc_X1_lower : (.code yX1_lower cX1_lower 3 (Option.none : Option Jvm.ClassFile.FieldType)) ∈ rd_T := List.mem_filter.mpr ⟨List.mem_of_getElem? (i := 637) (by decide +kernel), by decide +kernel⟩
theorem rm_X1_92 : (.methodLink RX1 92 yX1_spreadFrom) ∈ rd_T := List.mem_filter.mpr ⟨List.mem_of_getElem? (i := 638) (by decide +kernel), by decide +kernel⟩
theorem ri_X1_spreadFrom : (.instanceMethod yX1_spreadFrom) ∈ rd_T := List.mem_filter.mpr ⟨List.mem_of_getElem? (i := 639) (by decide +kernel), by decide +kernel⟩
theorem rs_X1_spreadFrom : (.selects RX1 yX1_spreadFrom yX1_spreadFrom) ∈ rd_T := List.mem_filter.mpr ⟨List.mem_of_getElem? (i := 640) (by decide +kernel), by decide +kernel⟩
theorem rc_X1_spreadFrom : (.code yX1_spreadFrom cX1_spreadFrom 9 (Option.none : Option Jvm.ClassFile.FieldType)) ∈ rd_T := List.mem_filter.mpr ⟨List.mem_of_getElem? (i := 641) (by decide +kernel), by decide +kernel⟩
theorem rm_X1_48 : (.methodLink RX1 48 yX0_numberAt) ∈ rd_T := List.mem_filter.mpr ⟨List.mem_of_getElem? (i := 642) (by decide +kernel), by decide +kernel⟩
theorem rm_X1_51 : (.methodLink RX1 51 yX0_find) ∈ rd_T := List.mem_filter.mpr ⟨List.mem_of_getElem? (i := 643) (by decide +kernel), by decide +kernel⟩
theorem rm_X1_80 : (.methodLink RX1 80 yX0_nextShown) ∈ rd_T := List.mem_filter.mpr ⟨List.mem_of_getElem? (i := 644) (by decide +kernel), by decide +kernel⟩
theorem rm_X1_73 : (.methodLink RX1 73 yX7_finalStep) ∈ rd_T := List.mem_filter.mpr ⟨List.mem_of_getElem? (i := 645) (by decide +kernel), by decide +kernel⟩
theorem rm_L_108 : (.methodLink RL 108 yX9_backTo) ∈ rd_T := List.mem_filter.mpr ⟨List.mem_of_getElem? (i := 646) (by decide +kernel), by decide +kernel⟩
theorem ri_X9_backTo : (.instanceMethod yX9_backTo) ∈ rd_T := List.mem_filter.mpr ⟨List.mem_of_getElem? (i := 647) (by decide +kernel), by decide +kernel⟩
theorem rs_X9_backTo : (.selects RX9 yX9_backTo yX9_backTo) ∈ rd_T := List.mem_filter.mpr ⟨List.mem_of_getElem? (i := 648) (by decide +kernel), by decide +kernel⟩
theorem rc_X9_backTo : (.code yX9_backTo cX9_backTo 1 (Option.some Jvm.ClassFile.FieldType.int)) ∈ rd_T := List.mem_filter.mpr ⟨List.mem_of_getElem? (i := 649) (by decide +kernel), by decide +kernel⟩
theorem rm_X9_276 : (.methodLink RX9 276 yX8_backPlace) ∈ rd_T := List.mem_filter.mpr ⟨List.mem_of_getElem? (i := 650) (by decide +kernel), by decide +kernel⟩
theorem rm_L_111 : (.methodLink RL 111 yX9_movesLeft) ∈ rd_T := List.mem_filter.mpr ⟨List.mem_of_getElem? (i := 651) (by decide +kernel), by decide +kernel⟩
theorem ri_X9_movesLeft : (.instanceMethod yX9_movesLeft) ∈ rd_T := List.mem_filter.mpr ⟨List.mem_of_getElem? (i := 652) (by decide +kernel), by decide +kernel⟩
theorem rs_X9_movesLeft : (.selects RX9 yX9_movesLeft yX9_movesLeft) ∈ rd_T := List.mem_filter.mpr ⟨List.mem_of_getElem? (i := 653) (by decide +kernel), by decide +kernel⟩
theorem rc_X9_movesLeft : (.code yX9_movesLeft cX9_movesLeft 1 (Option.some Jvm.ClassFile.FieldType.int)) ∈ rd_T := List.mem_filter.mpr ⟨List.mem_of_getElem? (i := 654) (by decide +kernel), by decide +kernel⟩
theorem rm_X9_265 : (.methodLink RX9 265 yX1_countMoves) ∈ rd_T := List.mem_filter.mpr ⟨List.mem_of_getElem? (i := 655) (by decide +kernel), by decide +kernel⟩
theorem ri_X1_countMoves : (.instanceMethod yX1_countMoves) ∈ rd_T := List.mem_filter.mpr ⟨List.mem_of_getElem? (i := 656) (by decide +kernel), by decide +kernel⟩
theorem rs_X1_countMoves : (.selects RX1 yX1_countMoves yX1_countMoves) ∈ rd_T := List.mem_filter.mpr ⟨List.mem_of_getElem? (i := 657) (by decide +kernel), by decide +kernel⟩
theorem rc_X1_countMoves : (.code yX1_countMoves cX1_countMoves 4 (Option.some Jvm.ClassFile.FieldType.int)) ∈ rd_T := List.mem_filter.mpr ⟨List.mem_of_getElem? (i := 658) (by decide +kernel), by decide +kernel⟩
theorem rm_X1_35 : (.methodLink RX1 35 yX0_placeOf) ∈ rd_T := List.mem_filter.mpr ⟨List.mem_of_getElem? (i := 659) (by decide +kernel), by decide +kernel⟩
theorem rm_X1_44 : (.methodLink RX1 44 yX1_movesOn) ∈ rd_T := List.mem_filter.mpr ⟨List.mem_of_getElem? (i := 660) (by decide +kernel), by decide +kernel⟩
theorem rt_X1_movesOn : (.static yX1_movesOn) ∈ rd_T := List.mem_filter.mpr ⟨List.mem_of_getElem? (i := 661) (by decide +kernel), by decide +kernel⟩
theorem rc_X1_movesOn : (.code yX1_movesOn cX1_movesOn 6 (Option.some Jvm.ClassFile.FieldType.int)) ∈ rd_T := List.mem_filter.mpr ⟨List.mem_of_getElem? (i := 662) (by decide +kernel), by decide +kernel⟩
theorem rm_L_114 : (.methodLink RL 114 yX9_secondsLeft) ∈ rd_T := List.mem_filter.mpr ⟨List.mem_of_getElem? (i := 663) (by decide +kernel), by decide +kernel⟩
theorem ri_X9_secondsLeft : (.instanceMethod yX9_secondsLeft) ∈ rd_T := List.mem_filter.mpr ⟨List.mem_of_getElem? (i := 664) (by decide +kernel), by decide +kernel⟩
theorem rs_X9_secondsLeft : (.selects RX9 yX9_secondsLeft yX9_secondsLeft) ∈ rd_T := List.mem_filter.mpr ⟨List.mem_of_getElem? (i := 665) (by decide +kernel), by decide +kernel⟩
theorem rc_X9_secondsLeft : (.code yX9_secondsLeft cX9_secondsLeft 1 (Option.some Jvm.ClassFile.FieldType.int)) ∈ rd_T := List.mem_filter.mpr ⟨List.mem_of_getElem? (i := 666) (by decide +kernel), by decide +kernel⟩
theorem rm_X9_273 : (.methodLink RX9 273 yX1_countSeconds) ∈ rd_T := List.mem_filter.mpr ⟨List.mem_of_getElem? (i := 667) (by decide +kernel), by decide +kernel⟩
theorem ri_X1_countSeconds : (.instanceMethod yX1_countSeconds) ∈ rd_T := List.mem_filter.mpr ⟨List.mem_of_getElem? (i := 668) (by decide +kernel), by decide +kernel⟩
theorem rs_X1_countSeconds : (.selects RX1 yX1_countSeconds yX1_countSeconds) ∈ rd_T := List.mem_filter.mpr ⟨List.mem_of_getElem? (i := 669) (by decide +kernel), by decide +kernel⟩
theorem rc_X1_countSeconds : (.code yX1_countSeconds cX1_countSeconds 7 (Option.some Jvm.ClassFile.FieldType.int)) ∈ rd_T := List.mem_filter.mpr ⟨List.mem_of_getElem? (i := 670) (by decide +kernel), by decide +kernel⟩
theorem rm_X1_63 : (.methodLink RX1 63 yJ9_max_7cf53) ∈ rd_T := List.mem_filter.mpr ⟨List.mem_of_getElem? (i := 671) (by decide +kernel), by decide +kernel⟩
theorem rm_L_117 : (.methodLink RL 117 yX9_meanSteps) ∈ rd_T := List.mem_filter.mpr ⟨List.mem_of_getElem? (i := 672) (by decide +kernel), by decide +kernel⟩
theorem ri_X9_meanSteps : (.instanceMethod yX9_meanSteps) ∈ rd_T := List.mem_filter.mpr ⟨List.mem_of_getElem? (i := 673) (by decide +kernel), by decide +kernel⟩
theorem rs_X9_meanSteps : (.selects RX9 yX9_meanSteps yX9_meanSteps) ∈ rd_T := List.mem_filter.mpr ⟨List.mem_of_getElem? (i := 674) (by decide +kernel), by decide +kernel⟩
theorem rc_X9_meanSteps : (.code yX9_meanSteps cX9_meanSteps 2 (Option.some Jvm.ClassFile.FieldType.float)) ∈ rd_T := List.mem_filter.mpr ⟨List.mem_of_getElem? (i := 675) (by decide +kernel), by decide +kernel⟩
theorem rm_X9_262 : (.methodLink RX9 262 yX0_sumSteps) ∈ rd_T := List.mem_filter.mpr ⟨List.mem_of_getElem? (i := 676) (by decide +kernel), by decide +kernel⟩
theorem ri_X0_sumSteps : (.instanceMethod yX0_sumSteps) ∈ rd_T := List.mem_filter.mpr ⟨List.mem_of_getElem? (i := 677) (by decide +kernel), by decide +kernel⟩
theorem rs_X0_sumSteps : (.selects RX0 yX0_sumSteps yX0_sumSteps) ∈ rd_T := List.mem_filter.mpr ⟨List.mem_of_getElem? (i := 678) (by decide +kernel), by decide +kernel⟩

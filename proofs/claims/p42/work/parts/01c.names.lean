theorem rs_X3_placeOf : (.selects RX3 yX3_placeOf yX3_placeOf) ∈ rd_T := List.mem_filter.mpr ⟨List.mem_of_getElem? (i := 512) (by decide +kernel), by decide +kernel⟩
theorem rc_X3_placeOf : (.code yX3_placeOf cX3_placeOf 3 (Option.some Jvm.ClassFile.FieldType.int)) ∈ rd_T := List.mem_filter.mpr ⟨List.mem_of_getElem? (i := 513) (by decide +kernel), by decide +kernel⟩
theorem rm_X9_139 : (.methodLink RX9 139 yX3_dropAt) ∈ rd_T := List.mem_filter.mpr ⟨List.mem_of_getElem? (i := 514) (by decide +kernel), by decide +kernel⟩
theorem ri_X3_dropAt : (.instanceMethod yX3_dropAt) ∈ rd_T := List.mem_filter.mpr ⟨List.mem_of_getElem? (i := 515) (by decide +kernel), by decide +kernel⟩
theorem rs_X3_dropAt : (.selects RX3 yX3_dropAt yX3_dropAt) ∈ rd_T := List.mem_filter.mpr ⟨List.mem_of_getElem? (i := 516) (by decide +kernel), by decide +kernel⟩
theorem rc_X3_dropAt : (.code yX3_dropAt cX3_dropAt 2 (Option.none : Option Jvm.ClassFile.FieldType)) ∈ rd_T := List.mem_filter.mpr ⟨List.mem_of_getElem? (i := 517) (by decide +kernel), by decide +kernel⟩
theorem rm_X9_142 : (.methodLink RX9 142 yX3_putAt) ∈ rd_T := List.mem_filter.mpr ⟨List.mem_of_getElem? (i := 519) (by decide +kernel), by decide +kernel⟩
theorem ri_X3_putAt : (.instanceMethod yX3_putAt) ∈ rd_T := List.mem_filter.mpr ⟨List.mem_of_getElem? (i := 520) (by decide +kernel), by decide +kernel⟩
theorem rs_X3_putAt : (.selects RX3 yX3_putAt yX3_putAt) ∈ rd_T := List.mem_filter.mpr ⟨List.mem_of_getElem? (i := 521) (by decide +kernel), by decide +kernel⟩
theorem rc_X3_putAt : (.code yX3_putAt cX3_putAt 5 (Option.none : Option Jvm.ClassFile.FieldType)) ∈ rd_T := List.mem_filter.mpr ⟨List.mem_of_getElem? (i := 522) (by decide +kernel), by decide +kernel⟩
theorem rm_L_84 : (.methodLink RL 84 yX9_setEnd) ∈ rd_T := List.mem_filter.mpr ⟨List.mem_of_getElem? (i := 523) (by decide +kernel), by decide +kernel⟩
theorem ri_X9_setEnd : (.instanceMethod yX9_setEnd) ∈ rd_T := List.mem_filter.mpr ⟨List.mem_of_getElem? (i := 524) (by decide +kernel), by decide +kernel⟩
theorem rs_X9_setEnd : (.selects RX9 yX9_setEnd yX9_setEnd) ∈ rd_T := List.mem_filter.mpr ⟨List.mem_of_getElem? (i := 525) (by decide +kernel), by decide +kernel⟩
theorem rc_X9_setEnd : (.code yX9_setEnd cX9_setEnd 3 (Option.some Jvm.ClassFile.FieldType.int)) ∈ rd_T := List.mem_filter.mpr ⟨List.mem_of_getElem? (i := 526) (by decide +kernel), by decide +kernel⟩
theorem rm_L_87 : (.methodLink RL 87 yX9_stop) ∈ rd_T := List.mem_filter.mpr ⟨List.mem_of_getElem? (i := 527) (by decide +kernel), by decide +kernel⟩
theorem ri_X9_stop : (.instanceMethod yX9_stop) ∈ rd_T := List.mem_filter.mpr ⟨List.mem_of_getElem? (i := 528) (by decide +kernel), by decide +kernel⟩
theorem rs_X9_stop : (.selects RX9 yX9_stop yX9_stop) ∈ rd_T := List.mem_filter.mpr ⟨List.mem_of_getElem? (i := 529) (by decide +kernel), by decide +kernel⟩
theorem rc_X9_stop : (.code yX9_stop cX9_stop 2 (Option.some Jvm.ClassFile.FieldType.int)) ∈ rd_T := List.mem_filter.mpr ⟨List.mem_of_getElem? (i := 530) (by decide +kernel), by decide +kernel⟩
theorem rm_X9_161 : (.methodLink RX9 161 yX6_clear) ∈ rd_T := List.mem_filter.mpr ⟨List.mem_of_getElem? (i := 531) (by decide +kernel), by decide +kernel⟩
theorem ri_X6_clear : (.instanceMethod yX6_clear) ∈ rd_T := List.mem_filter.mpr ⟨List.mem_of_getElem? (i := 532) (by decide +kernel), by decide +kernel⟩
theorem rs_X6_clear : (.selects RX6 yX6_clear yX6_clear) ∈ rd_T := List.mem_filter.mpr ⟨List.mem_of_getElem? (i := 533) (by decide +kernel), by decide +kernel⟩
theorem rc_X6_clear : (.code yX6_clear cX6_clear 1 (Option.none : Option Jvm.ClassFile.FieldType)) ∈ rd_T := List.mem_filter.mpr ⟨List.mem_of_getElem? (i := 534) (by decide +kernel), by decide +kernel⟩
theorem rm_L_90 : (.methodLink RL 90 yX9_start) ∈ rd_T := List.mem_filter.mpr ⟨List.mem_of_getElem? (i := 535) (by decide +kernel), by decide +kernel⟩
theorem ri_X9_start : (.instanceMethod yX9_start) ∈ rd_T := List.mem_filter.mpr ⟨List.mem_of_getElem? (i := 536) (by decide +kernel), by decide +kernel⟩
theorem rs_X9_start : (.selects RX9 yX9_start yX9_start) ∈ rd_T := List.mem_filter.mpr ⟨List.mem_of_getElem? (i := 537) (by decide +kernel), by decide +kernel⟩
theorem rc_X9_start : (.code yX9_start cX9_start 2 (Option.some Jvm.ClassFile.FieldType.int)) ∈ rd_T := List.mem_filter.mpr ⟨List.mem_of_getElem? (i := 538) (by decide +kernel), by decide +kernel⟩
theorem rm_X9_148 : (.methodLink RX9 148 yX0_nextShown) ∈ rd_T := List.mem_filter.mpr ⟨List.mem_of_getElem? (i := 539) (by decide +kernel), by decide +kernel⟩
theorem ri_X0_nextShown : (.instanceMethod yX0_nextShown) ∈ rd_T := List.mem_filter.mpr ⟨List.mem_of_getElem? (i := 540) (by decide +kernel), by decide +kernel⟩
theorem rs_X0_nextShown : (.selects RX0 yX0_nextShown yX0_nextShown) ∈ rd_T := List.mem_filter.mpr ⟨List.mem_of_getElem? (i := 541) (by decide +kernel), by decide +kernel⟩
theorem rc_X0_nextShown : (.code yX0_nextShown cX0_nextShown 5 (Option.some Jvm.ClassFile.FieldType.int)) ∈ rd_T := List.mem_filter.mpr ⟨List.mem_of_getElem? (i := 542) (by decide +kernel), by decide +kernel⟩
theorem rm_X0_66 : (.methodLink RX0 66 yX0_numberAt) ∈ rd_T := List.mem_filter.mpr ⟨List.mem_of_getElem? (i := 543) (by decide +kernel), by decide +kernel⟩
theorem rm_X9_151 : (.methodLink RX9 151 yX6_begin) ∈ rd_T := List.mem_filter.mpr ⟨List.mem_of_getElem? (i := 544) (by decide +kernel), by decide +kernel⟩
theorem ri_X6_begin : (.instanceMethod yX6_begin) ∈ rd_T := List.mem_filter.mpr ⟨List.mem_of_getElem? (i := 545) (by decide +kernel), by decide +kernel⟩
theorem rs_X6_begin : (.selects RX6 yX6_begin yX6_begin) ∈ rd_T := List.mem_filter.mpr ⟨List.mem_of_getElem? (i := 546) (by decide +kernel), by decide +kernel⟩
theorem rc_X6_begin : (.code yX6_begin cX6_begin 2 (Option.none : Option Jvm.ClassFile.FieldType)) ∈ rd_T := List.mem_filter.mpr ⟨List.mem_of_getElem? (i := 547) (by decide +kernel), by decide +kernel⟩
theorem rm_X6_46 : (.methodLink RX6 46 yX6_clear) ∈ rd_T := List.mem_filter.mpr ⟨List.mem_of_getElem? (i := 548) (by decide +kernel), by decide +kernel⟩
theorem rm_L_93 : (.methodLink RL 93 yX9_back) ∈ rd_T := List.mem_filter.mpr ⟨List.mem_of_getElem? (i := 549) (by decide +kernel), by decide +kernel⟩
theorem ri_X9_back : (.instanceMethod yX9_back) ∈ rd_T := List.mem_filter.mpr ⟨List.mem_of_getElem? (i := 550) (by decide +kernel), by decide +kernel⟩
theorem rs_X9_back : (.selects RX9 yX9_back yX9_back) ∈ rd_T := List.mem_filter.mpr ⟨List.mem_of_getElem? (i := 551) (by decide +kernel), by decide +kernel⟩
theorem rc_X9_back : (.code yX9_back cX9_back 1 (Option.some Jvm.ClassFile.FieldType.int)) ∈ rd_T := List.mem_filter.mpr ⟨List.mem_of_getElem? (i := 552) (by decide +kernel), by decide +kernel⟩
theorem rm_X9_164 : (.methodLink RX9 164 yX8_canMake) ∈ rd_T := List.mem_filter.mpr ⟨List.mem_of_getElem? (i := 553) (by decide +kernel), by decide +kernel⟩
theorem ri_X8_canMake : (.instanceMethod yX8_canMake) ∈ rd_T := List.mem_filter.mpr ⟨List.mem_of_getElem? (i := 554) (by decide +kernel), by decide +kernel⟩
theorem rs_X8_canMake : (.selects RX8 yX8_canMake yX8_canMake) ∈ rd_T := List.mem_filter.mpr ⟨List.mem_of_getElem? (i := 555) (by decide +kernel), by decide +kernel⟩
theorem rc_X8_canMake : (.code yX8_canMake cX8_canMake 4 (Option.some Jvm.ClassFile.FieldType.boolean)) ∈ rd_T := List.mem_filter.mpr ⟨List.mem_of_getElem? (i := 556) (by decide +kernel), by decide +kernel⟩
theorem rm_X8_60 : (.methodLink RX8 60 yX8_isOver) ∈ rd_T := List.mem_filter.mpr ⟨List.mem_of_getElem? (i := 557) (by decide +kernel), by decide +kernel⟩
theorem rm_X8_64 : (.methodLink RX8 64 yX8_nextNumber) ∈ rd_T := List.mem_filter.mpr ⟨List.mem_of_getElem? (i := 558) (by decide +kernel), by decide +kernel⟩
theorem ri_X8_nextNumber : (.instanceMethod yX8_nextNumber) ∈ rd_T := List.mem_filter.mpr ⟨List.mem_of_getElem? (i := 559) (by decide +kernel), by decide +kernel⟩
theorem rs_X8_nextNumber : (.selects RX8 yX8_nextNumber yX8_nextNumber) ∈ rd_T := List.mem_filter.mpr ⟨List.mem_of_getElem? (i := 560) (by decide +kernel), by decide +kernel⟩
theorem rc_X8_nextNumber : (.code yX8_nextNumber cX8_nextNumber 2 (Option.some Jvm.ClassFile.FieldType.int)) ∈ rd_T := List.mem_filter.mpr ⟨List.mem_of_getElem? (i := 561) (by decide +kernel), by decide +kernel⟩
theorem rm_X8_96 : (.methodLink RX8 96 yX0_placeOf) ∈ rd_T := List.mem_filter.mpr ⟨List.mem_of_getElem? (i := 562) (by decide +kernel), by decide +kernel⟩
theorem rm_X8_99 : (.methodLink RX8 99 yX0_nextShown) ∈ rd_T := List.mem_filter.mpr ⟨List.mem_of_getElem? (i := 563) (by decide +kernel), by decide +kernel⟩
theorem rm_X8_68 : (.methodLink RX8 68 yX8_backPlace) ∈ rd_T := List.mem_filter.mpr ⟨List.mem_of_getElem? (i := 564) (by decide +kernel), by decide +kernel⟩
theorem ri_X8_backPlace : (.instanceMethod yX8_backPlace) ∈ rd_T := List.mem_filter.mpr ⟨List.mem_of_getElem? (i := 565) (by decide +kernel), by decide +kernel⟩
theorem rs_X8_backPlace : (.selects RX8 yX8_backPlace yX8_backPlace) ∈ rd_T := List.mem_filter.mpr ⟨List.mem_of_getElem? (i := 566) (by decide +kernel), by decide +kernel⟩
theorem rc_X8_backPlace : (.code yX8_backPlace cX8_backPlace 3 (Option.some Jvm.ClassFile.FieldType.int)) ∈ rd_T := List.mem_filter.mpr ⟨List.mem_of_getElem? (i := 567) (by decide +kernel), by decide +kernel⟩
theorem rm_X8_112 : (.methodLink RX8 112 yX6_trailValue) ∈ rd_T := List.mem_filter.mpr ⟨List.mem_of_getElem? (i := 568) (by decide +kernel), by decide +kernel⟩
theorem rm_X8_71 : (.methodLink RX8 71 yX7_targetOf) ∈ rd_T := List.mem_filter.mpr ⟨List.mem_of_getElem? (i := 569) (by decide +kernel), by decide +kernel⟩
theorem rm_X9_168 : (.methodLink RX9 168 yX8_make) ∈ rd_T := List.mem_filter.mpr ⟨List.mem_of_getElem? (i := 570) (by decide +kernel), by decide +kernel⟩
theorem ri_X8_make : (.instanceMethod yX8_make) ∈ rd_T := List.mem_filter.mpr ⟨List.mem_of_getElem? (i := 571) (by decide +kernel), by decide +kernel⟩
theorem rs_X8_make : (.selects RX8 yX8_make yX8_make) ∈ rd_T := List.mem_filter.mpr ⟨List.mem_of_getElem? (i := 572) (by decide +kernel), by decide +kernel⟩
theorem rc_X8_make : (.code yX8_make cX8_make 3 (Option.none : Option Jvm.ClassFile.FieldType)) ∈ rd_T := List.mem_filter.mpr ⟨List.mem_of_getElem? (i := 573) (by decide +kernel), by decide +kernel⟩
theorem rm_X8_77 : (.methodLink RX8 77 yX8_goForward) ∈ rd_T := List.mem_filter.mpr ⟨List.mem_of_getElem? (i := 574) (by decide +kernel), by decide +kernel⟩
theorem ri_X8_goForward : (.instanceMethod yX8_goForward) ∈ rd_T := List.mem_filter.mpr ⟨List.mem_of_getElem? (i := 575) (by decide +kernel), by decide +kernel⟩
theorem rs_X8_goForward : (.selects RX8 yX8_goForward yX8_goForward) ∈ rd_T := List.mem_filter.mpr ⟨List.mem_of_getElem? (i := 576) (by decide +kernel), by decide +kernel⟩
theorem rc_X8_goForward : (.code yX8_goForward cX8_goForward 3 (Option.none : Option Jvm.ClassFile.FieldType)) ∈ rd_T := List.mem_filter.mpr ⟨List.mem_of_getElem? (i := 577) (by decide +kernel), by decide +kernel⟩
theorem rm_X8_105 : (.methodLink RX8 105 yX6_moveTo) ∈ rd_T := List.mem_filter.mpr ⟨List.mem_of_getElem? (i := 578) (by decide +kernel), by decide +kernel⟩
theorem ri_X6_moveTo : (.instanceMethod yX6_moveTo) ∈ rd_T := List.mem_filter.mpr ⟨List.mem_of_getElem? (i := 579) (by decide +kernel), by decide +kernel⟩
theorem rs_X6_moveTo : (.selects RX6 yX6_moveTo yX6_moveTo) ∈ rd_T := List.mem_filter.mpr ⟨List.mem_of_getElem? (i := 580) (by decide +kernel), by decide +kernel⟩
theorem rc_X6_moveTo : (.code yX6_moveTo cX6_moveTo 4 (Option.none : Option Jvm.ClassFile.FieldType)) ∈ rd_T := List.mem_filter.mpr ⟨List.mem_of_getElem? (i := 581) (by decide +kernel), by decide +kernel⟩
theorem rm_X6_49 : (.methodLink RX6 49 yX6_dropOldest) ∈ rd_T := List.mem_filter.mpr ⟨List.mem_of_getElem? (i := 582) (by decide +kernel), by decide +kernel⟩
theorem ri_X6_dropOldest : (.instanceMethod yX6_dropOldest) ∈ rd_T := List.mem_filter.mpr ⟨List.mem_of_getElem? (i := 583) (by decide +kernel), by decide +kernel⟩
theorem rs_X6_dropOldest : (.selects RX6 yX6_dropOldest yX6_dropOldest) ∈ rd_T := List.mem_filter.mpr ⟨List.mem_of_getElem? (i := 584) (by decide +kernel), by decide +kernel⟩
theorem rc_X6_dropOldest : (.code yX6_dropOldest cX6_dropOldest 2 (Option.none : Option Jvm.ClassFile.FieldType)) ∈ rd_T := List.mem_filter.mpr ⟨List.mem_of_getElem? (i := 585) (by decide +kernel), by decide +kernel⟩
theorem rm_X8_80 : (.methodLink RX8 80 yX8_goBack) ∈ rd_T := List.mem_filter.mpr ⟨List.mem_of_getElem? (i := 586) (by decide +kernel), by decide +kernel⟩
theorem ri_X8_goBack : (.instanceMethod yX8_goBack) ∈ rd_T := List.mem_filter.mpr ⟨List.mem_of_getElem? (i := 587) (by decide +kernel), by decide +kernel⟩
theorem rs_X8_goBack : (.selects RX8 yX8_goBack yX8_goBack) ∈ rd_T := List.mem_filter.mpr ⟨List.mem_of_getElem? (i := 588) (by decide +kernel), by decide +kernel⟩
theorem rc_X8_goBack : (.code yX8_goBack cX8_goBack 1 (Option.none : Option Jvm.ClassFile.FieldType)) ∈ rd_T := List.mem_filter.mpr ⟨List.mem_of_getElem? (i := 589) (by decide +kernel), by decide +kernel⟩
theorem rm_X8_120 : (.methodLink RX8 120 yX6_returnTo) ∈ rd_T := List.mem_filter.mpr ⟨List.mem_of_getElem? (i := 590) (by decide +kernel), by decide +kernel⟩
theorem ri_X6_returnTo : (.instanceMethod yX6_returnTo) ∈ rd_T := List.mem_filter.mpr ⟨List.mem_of_getElem? (i := 591) (by decide +kernel), by decide +kernel⟩
theorem rs_X6_returnTo : (.selects RX6 yX6_returnTo yX6_returnTo) ∈ rd_T := List.mem_filter.mpr ⟨List.mem_of_getElem? (i := 592) (by decide +kernel), by decide +kernel⟩
theorem rc_X6_returnTo : (.code yX6_returnTo cX6_returnTo 2 (Option.none : Option Jvm.ClassFile.FieldType)) ∈ rd_T := List.mem_filter.mpr ⟨List.mem_of_getElem? (i := 593) (by decide +kernel), by decide +kernel⟩
theorem rm_X8_123 : (.methodLink RX8 123 yX8_clampStep) ∈ rd_T := List.mem_filter.mpr ⟨List.mem_of_getElem? (i := 594) (by decide +kernel), by decide +kernel⟩
theorem rm_X8_83 : (.methodLink RX8 83 yX8_goByKey) ∈ rd_T := List.mem_filter.mpr ⟨List.mem_of_getElem? (i := 595) (by decide +kernel), by decide +kernel⟩
theorem ri_X8_goByKey : (.instanceMethod yX8_goByKey) ∈ rd_T := List.mem_filter.mpr ⟨List.mem_of_getElem? (i := 596) (by decide +kernel), by decide +kernel⟩
theorem rs_X8_goByKey : (.selects RX8 yX8_goByKey yX8_goByKey) ∈ rd_T := List.mem_filter.mpr ⟨List.mem_of_getElem? (i := 597) (by decide +kernel), by decide +kernel⟩
theorem rc_X8_goByKey : (.code yX8_goByKey cX8_goByKey 3 (Option.none : Option Jvm.ClassFile.FieldType)) ∈ rd_T := List.mem_filter.mpr ⟨List.mem_of_getElem? (i := 598) (by decide +kernel), by decide +kernel⟩
theorem rm_X8_87 : (.methodLink RX8 87 yX8_passSeconds) ∈ rd_T := List.mem_filter.mpr ⟨List.mem_of_getElem? (i := 599) (by decide +kernel), by decide +kernel⟩
theorem ri_X8_passSeconds : (.instanceMethod yX8_passSeconds) ∈ rd_T := List.mem_filter.mpr ⟨List.mem_of_getElem? (i := 600) (by decide +kernel), by decide +kernel⟩
theorem rs_X8_passSeconds : (.selects RX8 yX8_passSeconds yX8_passSeconds) ∈ rd_T := List.mem_filter.mpr ⟨List.mem_of_getElem? (i := 601) (by decide +kernel), by decide +kernel⟩
theorem rc_X8_passSeconds : (.code yX8_passSeconds cX8_passSeconds 4 (Option.some Jvm.ClassFile.FieldType.int)) ∈ rd_T := List.mem_filter.mpr ⟨List.mem_of_getElem? (i := 602) (by decide +kernel), by decide +kernel⟩
theorem rm_X8_134 : (.methodLink RX8 134 yX8_isPauseOver) ∈ rd_T := List.mem_filter.mpr ⟨List.mem_of_getElem? (i := 603) (by decide +kernel), by decide +kernel⟩
theorem ri_X8_isPauseOver : (.instanceMethod yX8_isPauseOver) ∈ rd_T := List.mem_filter.mpr ⟨List.mem_of_getElem? (i := 604) (by decide +kernel), by decide +kernel⟩
theorem rs_X8_isPauseOver : (.selects RX8 yX8_isPauseOver yX8_isPauseOver) ∈ rd_T := List.mem_filter.mpr ⟨List.mem_of_getElem? (i := 605) (by decide +kernel), by decide +kernel⟩
theorem rc_X8_isPauseOver : (.code yX8_isPauseOver cX8_isPauseOver 2 (Option.some Jvm.ClassFile.FieldType.boolean)) ∈ rd_T := List.mem_filter.mpr ⟨List.mem_of_getElem? (i := 606) (by decide +kernel), by decide +kernel⟩
theorem rm_L_96 : (.methodLink RL 96 yX9_press) ∈ rd_T := List.mem_filter.mpr ⟨List.mem_of_getElem? (i := 607) (by decide +kernel), by decide +kernel⟩
theorem ri_X9_press : (.instanceMethod yX9_press) ∈ rd_T := List.mem_filter.mpr ⟨List.mem_of_getElem? (i := 608) (by decide +kernel), by decide +kernel⟩
theorem rs_X9_press : (.selects RX9 yX9_press yX9_press) ∈ rd_T := List.mem_filter.mpr ⟨List.mem_of_getElem? (i := 609) (by decide +kernel), by decide +kernel⟩
theorem rc_X9_press : (.code yX9_press cX9_press 2 (Option.some Jvm.ClassFile.FieldType.int)) ∈ rd_T := List.mem_filter.mpr ⟨List.mem_of_getElem? (i := 610) (by decide +kernel), by decide +kernel⟩
theorem rm_L_99 : (.methodLink RL 99 yX9_tick) ∈ rd_T := List.mem_filter.mpr ⟨List.mem_of_getElem? (i := 611) (by decide +kernel), by decide +kernel⟩
theorem ri_X9_tick : (.instanceMethod yX9_tick) ∈ rd_T := List.mem_filter.mpr ⟨List.mem_of_getElem? (i := 612) (by decide +kernel), by decide +kernel⟩

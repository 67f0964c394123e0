theorem rm_L_20 : (.methodLink RL 20 yX9_labels) ∈ rd_T := List.mem_filter.mpr ⟨List.mem_of_getElem? (i := 309) (by decide +kernel), by decide +kernel⟩
theorem ri_X9_labels : (.instanceMethod yX9_labels) ∈ rd_T := List.mem_filter.mpr ⟨List.mem_of_getElem? (i := 310) (by decide +kernel), by decide +kernel⟩
theorem rs_X9_labels : (.selects RX9 yX9_labels yX9_labels) ∈ rd_T := List.mem_filter.mpr ⟨List.mem_of_getElem? (i := 311) (by decide +kernel), by decide +kernel⟩
theorem rc_X9_labels : (.code yX9_labels cX9_labels 2 (Option.some Jvm.ClassFile.FieldType.int)) ∈ rd_T := List.mem_filter.mpr ⟨List.mem_of_getElem? (i := 312) (by decide +kernel), by decide +kernel⟩
theorem rm_X9_154 : (.methodLink RX9 154 yX8_here) ∈ rd_T := List.mem_filter.mpr ⟨List.mem_of_getElem? (i := 313) (by decide +kernel), by decide +kernel⟩
theorem ri_X8_here : (.instanceMethod yX8_here) ∈ rd_T := List.mem_filter.mpr ⟨List.mem_of_getElem? (i := 314) (by decide +kernel), by decide +kernel⟩
theorem rs_X8_here : (.selects RX8 yX8_here yX8_here) ∈ rd_T := List.mem_filter.mpr ⟨List.mem_of_getElem? (i := 315) (by decide +kernel), by decide +kernel⟩
theorem rc_X8_here : (.code yX8_here cX8_here 1 (Option.some (Jvm.ClassFile.FieldType.object "RevealDeck$Slide"))) ∈ rd_T := List.mem_filter.mpr ⟨List.mem_of_getElem? (i := 316) (by decide +kernel), by decide +kernel⟩
theorem rm_X8_49 : (.methodLink RX8 49 yX0_find) ∈ rd_T := List.mem_filter.mpr ⟨List.mem_of_getElem? (i := 317) (by decide +kernel), by decide +kernel⟩
theorem ri_X0_find : (.instanceMethod yX0_find) ∈ rd_T := List.mem_filter.mpr ⟨List.mem_of_getElem? (i := 318) (by decide +kernel), by decide +kernel⟩
theorem rs_X0_find : (.selects RX0 yX0_find yX0_find) ∈ rd_T := List.mem_filter.mpr ⟨List.mem_of_getElem? (i := 319) (by decide +kernel), by decide +kernel⟩
theorem rc_X0_find : (.code yX0_find cX0_find 3 (Option.some (Jvm.ClassFile.FieldType.object "RevealDeck$Slide"))) ∈ rd_T := List.mem_filter.mpr ⟨List.mem_of_getElem? (i := 320) (by decide +kernel), by decide +kernel⟩
theorem rm_X9_256 : (.methodLink RX9 256 yX7_sumTagsAt) ∈ rd_T := List.mem_filter.mpr ⟨List.mem_of_getElem? (i := 321) (by decide +kernel), by decide +kernel⟩
theorem ri_X7_sumTagsAt : (.instanceMethod yX7_sumTagsAt) ∈ rd_T := List.mem_filter.mpr ⟨List.mem_of_getElem? (i := 322) (by decide +kernel), by decide +kernel⟩
theorem rs_X7_sumTagsAt : (.selects RX7 yX7_sumTagsAt yX7_sumTagsAt) ∈ rd_T := List.mem_filter.mpr ⟨List.mem_of_getElem? (i := 323) (by decide +kernel), by decide +kernel⟩
theorem rc_X7_sumTagsAt : (.code yX7_sumTagsAt cX7_sumTagsAt 4 (Option.some Jvm.ClassFile.FieldType.int)) ∈ rd_T := List.mem_filter.mpr ⟨List.mem_of_getElem? (i := 324) (by decide +kernel), by decide +kernel⟩
theorem rm_X7_54 : (.methodLink RX7 54 yX7_isSeen) ∈ rd_T := List.mem_filter.mpr ⟨List.mem_of_getElem? (i := 325) (by decide +kernel), by decide +kernel⟩
theorem ri_X7_isSeen : (.instanceMethod yX7_isSeen) ∈ rd_T := List.mem_filter.mpr ⟨List.mem_of_getElem? (i := 326) (by decide +kernel), by decide +kernel⟩
theorem rs_X7_isSeen : (.selects RX7 yX7_isSeen yX7_isSeen) ∈ rd_T := List.mem_filter.mpr ⟨List.mem_of_getElem? (i := 327) (by decide +kernel), by decide +kernel⟩
theorem rc_X7_isSeen : (.code yX7_isSeen cX7_isSeen 3 (Option.some Jvm.ClassFile.FieldType.boolean)) ∈ rd_T := List.mem_filter.mpr ⟨List.mem_of_getElem? (i := 328) (by decide +kernel), by decide +kernel⟩
theorem rm_L_23 : (.methodLink RL 23 yX9_now) ∈ rd_T := List.mem_filter.mpr ⟨List.mem_of_getElem? (i := 329) (by decide +kernel), by decide +kernel⟩
theorem ri_X9_now : (.instanceMethod yX9_now) ∈ rd_T := List.mem_filter.mpr ⟨List.mem_of_getElem? (i := 330) (by decide +kernel), by decide +kernel⟩
theorem rs_X9_now : (.selects RX9 yX9_now yX9_now) ∈ rd_T := List.mem_filter.mpr ⟨List.mem_of_getElem? (i := 331) (by decide +kernel), by decide +kernel⟩
theorem rc_X9_now : (.code yX9_now cX9_now 2 (Option.some Jvm.ClassFile.FieldType.int)) ∈ rd_T := List.mem_filter.mpr ⟨List.mem_of_getElem? (i := 332) (by decide +kernel), by decide +kernel⟩
theorem rm_X9_82 : (.methodLink RX9 82 yX9_isWithin) ∈ rd_T := List.mem_filter.mpr ⟨List.mem_of_getElem? (i := 333) (by decide +kernel), by decide +kernel⟩
theorem rt_X9_isWithin : (.static yX9_isWithin) ∈ rd_T := List.mem_filter.mpr ⟨List.mem_of_getElem? (i := 334) (by decide +kernel), by decide +kernel⟩
theorem rc_X9_isWithin : (.code yX9_isWithin cX9_isWithin 3 (Option.some Jvm.ClassFile.FieldType.boolean)) ∈ rd_T := List.mem_filter.mpr ⟨List.mem_of_getElem? (i := 335) (by decide +kernel), by decide +kernel⟩
theorem rm_X9_245 : (.methodLink RX9 245 yX8_isOver) ∈ rd_T := List.mem_filter.mpr ⟨List.mem_of_getElem? (i := 336) (by decide +kernel), by decide +kernel⟩
theorem ri_X8_isOver : (.instanceMethod yX8_isOver) ∈ rd_T := List.mem_filter.mpr ⟨List.mem_of_getElem? (i := 337) (by decide +kernel), by decide +kernel⟩
theorem rs_X8_isOver : (.selects RX8 yX8_isOver yX8_isOver) ∈ rd_T := List.mem_filter.mpr ⟨List.mem_of_getElem? (i := 338) (by decide +kernel), by decide +kernel⟩
theorem rc_X8_isOver : (.code yX8_isOver cX8_isOver 1 (Option.some Jvm.ClassFile.FieldType.boolean)) ∈ rd_T := List.mem_filter.mpr ⟨List.mem_of_getElem? (i := 339) (by decide +kernel), by decide +kernel⟩
theorem rm_X9_219 : (.methodLink RX9 219 yX9_asNumber) ∈ rd_T := List.mem_filter.mpr ⟨List.mem_of_getElem? (i := 340) (by decide +kernel), by decide +kernel⟩
theorem rt_X9_asNumber : (.static yX9_asNumber) ∈ rd_T := List.mem_filter.mpr ⟨List.mem_of_getElem? (i := 341) (by decide +kernel), by decide +kernel⟩
theorem rc_X9_asNumber : (.code yX9_asNumber cX9_asNumber 1 (Option.some Jvm.ClassFile.FieldType.int)) ∈ rd_T := List.mem_filter.mpr ⟨List.mem_of_getElem? (i := 342) (by decide +kernel), by decide +kernel⟩
theorem rm_L_27 : (.methodLink RL 27 yX9_trail) ∈ rd_T := List.mem_filter.mpr ⟨List.mem_of_getElem? (i := 343) (by decide +kernel), by decide +kernel⟩
theorem ri_X9_trail : (.instanceMethod yX9_trail) ∈ rd_T := List.mem_filter.mpr ⟨List.mem_of_getElem? (i := 344) (by decide +kernel), by decide +kernel⟩
theorem rs_X9_trail : (.selects RX9 yX9_trail yX9_trail) ∈ rd_T := List.mem_filter.mpr ⟨List.mem_of_getElem? (i := 345) (by decide +kernel), by decide +kernel⟩
theorem rc_X9_trail : (.code yX9_trail cX9_trail 3 (Option.some Jvm.ClassFile.FieldType.int)) ∈ rd_T := List.mem_filter.mpr ⟨List.mem_of_getElem? (i := 346) (by decide +kernel), by decide +kernel⟩
theorem rm_X9_252 : (.methodLink RX9 252 yX6_trailValue) ∈ rd_T := List.mem_filter.mpr ⟨List.mem_of_getElem? (i := 347) (by decide +kernel), by decide +kernel⟩
theorem ri_X6_trailValue : (.instanceMethod yX6_trailValue) ∈ rd_T := List.mem_filter.mpr ⟨List.mem_of_getElem? (i := 348) (by decide +kernel), by decide +kernel⟩
theorem rs_X6_trailValue : (.selects RX6 yX6_trailValue yX6_trailValue) ∈ rd_T := List.mem_filter.mpr ⟨List.mem_of_getElem? (i := 349) (by decide +kernel), by decide +kernel⟩
theorem rc_X6_trailValue : (.code yX6_trailValue cX6_trailValue 3 (Option.some Jvm.ClassFile.FieldType.int)) ∈ rd_T := List.mem_filter.mpr ⟨List.mem_of_getElem? (i := 350) (by decide +kernel), by decide +kernel⟩
theorem rm_L_31 : (.methodLink RL 31 yX9_slideAt) ∈ rd_T := List.mem_filter.mpr ⟨List.mem_of_getElem? (i := 352) (by decide +kernel), by decide +kernel⟩
theorem ri_X9_slideAt : (.instanceMethod yX9_slideAt) ∈ rd_T := List.mem_filter.mpr ⟨List.mem_of_getElem? (i := 353) (by decide +kernel), by decide +kernel⟩
theorem rs_X9_slideAt : (.selects RX9 yX9_slideAt yX9_slideAt) ∈ rd_T := List.mem_filter.mpr ⟨List.mem_of_getElem? (i := 354) (by decide +kernel), by decide +kernel⟩
theorem rc_X9_slideAt : (.code yX9_slideAt cX9_slideAt 3 (Option.some Jvm.ClassFile.FieldType.int)) ∈ rd_T := List.mem_filter.mpr ⟨List.mem_of_getElem? (i := 355) (by decide +kernel), by decide +kernel⟩
theorem rm_X9_216 : (.methodLink RX9 216 yX0_numberAt) ∈ rd_T := List.mem_filter.mpr ⟨List.mem_of_getElem? (i := 356) (by decide +kernel), by decide +kernel⟩
theorem ri_X0_numberAt : (.instanceMethod yX0_numberAt) ∈ rd_T := List.mem_filter.mpr ⟨List.mem_of_getElem? (i := 357) (by decide +kernel), by decide +kernel⟩
theorem rs_X0_numberAt : (.selects RX0 yX0_numberAt yX0_numberAt) ∈ rd_T := List.mem_filter.mpr ⟨List.mem_of_getElem? (i := 358) (by decide +kernel), by decide +kernel⟩
theorem rc_X0_numberAt : (.code yX0_numberAt cX0_numberAt 2 (Option.some Jvm.ClassFile.FieldType.int)) ∈ rd_T := List.mem_filter.mpr ⟨List.mem_of_getElem? (i := 359) (by decide +kernel), by decide +kernel⟩
theorem rm_L_34 : (.methodLink RL 34 yX9_slide) ∈ rd_T := List.mem_filter.mpr ⟨List.mem_of_getElem? (i := 360) (by decide +kernel), by decide +kernel⟩
theorem ri_X9_slide : (.instanceMethod yX9_slide) ∈ rd_T := List.mem_filter.mpr ⟨List.mem_of_getElem? (i := 361) (by decide +kernel), by decide +kernel⟩
theorem rs_X9_slide : (.selects RX9 yX9_slide yX9_slide) ∈ rd_T := List.mem_filter.mpr ⟨List.mem_of_getElem? (i := 362) (by decide +kernel), by decide +kernel⟩
theorem rc_X9_slide : (.code yX9_slide cX9_slide 4 (Option.some Jvm.ClassFile.FieldType.int)) ∈ rd_T := List.mem_filter.mpr ⟨List.mem_of_getElem? (i := 363) (by decide +kernel), by decide +kernel⟩
theorem rm_X9_62 : (.methodLink RX9 62 yX0_find) ∈ rd_T := List.mem_filter.mpr ⟨List.mem_of_getElem? (i := 364) (by decide +kernel), by decide +kernel⟩
theorem rm_X9_86 : (.methodLink RX9 86 yX0_placeOf) ∈ rd_T := List.mem_filter.mpr ⟨List.mem_of_getElem? (i := 365) (by decide +kernel), by decide +kernel⟩
theorem ri_X0_placeOf : (.instanceMethod yX0_placeOf) ∈ rd_T := List.mem_filter.mpr ⟨List.mem_of_getElem? (i := 366) (by decide +kernel), by decide +kernel⟩
theorem rs_X0_placeOf : (.selects RX0 yX0_placeOf yX0_placeOf) ∈ rd_T := List.mem_filter.mpr ⟨List.mem_of_getElem? (i := 367) (by decide +kernel), by decide +kernel⟩
theorem rc_X0_placeOf : (.code yX0_placeOf cX0_placeOf 3 (Option.some Jvm.ClassFile.FieldType.int)) ∈ rd_T := List.mem_filter.mpr ⟨List.mem_of_getElem? (i := 368) (by decide +kernel), by decide +kernel⟩
theorem rm_X9_223 : (.methodLink RX9 223 yX7_finalStep) ∈ rd_T := List.mem_filter.mpr ⟨List.mem_of_getElem? (i := 369) (by decide +kernel), by decide +kernel⟩
theorem ri_X7_finalStep : (.instanceMethod yX7_finalStep) ∈ rd_T := List.mem_filter.mpr ⟨List.mem_of_getElem? (i := 370) (by decide +kernel), by decide +kernel⟩
theorem rs_X7_finalStep : (.selects RX7 yX7_finalStep yX7_finalStep) ∈ rd_T := List.mem_filter.mpr ⟨List.mem_of_getElem? (i := 371) (by decide +kernel), by decide +kernel⟩
theorem rc_X7_finalStep : (.code yX7_finalStep cX7_finalStep 3 (Option.some Jvm.ClassFile.FieldType.int)) ∈ rd_T := List.mem_filter.mpr ⟨List.mem_of_getElem? (i := 372) (by decide +kernel), by decide +kernel⟩
theorem rm_X7_48 : (.methodLink RX7 48 yJ9_max_7cf53) ∈ rd_T := List.mem_filter.mpr ⟨List.mem_of_getElem? (i := 373) (by decide +kernel), by decide +kernel⟩
theorem rt_J9_max_7cf53 : (.static yJ9_max_7cf53) ∈ rd_T := List.mem_filter.mpr ⟨List.mem_of_getElem? (i := 374) (by decide +kernel), by decide +kernel⟩
theorem rc_J9_max_7cf53 : (.code yJ9_max_7cf53 cJ9_max_7cf53 2 (Option.some Jvm.ClassFile.FieldType.int)) ∈ rd_T := List.mem_filter.mpr ⟨List.mem_of_getElem? (i := 375) (by decide +kernel), by decide +kernel⟩
theorem rm_X9_125 : (.methodLink RX9 125 yX7_countLinks) ∈ rd_T := List.mem_filter.mpr ⟨List.mem_of_getElem? (i := 376) (by decide +kernel), by decide +kernel⟩
theorem ri_X7_countLinks : (.instanceMethod yX7_countLinks) ∈ rd_T := List.mem_filter.mpr ⟨List.mem_of_getElem? (i := 377) (by decide +kernel), by decide +kernel⟩
theorem rs_X7_countLinks : (.selects RX7 yX7_countLinks yX7_countLinks) ∈ rd_T := List.mem_filter.mpr ⟨List.mem_of_getElem? (i := 378) (by decide +kernel), by decide +kernel⟩
theorem rc_X7_countLinks : (.code yX7_countLinks cX7_countLinks 6 (Option.some Jvm.ClassFile.FieldType.int)) ∈ rd_T := List.mem_filter.mpr ⟨List.mem_of_getElem? (i := 379) (by decide +kernel), by decide +kernel⟩
theorem rm_L_37 : (.methodLink RL 37 yX9_picture) ∈ rd_T := List.mem_filter.mpr ⟨List.mem_of_getElem? (i := 380) (by decide +kernel), by decide +kernel⟩
theorem ri_X9_picture : (.instanceMethod yX9_picture) ∈ rd_T := List.mem_filter.mpr ⟨List.mem_of_getElem? (i := 381) (by decide +kernel), by decide +kernel⟩
theorem rs_X9_picture : (.selects RX9 yX9_picture yX9_picture) ∈ rd_T := List.mem_filter.mpr ⟨List.mem_of_getElem? (i := 382) (by decide +kernel), by decide +kernel⟩
theorem rc_X9_picture : (.code yX9_picture cX9_picture 4 (Option.some Jvm.ClassFile.FieldType.int)) ∈ rd_T := List.mem_filter.mpr ⟨List.mem_of_getElem? (i := 383) (by decide +kernel), by decide +kernel⟩
theorem rm_X9_236 : (.methodLink RX9 236 yX7_maskAt) ∈ rd_T := List.mem_filter.mpr ⟨List.mem_of_getElem? (i := 384) (by decide +kernel), by decide +kernel⟩
theorem ri_X7_maskAt : (.instanceMethod yX7_maskAt) ∈ rd_T := List.mem_filter.mpr ⟨List.mem_of_getElem? (i := 385) (by decide +kernel), by decide +kernel⟩
theorem rs_X7_maskAt : (.selects RX7 yX7_maskAt yX7_maskAt) ∈ rd_T := List.mem_filter.mpr ⟨List.mem_of_getElem? (i := 386) (by decide +kernel), by decide +kernel⟩
theorem rc_X7_maskAt : (.code yX7_maskAt cX7_maskAt 4 (Option.some Jvm.ClassFile.FieldType.int)) ∈ rd_T := List.mem_filter.mpr ⟨List.mem_of_getElem? (i := 387) (by decide +kernel), by decide +kernel⟩
theorem rm_L_40 : (.methodLink RL 40 yX9_target) ∈ rd_T := List.mem_filter.mpr ⟨List.mem_of_getElem? (i := 388) (by decide +kernel), by decide +kernel⟩
theorem ri_X9_target : (.instanceMethod yX9_target) ∈ rd_T := List.mem_filter.mpr ⟨List.mem_of_getElem? (i := 389) (by decide +kernel), by decide +kernel⟩
theorem rs_X9_target : (.selects RX9 yX9_target yX9_target) ∈ rd_T := List.mem_filter.mpr ⟨List.mem_of_getElem? (i := 390) (by decide +kernel), by decide +kernel⟩
theorem rc_X9_target : (.code yX9_target cX9_target 5 (Option.some Jvm.ClassFile.FieldType.int)) ∈ rd_T := List.mem_filter.mpr ⟨List.mem_of_getElem? (i := 391) (by decide +kernel), by decide +kernel⟩
theorem rm_X9_122 : (.methodLink RX9 122 yX7_targetOf) ∈ rd_T := List.mem_filter.mpr ⟨List.mem_of_getElem? (i := 392) (by decide +kernel), by decide +kernel⟩
theorem ri_X7_targetOf : (.instanceMethod yX7_targetOf) ∈ rd_T := List.mem_filter.mpr ⟨List.mem_of_getElem? (i := 393) (by decide +kernel), by decide +kernel⟩
theorem rs_X7_targetOf : (.selects RX7 yX7_targetOf yX7_targetOf) ∈ rd_T := List.mem_filter.mpr ⟨List.mem_of_getElem? (i := 394) (by decide +kernel), by decide +kernel⟩
theorem rc_X7_targetOf : (.code yX7_targetOf cX7_targetOf 2 (Option.some Jvm.ClassFile.FieldType.int)) ∈ rd_T := List.mem_filter.mpr ⟨List.mem_of_getElem? (i := 395) (by decide +kernel), by decide +kernel⟩
theorem rm_L_43 : (.methodLink RL 43 yX9_noteNow) ∈ rd_T := List.mem_filter.mpr ⟨List.mem_of_getElem? (i := 397) (by decide +kernel), by decide +kernel⟩
theorem ri_X9_noteNow : (.instanceMethod yX9_noteNow) ∈ rd_T := List.mem_filter.mpr ⟨List.mem_of_getElem? (i := 398) (by decide +kernel), by decide +kernel⟩
theorem rs_X9_noteNow : (.selects RX9 yX9_noteNow yX9_noteNow) ∈ rd_T := List.mem_filter.mpr ⟨List.mem_of_getElem? (i := 399) (by decide +kernel), by decide +kernel⟩
theorem rc_X9_noteNow : (.code yX9_noteNow cX9_noteNow 1 (Option.some Jvm.ClassFile.FieldType.int)) ∈ rd_T := List.mem_filter.mpr ⟨List.mem_of_getElem? (i := 400) (by decide +kernel), by decide +kernel⟩
theorem rm_X9_259 : (.methodLink RX9 259 yX3_latestAt) ∈ rd_T := List.mem_filter.mpr ⟨List.mem_of_getElem? (i := 401) (by decide +kernel), by decide +kernel⟩
theorem ri_X3_latestAt : (.instanceMethod yX3_latestAt) ∈ rd_T := List.mem_filter.mpr ⟨List.mem_of_getElem? (i := 402) (by decide +kernel), by decide +kernel⟩
theorem rs_X3_latestAt : (.selects RX3 yX3_latestAt yX3_latestAt) ∈ rd_T := List.mem_filter.mpr ⟨List.mem_of_getElem? (i := 403) (by decide +kernel), by decide +kernel⟩
theorem rc_X3_latestAt : (.code yX3_latestAt cX3_latestAt 5 (Option.some Jvm.ClassFile.FieldType.int)) ∈ rd_T := List.mem_filter.mpr ⟨List.mem_of_getElem? (i := 404) (by decide +kernel), by decide +kernel⟩
theorem rm_L_137 : (.methodLink RL 137 yL_act) ∈ rd_T := List.mem_filter.mpr ⟨List.mem_of_getElem? (i := 405) (by decide +kernel), by decide +kernel⟩
theorem rt_L_act : (.static yL_act) ∈ rd_T := List.mem_filter.mpr ⟨List.mem_of_getElem? (i := 406) (by decide +kernel), by decide +kernel⟩
theorem rc_L_act : (.code yL_act cL_act 7 (Option.some Jvm.ClassFile.FieldType.int)) ∈ rd_T := List.mem_filter.mpr ⟨List.mem_of_getElem? (i := 407) (by decide +kernel), by decide +kernel⟩
theorem rm_L_46 : (.methodLink RL 46 yX9_addSlide) ∈ rd_T := List.mem_filter.mpr ⟨List.mem_of_getElem? (i := 408) (by decide +kernel), by decide +kernel⟩
theorem ri_X9_addSlide : (.instanceMethod yX9_addSlide) ∈ rd_T := List.mem_filter.mpr ⟨List.mem_of_getElem? (i := 409) (by decide +kernel), by decide +kernel⟩
theorem rs_X9_addSlide : (.selects RX9 yX9_addSlide yX9_addSlide) ∈ rd_T := List.mem_filter.mpr ⟨List.mem_of_getElem? (i := 410) (by decide +kernel), by decide +kernel⟩
theorem rc_X9_addSlide : (.code yX9_addSlide cX9_addSlide 2 (Option.some Jvm.ClassFile.FieldType.int)) ∈ rd_T := List.mem_filter.mpr ⟨List.mem_of_getElem? (i := 411) (by decide +kernel), by decide +kernel⟩
theorem rm_X9_48 : (.methodLink RX9 48 yX0_lowestFree) ∈ rd_T := List.mem_filter.mpr ⟨List.mem_of_getElem? (i := 412) (by decide +kernel), by decide +kernel⟩
theorem ri_X0_lowestFree : (.instanceMethod yX0_lowestFree) ∈ rd_T := List.mem_filter.mpr ⟨List.mem_of_getElem? (i := 413) (by decide +kernel), by decide +kernel⟩
theorem rs_X0_lowestFree : (.selects RX0 yX0_lowestFree yX0_lowestFree) ∈ rd_T := List.mem_filter.mpr ⟨List.mem_of_getElem? (i := 414) (by decide +kernel), by decide +kernel⟩
theorem rc_X0_lowestFree : (.code yX0_lowestFree cX0_lowestFree 2 (Option.some Jvm.ClassFile.FieldType.int)) ∈ rd_T := List.mem_filter.mpr ⟨List.mem_of_getElem? (i := 415) (by decide +kernel), by decide +kernel⟩
theorem rm_X9_54 : (.methodLink RX9 54 yX2_keep) ∈ rd_T := List.mem_filter.mpr ⟨List.mem_of_getElem? (i := 416) (by decide +kernel), by decide +kernel⟩
theorem ri_X2_keep : (.instanceMethod yX2_keep) ∈ rd_T := List.mem_filter.mpr ⟨List.mem_of_getElem? (i := 417) (by decide +kernel), by decide +kernel⟩
theorem rs_X2_keep : (.selects RX2 yX2_keep yX2_keep) ∈ rd_T := List.mem_filter.mpr ⟨List.mem_of_getElem? (i := 418) (by decide +kernel), by decide +kernel⟩
theorem rc_X2_keep : (.code yX2_keep cX2_keep 2 (Option.none : Option Jvm.ClassFile.FieldType)) ∈ rd_T := List.mem_filter.mpr ⟨List.mem_of_getElem? (i := 419) (by decide +kernel), by decide +kernel⟩
theorem rm_X2_22 : (.methodLink RX2 22 yX2_dropOldest) ∈ rd_T := List.mem_filter.mpr ⟨List.mem_of_getElem? (i := 420) (by decide +kernel), by decide +kernel⟩
theorem ri_X2_dropOldest : (.instanceMethod yX2_dropOldest) ∈ rd_T := List.mem_filter.mpr ⟨List.mem_of_getElem? (i := 421) (by decide +kernel), by decide +kernel⟩
theorem rs_X2_dropOldest : (.selects RX2 yX2_dropOldest yX2_dropOldest) ∈ rd_T := List.mem_filter.mpr ⟨List.mem_of_getElem? (i := 422) (by decide +kernel), by decide +kernel⟩
theorem rc_X2_dropOldest : (.code yX2_dropOldest cX2_dropOldest 3 (Option.none : Option Jvm.ClassFile.FieldType)) ∈ rd_T := List.mem_filter.mpr ⟨List.mem_of_getElem? (i := 423) (by decide +kernel), by decide +kernel⟩
theorem rm_X9_58 : (.methodLink RX9 58 yX0_putSlide) ∈ rd_T := List.mem_filter.mpr ⟨List.mem_of_getElem? (i := 424) (by decide +kernel), by decide +kernel⟩
theorem ri_X0_putSlide : (.instanceMethod yX0_putSlide) ∈ rd_T := List.mem_filter.mpr ⟨List.mem_of_getElem? (i := 425) (by decide +kernel), by decide +kernel⟩
theorem rs_X0_putSlide : (.selects RX0 yX0_putSlide yX0_putSlide) ∈ rd_T := List.mem_filter.mpr ⟨List.mem_of_getElem? (i := 426) (by decide +kernel), by decide +kernel⟩
theorem rc_X0_putSlide : (.code yX0_putSlide cX0_putSlide 2 (Option.none : Option Jvm.ClassFile.FieldType)) ∈ rd_T := List.mem_filter.mpr ⟨List.mem_of_getElem? (i := 427) (by decide +kernel), by decide +kernel⟩
theorem rm_X0_47 : (.methodLink RX0 47 yX0_putInOrder) ∈ rd_T := List.mem_filter.mpr ⟨List.mem_of_getElem? (i := 429) (by decide +kernel), by decide +kernel⟩
theorem ri_X0_putInOrder : (.instanceMethod yX0_putInOrder) ∈ rd_T := List.mem_filter.mpr ⟨List.mem_of_getElem? (i := 430) (by decide +kernel), by decide +kernel⟩
theorem rs_X0_putInOrder : (.selects RX0 yX0_putInOrder yX0_putInOrder) ∈ rd_T := List.mem_filter.mpr ⟨List.mem_of_getElem? (i := 431) (by decide +kernel), by decide +kernel⟩
theorem rc_X0_putInOrder : (.code yX0_putInOrder cX0_putInOrder 4 (Option.none : Option Jvm.ClassFile.FieldType)) ∈ rd_T := List.mem_filter.mpr ⟨List.mem_of_getElem? (i := 432) (by decide +kernel), by decide +kernel⟩
theorem rm_L_54 : (.methodLink RL 54 yX9_removeSlide) ∈ rd_T := List.mem_filter.mpr ⟨List.mem_of_getElem? (i := 433) (by decide +kernel), by decide +kernel⟩
theorem ri_X9_removeSlide : (.instanceMethod yX9_removeSlide) ∈ rd_T := List.mem_filter.mpr ⟨List.mem_of_getElem? (i := 434) (by decide +kernel), by decide +kernel⟩
theorem rs_X9_removeSlide : (.selects RX9 yX9_removeSlide yX9_removeSlide) ∈ rd_T := List.mem_filter.mpr ⟨List.mem_of_getElem? (i := 435) (by decide +kernel), by decide +kernel⟩
theorem rc_X9_removeSlide : (.code yX9_removeSlide cX9_removeSlide 2 (Option.some Jvm.ClassFile.FieldType.int)) ∈ rd_T := List.mem_filter.mpr ⟨List.mem_of_getElem? (i := 436) (by decide +kernel), by decide +kernel⟩
theorem rm_X9_76 : (.methodLink RX9 76 yX0_dropSlide) ∈ rd_T := List.mem_filter.mpr ⟨List.mem_of_getElem? (i := 437) (by decide +kernel), by decide +kernel⟩
theorem ri_X0_dropSlide : (.instanceMethod yX0_dropSlide) ∈ rd_T := List.mem_filter.mpr ⟨List.mem_of_getElem? (i := 438) (by decide +kernel), by decide +kernel⟩
theorem rs_X0_dropSlide : (.selects RX0 yX0_dropSlide yX0_dropSlide) ∈ rd_T := List.mem_filter.mpr ⟨List.mem_of_getElem? (i := 439) (by decide +kernel), by decide +kernel⟩
theorem rc_X0_dropSlide : (.code yX0_dropSlide cX0_dropSlide 7 (Option.none : Option Jvm.ClassFile.FieldType)) ∈ rd_T := List.mem_filter.mpr ⟨List.mem_of_getElem? (i := 440) (by decide +kernel), by decide +kernel⟩
theorem rm_X0_51 : (.methodLink RX0 51 yX0_find) ∈ rd_T := List.mem_filter.mpr ⟨List.mem_of_getElem? (i := 441) (by decide +kernel), by decide +kernel⟩
theorem rm_X0_55 : (.methodLink RX0 55 yX0_dropFromOrder) ∈ rd_T := List.mem_filter.mpr ⟨List.mem_of_getElem? (i := 442) (by decide +kernel), by decide +kernel⟩
theorem ri_X0_dropFromOrder : (.instanceMethod yX0_dropFromOrder) ∈ rd_T := List.mem_filter.mpr ⟨List.mem_of_getElem? (i := 443) (by decide +kernel), by decide +kernel⟩
theorem rs_X0_dropFromOrder : (.selects RX0 yX0_dropFromOrder yX0_dropFromOrder) ∈ rd_T := List.mem_filter.mpr ⟨List.mem_of_getElem? (i := 444) (by decide +kernel), by decide +kernel⟩
theorem rc_X0_dropFromOrder : (.code yX0_dropFromOrder cX0_dropFromOrder 4 (Option.none : Option Jvm.ClassFile.FieldType)) ∈ rd_T := List.mem_filter.mpr ⟨List.mem_of_getElem? (i := 445) (by decide +kernel), by decide +kernel⟩
theorem rm_X0_62 : (.methodLink RX0 62 yX0_placeOf) ∈ rd_T := List.mem_filter.mpr ⟨List.mem_of_getElem? (i := 446) (by decide +kernel), by decide +kernel⟩
theorem rm_X0_59 : (.methodLink RX0 59 yX7_dropLinksTo) ∈ rd_T := List.mem_filter.mpr ⟨List.mem_of_getElem? (i := 447) (by decide +kernel), by decide +kernel⟩
theorem ri_X7_dropLinksTo : (.instanceMethod yX7_dropLinksTo) ∈ rd_T := List.mem_filter.mpr ⟨List.mem_of_getElem? (i := 448) (by decide +kernel), by decide +kernel⟩
theorem rs_X7_dropLinksTo : (.selects RX7 yX7_dropLinksTo yX7_dropLinksTo) ∈ rd_T := List.mem_filter.mpr ⟨List.mem_of_getElem? (i := 449) (by decide +kernel), by decide +kernel⟩
theorem rc_X7_dropLinksTo : (.code yX7_dropLinksTo cX7_dropLinksTo 3 (Option.none : Option Jvm.ClassFile.FieldType)) ∈ rd_T := List.mem_filter.mpr ⟨List.mem_of_getElem? (i := 450) (by decide +kernel), by decide +kernel⟩
theorem rm_L_57 : (.methodLink RL 57 yX9_moveSlide) ∈ rd_T := List.mem_filter.mpr ⟨List.mem_of_getElem? (i := 451) (by decide +kernel), by decide +kernel⟩
theorem ri_X9_moveSlide : (.instanceMethod yX9_moveSlide) ∈ rd_T := List.mem_filter.mpr ⟨List.mem_of_getElem? (i := 452) (by decide +kernel), by decide +kernel⟩
theorem rs_X9_moveSlide : (.selects RX9 yX9_moveSlide yX9_moveSlide) ∈ rd_T := List.mem_filter.mpr ⟨List.mem_of_getElem? (i := 453) (by decide +kernel), by decide +kernel⟩
theorem rc_X9_moveSlide : (.code yX9_moveSlide cX9_moveSlide 4 (Option.some Jvm.ClassFile.FieldType.int)) ∈ rd_T := List.mem_filter.mpr ⟨List.mem_of_getElem? (i := 454) (by decide +kernel), by decide +kernel⟩
theorem rm_X9_90 : (.methodLink RX9 90 yX0_dropFromOrder) ∈ rd_T := List.mem_filter.mpr ⟨List.mem_of_getElem? (i := 455) (by decide +kernel), by decide +kernel⟩
theorem rm_X9_93 : (.methodLink RX9 93 yX0_putInOrder) ∈ rd_T := List.mem_filter.mpr ⟨List.mem_of_getElem? (i := 456) (by decide +kernel), by decide +kernel⟩
theorem rm_L_60 : (.methodLink RL 60 yX9_hide) ∈ rd_T := List.mem_filter.mpr ⟨List.mem_of_getElem? (i := 457) (by decide +kernel), by decide +kernel⟩
theorem ri_X9_hide : (.instanceMethod yX9_hide) ∈ rd_T := List.mem_filter.mpr ⟨List.mem_of_getElem? (i := 458) (by decide +kernel), by decide +kernel⟩
theorem rs_X9_hide : (.selects RX9 yX9_hide yX9_hide) ∈ rd_T := List.mem_filter.mpr ⟨List.mem_of_getElem? (i := 459) (by decide +kernel), by decide +kernel⟩
theorem rc_X9_hide : (.code yX9_hide cX9_hide 4 (Option.some Jvm.ClassFile.FieldType.int)) ∈ rd_T := List.mem_filter.mpr ⟨List.mem_of_getElem? (i := 460) (by decide +kernel), by decide +kernel⟩
theorem rm_X9_103 : (.methodLink RX9 103 yX0_countHidden) ∈ rd_T := List.mem_filter.mpr ⟨List.mem_of_getElem? (i := 461) (by decide +kernel), by decide +kernel⟩
theorem ri_X0_countHidden : (.instanceMethod yX0_countHidden) ∈ rd_T := List.mem_filter.mpr ⟨List.mem_of_getElem? (i := 462) (by decide +kernel), by decide +kernel⟩
theorem rs_X0_countHidden : (.selects RX0 yX0_countHidden yX0_countHidden) ∈ rd_T := List.mem_filter.mpr ⟨List.mem_of_getElem? (i := 463) (by decide +kernel), by decide +kernel⟩
theorem rc_X0_countHidden : (.code yX0_countHidden cX0_countHidden 6 (Option.some Jvm.ClassFile.FieldType.int)) ∈ rd_T := List.mem_filter.mpr ⟨List.mem_of_getElem? (i := 464) (by decide +kernel), by decide +kernel⟩
theorem rm_L_64 : (.methodLink RL 64 yX9_setPause) ∈ rd_T := List.mem_filter.mpr ⟨List.mem_of_getElem? (i := 465) (by decide +kernel), by decide +kernel⟩
theorem ri_X9_setPause : (.instanceMethod yX9_setPause) ∈ rd_T := List.mem_filter.mpr ⟨List.mem_of_getElem? (i := 466) (by decide +kernel), by decide +kernel⟩
theorem rs_X9_setPause : (.selects RX9 yX9_setPause yX9_setPause) ∈ rd_T := List.mem_filter.mpr ⟨List.mem_of_getElem? (i := 467) (by decide +kernel), by decide +kernel⟩
theorem rc_X9_setPause : (.code yX9_setPause cX9_setPause 5 (Option.some Jvm.ClassFile.FieldType.int)) ∈ rd_T := List.mem_filter.mpr ⟨List.mem_of_getElem? (i := 468) (by decide +kernel), by decide +kernel⟩
theorem rm_L_67 : (.methodLink RL 67 yX9_addItem) ∈ rd_T := List.mem_filter.mpr ⟨List.mem_of_getElem? (i := 469) (by decide +kernel), by decide +kernel⟩
theorem ri_X9_addItem : (.instanceMethod yX9_addItem) ∈ rd_T := List.mem_filter.mpr ⟨List.mem_of_getElem? (i := 470) (by decide +kernel), by decide +kernel⟩
theorem rs_X9_addItem : (.selects RX9 yX9_addItem yX9_addItem) ∈ rd_T := List.mem_filter.mpr ⟨List.mem_of_getElem? (i := 471) (by decide +kernel), by decide +kernel⟩
theorem rc_X9_addItem : (.code yX9_addItem cX9_addItem 6 (Option.some Jvm.ClassFile.FieldType.int)) ∈ rd_T := List.mem_filter.mpr ⟨List.mem_of_getElem? (i := 472) (by decide +kernel), by decide +kernel⟩
theorem rm_X9_112 : (.methodLink RX9 112 yX7_putItem) ∈ rd_T := List.mem_filter.mpr ⟨List.mem_of_getElem? (i := 473) (by decide +kernel), by decide +kernel⟩
theorem ri_X7_putItem : (.instanceMethod yX7_putItem) ∈ rd_T := List.mem_filter.mpr ⟨List.mem_of_getElem? (i := 474) (by decide +kernel), by decide +kernel⟩
theorem rs_X7_putItem : (.selects RX7 yX7_putItem yX7_putItem) ∈ rd_T := List.mem_filter.mpr ⟨List.mem_of_getElem? (i := 475) (by decide +kernel), by decide +kernel⟩
theorem rc_X7_putItem : (.code yX7_putItem cX7_putItem 4 (Option.none : Option Jvm.ClassFile.FieldType)) ∈ rd_T := List.mem_filter.mpr ⟨List.mem_of_getElem? (i := 476) (by decide +kernel), by decide +kernel⟩
theorem rm_L_71 : (.methodLink RL 71 yX9_removeItem) ∈ rd_T := List.mem_filter.mpr ⟨List.mem_of_getElem? (i := 477) (by decide +kernel), by decide +kernel⟩
theorem ri_X9_removeItem : (.instanceMethod yX9_removeItem) ∈ rd_T := List.mem_filter.mpr ⟨List.mem_of_getElem? (i := 478) (by decide +kernel), by decide +kernel⟩
theorem rs_X9_removeItem : (.selects RX9 yX9_removeItem yX9_removeItem) ∈ rd_T := List.mem_filter.mpr ⟨List.mem_of_getElem? (i := 479) (by decide +kernel), by decide +kernel⟩
theorem rc_X9_removeItem : (.code yX9_removeItem cX9_removeItem 4 (Option.some Jvm.ClassFile.FieldType.int)) ∈ rd_T := List.mem_filter.mpr ⟨List.mem_of_getElem? (i := 480) (by decide +kernel), by decide +kernel⟩
theorem rm_X9_116 : (.methodLink RX9 116 yX7_dropItem) ∈ rd_T := List.mem_filter.mpr ⟨List.mem_of_getElem? (i := 481) (by decide +kernel), by decide +kernel⟩
theorem ri_X7_dropItem : (.instanceMethod yX7_dropItem) ∈ rd_T := List.mem_filter.mpr ⟨List.mem_of_getElem? (i := 482) (by decide +kernel), by decide +kernel⟩
theorem rs_X7_dropItem : (.selects RX7 yX7_dropItem yX7_dropItem) ∈ rd_T := List.mem_filter.mpr ⟨List.mem_of_getElem? (i := 483) (by decide +kernel), by decide +kernel⟩
theorem rc_X7_dropItem : (.code yX7_dropItem cX7_dropItem 3 (Option.none : Option Jvm.ClassFile.FieldType)) ∈ rd_T := List.mem_filter.mpr ⟨List.mem_of_getElem? (i := 484) (by decide +kernel), by decide +kernel⟩
theorem rm_X9_119 : (.methodLink RX9 119 yX8_clampStep) ∈ rd_T := List.mem_filter.mpr ⟨List.mem_of_getElem? (i := 485) (by decide +kernel), by decide +kernel⟩
theorem ri_X8_clampStep : (.instanceMethod yX8_clampStep) ∈ rd_T := List.mem_filter.mpr ⟨List.mem_of_getElem? (i := 486) (by decide +kernel), by decide +kernel⟩
theorem rs_X8_clampStep : (.selects RX8 yX8_clampStep yX8_clampStep) ∈ rd_T := List.mem_filter.mpr ⟨List.mem_of_getElem? (i := 487) (by decide +kernel), by decide +kernel⟩
theorem rc_X8_clampStep : (.code yX8_clampStep cX8_clampStep 2 (Option.none : Option Jvm.ClassFile.FieldType)) ∈ rd_T := List.mem_filter.mpr ⟨List.mem_of_getElem? (i := 488) (by decide +kernel), by decide +kernel⟩
theorem rm_X8_56 : (.methodLink RX8 56 yX8_here) ∈ rd_T := List.mem_filter.mpr ⟨List.mem_of_getElem? (i := 489) (by decide +kernel), by decide +kernel⟩
theorem rm_X8_93 : (.methodLink RX8 93 yX7_finalStep) ∈ rd_T := List.mem_filter.mpr ⟨List.mem_of_getElem? (i := 490) (by decide +kernel), by decide +kernel⟩
theorem rm_X8_126 : (.methodLink RX8 126 yJ9_min_7cf53) ∈ rd_T := List.mem_filter.mpr ⟨List.mem_of_getElem? (i := 491) (by decide +kernel), by decide +kernel⟩
theorem rt_J9_min_7cf53 : (.static yJ9_min_7cf53) ∈ rd_T := List.mem_filter.mpr ⟨List.mem_of_getElem? (i := 492) (by decide +kernel), by decide +kernel⟩
theorem rc_J9_min_7cf53 : (.code yJ9_min_7cf53 cJ9_min_7cf53 2 (Option.some Jvm.ClassFile.FieldType.int)) ∈ rd_T := List.mem_filter.mpr ⟨List.mem_of_getElem? (i := 493) (by decide +kernel), by decide +kernel⟩
theorem rm_L_74 : (.methodLink RL 74 yX9_link) ∈ rd_T := List.mem_filter.mpr ⟨List.mem_of_getElem? (i := 494) (by decide +kernel), by decide +kernel⟩
theorem ri_X9_link : (.instanceMethod yX9_link) ∈ rd_T := List.mem_filter.mpr ⟨List.mem_of_getElem? (i := 495) (by decide +kernel), by decide +kernel⟩
theorem rs_X9_link : (.selects RX9 yX9_link yX9_link) ∈ rd_T := List.mem_filter.mpr ⟨List.mem_of_getElem? (i := 496) (by decide +kernel), by decide +kernel⟩
theorem rc_X9_link : (.code yX9_link cX9_link 5 (Option.some Jvm.ClassFile.FieldType.int)) ∈ rd_T := List.mem_filter.mpr ⟨List.mem_of_getElem? (i := 497) (by decide +kernel), by decide +kernel⟩
theorem rm_X9_128 : (.methodLink RX9 128 yX7_setTarget) ∈ rd_T := List.mem_filter.mpr ⟨List.mem_of_getElem? (i := 498) (by decide +kernel), by decide +kernel⟩
theorem ri_X7_setTarget : (.instanceMethod yX7_setTarget) ∈ rd_T := List.mem_filter.mpr ⟨List.mem_of_getElem? (i := 499) (by decide +kernel), by decide +kernel⟩
theorem rs_X7_setTarget : (.selects RX7 yX7_setTarget yX7_setTarget) ∈ rd_T := List.mem_filter.mpr ⟨List.mem_of_getElem? (i := 500) (by decide +kernel), by decide +kernel⟩
theorem rc_X7_setTarget : (.code yX7_setTarget cX7_setTarget 3 (Option.none : Option Jvm.ClassFile.FieldType)) ∈ rd_T := List.mem_filter.mpr ⟨List.mem_of_getElem? (i := 501) (by decide +kernel), by decide +kernel⟩
theorem rm_L_78 : (.methodLink RL 78 yX9_unlink) ∈ rd_T := List.mem_filter.mpr ⟨List.mem_of_getElem? (i := 502) (by decide +kernel), by decide +kernel⟩
theorem ri_X9_unlink : (.instanceMethod yX9_unlink) ∈ rd_T := List.mem_filter.mpr ⟨List.mem_of_getElem? (i := 503) (by decide +kernel), by decide +kernel⟩
theorem rs_X9_unlink : (.selects RX9 yX9_unlink yX9_unlink) ∈ rd_T := List.mem_filter.mpr ⟨List.mem_of_getElem? (i := 504) (by decide +kernel), by decide +kernel⟩
theorem rc_X9_unlink : (.code yX9_unlink cX9_unlink 4 (Option.some Jvm.ClassFile.FieldType.int)) ∈ rd_T := List.mem_filter.mpr ⟨List.mem_of_getElem? (i := 505) (by decide +kernel), by decide +kernel⟩
theorem rm_L_81 : (.methodLink RL 81 yX9_note) ∈ rd_T := List.mem_filter.mpr ⟨List.mem_of_getElem? (i := 506) (by decide +kernel), by decide +kernel⟩
theorem ri_X9_note : (.instanceMethod yX9_note) ∈ rd_T := List.mem_filter.mpr ⟨List.mem_of_getElem? (i := 507) (by decide +kernel), by decide +kernel⟩
theorem rs_X9_note : (.selects RX9 yX9_note yX9_note) ∈ rd_T := List.mem_filter.mpr ⟨List.mem_of_getElem? (i := 508) (by decide +kernel), by decide +kernel⟩
theorem rc_X9_note : (.code yX9_note cX9_note 4 (Option.some Jvm.ClassFile.FieldType.int)) ∈ rd_T := List.mem_filter.mpr ⟨List.mem_of_getElem? (i := 509) (by decide +kernel), by decide +kernel⟩
theorem rm_X9_135 : (.methodLink RX9 135 yX3_placeOf) ∈ rd_T := List.mem_filter.mpr ⟨List.mem_of_getElem? (i := 510) (by decide +kernel), by decide +kernel⟩
theorem ri_X3_placeOf : (.instanceMethod yX3_placeOf) ∈ rd_T := List.mem_filter.mpr ⟨List.mem_of_getElem? (i := 511) (by decide +kernel), by decide +kernel⟩

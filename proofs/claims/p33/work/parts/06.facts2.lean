section
set_option maxRecDepth 100000
theorem zp_yX7_isValueOf : plainName yX7_isValueOf.cls = true := by decide +kernel
theorem zm_yX7_lowestOf : zMd yX7_lowestOf cX7_lowestOf 1 (some .int) 1 := ⟨gi 606 rfl rfl, gi 18 rfl rfl, by decide +kernel, by decide⟩
theorem zs_yX7_lowestOf : (Cond.static yX7_lowestOf) ∈ gtb := gi 605 rfl rfl
theorem zp_yX7_lowestOf : plainName yX7_lowestOf.cls = true := by decide +kernel
theorem zm_yJ6_bitCount_0f7a4 : zMd yJ6_bitCount_0f7a4 cJ6_bitCount_0f7a4 1 (some .int) 1 := ⟨gi 600 rfl rfl, gi 32 rfl rfl, by decide +kernel, by decide⟩
theorem zs_yJ6_bitCount_0f7a4 : (Cond.static yJ6_bitCount_0f7a4) ∈ gtb := gi 599 rfl rfl
theorem zp_yJ6_bitCount_0f7a4 : plainName yJ6_bitCount_0f7a4.cls = true := by decide +kernel
theorem zm_yL_from : zMd yL_from cL_from 4 (some .int) 3 := ⟨gi 430 rfl rfl, gi 17 rfl rfl, by decide +kernel, by decide⟩
theorem zs_yL_from : (Cond.static yL_from) ∈ gtb := gi 429 rfl rfl
theorem zp_yL_from : plainName yL_from.cls = true := by decide +kernel
theorem zm_yL_enough : zMd yL_enough cL_enough 3 (some .boolean) 3 := ⟨gi 405 rfl rfl, gi 17 rfl rfl, by decide +kernel, by decide⟩
theorem zs_yL_enough : (Cond.static yL_enough) ∈ gtb := gi 404 rfl rfl
theorem zp_yL_enough : plainName yL_enough.cls = true := by decide +kernel
theorem zm_yL_step : zMd yL_step cL_step 9 (some .int) 4 := ⟨gi 411 rfl rfl, gi 17 rfl rfl, by decide +kernel, by decide⟩
theorem zs_yL_step : (Cond.static yL_step) ∈ gtb := gi 410 rfl rfl
theorem zp_yL_step : plainName yL_step.cls = true := by decide +kernel
theorem zm_yL_ends : zMd yL_ends cL_ends 6 (some .boolean) 3 := ⟨gi 402 rfl rfl, gi 17 rfl rfl, by decide +kernel, by decide⟩
theorem zs_yL_ends : (Cond.static yL_ends) ∈ gtb := gi 401 rfl rfl
theorem zp_yL_ends : plainName yL_ends.cls = true := by decide +kernel
theorem zm_yL_next : zMd yL_next cL_next 5 (some .int) 3 := ⟨gi 408 rfl rfl, gi 17 rfl rfl, by decide +kernel, by decide⟩
theorem zs_yL_next : (Cond.static yL_next) ∈ gtb := gi 407 rfl rfl
theorem zp_yL_next : plainName yL_next.cls = true := by decide +kernel
theorem zm_yL_fails : zMd yL_fails cL_fails 3 none 3 := ⟨gi 390 rfl rfl, gi 17 rfl rfl, by decide +kernel, by decide⟩
theorem zs_yL_fails : (Cond.static yL_fails) ∈ gtb := gi 389 rfl rfl
theorem zp_yL_fails : plainName yL_fails.cls = true := by decide +kernel
theorem zm_yL_put : zMd yL_put cL_put 8 none 8 := ⟨gi 423 rfl rfl, gi 17 rfl rfl, ⟨by decide +kernel, by decide +kernel, zpD (s := yL_put.desc) (cs := ['[', 'I', '[', 'I', '[', 'I', '[', 'I', '[', 'I', '[', 'I', 'I', 'I', ')', 'V']) (by decide +kernel) (zpAI (zpAI (zpAI (zpAI (zpAI (zpAI (zpI (zpI (zpE _ _))))))))) (by decide) rfl⟩, by decide⟩
theorem zs_yL_put : (Cond.static yL_put) ∈ gtb := gi 422 rfl rfl
theorem zp_yL_put : plainName yL_put.cls = true := by decide +kernel
theorem zm_yL_open : zMd yL_open cL_open 9 none 9 := ⟨gi 420 rfl rfl, gi 17 rfl rfl, ⟨by decide +kernel, by decide +kernel, zpD (s := yL_open.desc) (cs := ['[', 'I', '[', 'I', '[', 'I', '[', 'I', '[', 'I', '[', 'I', '[', 'I', 'I', 'Z', ')', 'V']) (by decide +kernel) (zpAI (zpAI (zpAI (zpAI (zpAI (zpAI (zpAI (zpI (zpZ (zpE _ _)))))))))) (by decide) rfl⟩, by decide⟩
theorem zs_yL_open : (Cond.static yL_open) ∈ gtb := gi 419 rfl rfl
theorem zp_yL_open : plainName yL_open.cls = true := by decide +kernel
theorem zm_yL_has : zMd yL_has cL_has 7 (some .boolean) 5 := ⟨gi 414 rfl rfl, gi 17 rfl rfl, by decide +kernel, by decide⟩
theorem zs_yL_has : (Cond.static yL_has) ∈ gtb := gi 413 rfl rfl
theorem zp_yL_has : plainName yL_has.cls = true := by decide +kernel
theorem zm_yL_takes : zMd yL_takes cL_takes 8 (some .boolean) 6 := ⟨gi 417 rfl rfl, gi 17 rfl rfl, by decide +kernel, by decide⟩
theorem zs_yL_takes : (Cond.static yL_takes) ∈ gtb := gi 416 rfl rfl
theorem zp_yL_takes : plainName yL_takes.cls = true := by decide +kernel
theorem zm_yL_wanted : zMd yL_wanted cL_wanted 8 (some .int) 5 := ⟨gi 399 rfl rfl, gi 17 rfl rfl, by decide +kernel, by decide⟩
theorem zs_yL_wanted : (Cond.static yL_wanted) ∈ gtb := gi 398 rfl rfl
theorem zp_yL_wanted : plainName yL_wanted.cls = true := by decide +kernel
theorem zm_yL_thing : zMd yL_thing cL_thing 15 none 12 := ⟨gi 396 rfl rfl, gi 17 rfl rfl, ⟨by decide +kernel, by decide +kernel, zpD (s := yL_thing.desc) (cs := ['[', 'I', '[', 'I', '[', 'I', '[', 'I', '[', 'I', '[', 'I', '[', 'I', '[', 'I', '[', 'I', '[', 'I', 'I', 'I', ')', 'V']) (by decide +kernel) (zpAI (zpAI (zpAI (zpAI (zpAI (zpAI (zpAI (zpAI (zpAI (zpAI (zpI (zpI (zpE _ _))))))))))))) (by decide) rfl⟩, by decide⟩
theorem zs_yL_thing : (Cond.static yL_thing) ∈ gtb := gi 395 rfl rfl
theorem zp_yL_thing : plainName yL_thing.cls = true := by decide +kernel
theorem zm_yL_close : zMd yL_close cL_close 10 none 8 := ⟨gi 426 rfl rfl, gi 17 rfl rfl, ⟨by decide +kernel, by decide +kernel, zpD (s := yL_close.desc) (cs := ['[', 'I', '[', 'I', '[', 'I', '[', 'I', '[', 'I', '[', 'I', 'I', 'Z', ')', 'V']) (by decide +kernel) (zpAI (zpAI (zpAI (zpAI (zpAI (zpAI (zpI (zpZ (zpE _ _))))))))) (by decide) rfl⟩, by decide⟩
theorem zs_yL_close : (Cond.static yL_close) ∈ gtb := gi 425 rfl rfl
theorem zp_yL_close : plainName yL_close.cls = true := by decide +kernel
theorem zm_yL_token : zMd yL_token cL_token 5 (some .int) 4 := ⟨gi 387 rfl rfl, gi 17 rfl rfl, by decide +kernel, by decide⟩
theorem zs_yL_token : (Cond.static yL_token) ∈ gtb := gi 386 rfl rfl
theorem zp_yL_token : plainName yL_token.cls = true := by decide +kernel
theorem zm_yL_one : zMd yL_one cL_one 23 none 13 := ⟨gi 393 rfl rfl, gi 17 rfl rfl, ⟨by decide +kernel, by decide +kernel, zpD (s := yL_one.desc) (cs := ['[', 'I', '[', 'I', '[', 'I', '[', 'I', '[', 'I', '[', 'I', '[', 'I', '[', 'I', '[', 'I', '[', 'I', '[', 'I', '[', 'I', '[', 'I', ')', 'V']) (by decide +kernel) (zpAI (zpAI (zpAI (zpAI (zpAI (zpAI (zpAI (zpAI (zpAI (zpAI (zpAI (zpAI (zpAI (zpE _ _)))))))))))))) (by decide) rfl⟩, by decide⟩
theorem zs_yL_one : (Cond.static yL_one) ∈ gtb := gi 392 rfl rfl
theorem zp_yL_one : plainName yL_one.cls = true := by decide +kernel
theorem zm_yL_keep : zMd yL_keep cL_keep 6 none 3 := ⟨gi 382 rfl rfl, gi 17 rfl rfl, by decide +kernel, by decide⟩
theorem zs_yL_keep : (Cond.static yL_keep) ∈ gtb := gi 381 rfl rfl
theorem zp_yL_keep : plainName yL_keep.cls = true := by decide +kernel
theorem zm_yL_reads : zMd yL_reads cL_reads 15 none 14 := ⟨gi 379 rfl rfl, gi 17 rfl rfl, ⟨by decide +kernel, by decide +kernel, zpD (s := yL_reads.desc) (cs := ['[', 'I', '[', 'I', '[', 'I', '[', 'I', '[', 'I', '[', 'I', '[', 'I', '[', 'I', '[', 'I', '[', 'I', '[', 'I', '[', 'I', '[', 'I', '[', 'J', ')', 'V']) (by decide +kernel) (zpAI (zpAI (zpAI (zpAI (zpAI (zpAI (zpAI (zpAI (zpAI (zpAI (zpAI (zpAI (zpAI (zpAJ (zpE _ _))))))))))))))) (by decide) rfl⟩, by decide⟩
theorem zs_yL_reads : (Cond.static yL_reads) ∈ gtb := gi 378 rfl rfl
theorem zp_yL_reads : plainName yL_reads.cls = true := by decide +kernel
theorem zm_yL_isTree : zMd yL_isTree cL_isTree 11 (some .boolean) 7 := ⟨gi 769 rfl rfl, gi 17 rfl rfl, by decide +kernel, by decide⟩
theorem zs_yL_isTree : (Cond.static yL_isTree) ∈ gtb := gi 768 rfl rfl
theorem zp_yL_isTree : plainName yL_isTree.cls = true := by decide +kernel
theorem zm_yL_areStates : zMd yL_areStates cL_areStates 11 (some .boolean) 6 := ⟨gi 748 rfl rfl, gi 17 rfl rfl, by decide +kernel, by decide⟩
theorem zs_yL_areStates : (Cond.static yL_areStates) ∈ gtb := gi 747 rfl rfl
theorem zp_yL_areStates : plainName yL_areStates.cls = true := by decide +kernel
theorem zg_yL_slot : (Cond.codeWith yL_slot cL_slot 6 (some .int) [(0, 9, 10, 132)]) ∈ gtb := gi 719 rfl rfl
theorem zs_yL_slot : (Cond.static yL_slot) ∈ gtb := gi 718 rfl rfl
theorem zp_yL_slot : plainName yL_slot.cls = true := by decide +kernel
theorem zm_yL_twice : zMd yL_twice cL_twice 10 (some .int) 3 := ⟨gi 716 rfl rfl, gi 17 rfl rfl, by decide +kernel, by decide⟩
theorem zs_yL_twice : (Cond.static yL_twice) ∈ gtb := gi 715 rfl rfl
theorem zp_yL_twice : plainName yL_twice.cls = true := by decide +kernel
theorem zm_yL_isGrammar : zMd yL_isGrammar cL_isGrammar 10 (some .boolean) 6 := ⟨gi 694 rfl rfl, gi 17 rfl rfl, by decide +kernel, by decide⟩
theorem zs_yL_isGrammar : (Cond.static yL_isGrammar) ∈ gtb := gi 693 rfl rfl
theorem zp_yL_isGrammar : plainName yL_isGrammar.cls = true := by decide +kernel
theorem zm_yL_drawn : zMd yL_drawn cL_drawn 3 (some .int) 1 := ⟨gi 438 rfl rfl, gi 17 rfl rfl, by decide +kernel, by decide⟩
theorem zs_yL_drawn : (Cond.static yL_drawn) ∈ gtb := gi 437 rfl rfl
theorem zp_yL_drawn : plainName yL_drawn.cls = true := by decide +kernel
theorem zm_yL_isEdited : zMd yL_isEdited cL_isEdited 7 (some .boolean) 4 := ⟨gi 435 rfl rfl, gi 17 rfl rfl, by decide +kernel, by decide⟩
theorem zs_yL_isEdited : (Cond.static yL_isEdited) ∈ gtb := gi 434 rfl rfl
theorem zp_yL_isEdited : plainName yL_isEdited.cls = true := by decide +kernel
theorem zm_yL_anew : zMd yL_anew cL_anew 7 (some .int) 5 := ⟨gi 745 rfl rfl, gi 17 rfl rfl, by decide +kernel, by decide⟩
theorem zs_yL_anew : (Cond.static yL_anew) ∈ gtb := gi 744 rfl rfl
theorem zp_yL_anew : plainName yL_anew.cls = true := by decide +kernel
theorem zm_yL_isTurned : zMd yL_isTurned cL_isTurned 6 (some .boolean) 5 := ⟨gi 677 rfl rfl, gi 17 rfl rfl, by decide +kernel, by decide⟩
theorem zs_yL_isTurned : (Cond.static yL_isTurned) ∈ gtb := gi 676 rfl rfl
theorem zp_yL_isTurned : plainName yL_isTurned.cls = true := by decide +kernel
theorem zm_yL_holds : zMd yL_holds cL_holds 25 (some .boolean) 1 := ⟨gi 41 rfl rfl, gi 17 rfl rfl, by decide +kernel, by decide⟩
theorem zs_yL_holds : (Cond.static yL_holds) ∈ gtb := gi 40 rfl rfl
theorem zp_yL_holds : plainName yL_holds.cls = true := by decide +kernel
theorem zg_yL_isHeld : (Cond.codeWith yL_isHeld cL_isHeld 2 (some .boolean) [(0, 4, 5, 213), (0, 4, 8, 215), (0, 4, 11, 132)]) ∈ gtb := gi 35 rfl rfl
theorem zs_yL_isHeld : (Cond.static yL_isHeld) ∈ gtb := gi 34 rfl rfl
theorem zp_yL_isHeld : plainName yL_isHeld.cls = true := by decide +kernel
theorem zi_obj : (Cond.instanceMethod Lib.objectInit) ∈ gtb := gi 48 rfl rfl
theorem zm_obj : (Cond.code Lib.objectInit ⟨#[0xb1]⟩ 1 none) ∈ gtb := gi 49 rfl rfl
theorem zl_RX0_3 : (Cond.methodLink RX0 3 Lib.objectInit) ∈ gtb := gi 55 rfl rfl
theorem zk_RX0_9 : (Cond.classLink RX0 9 (zcl 1).1) ∈ gtb := gi 56 rfl rfl
theorem zl_RX0_31 : (Cond.methodLinkNest RX0 31 yX1_init "OmitMarkup") ∈ znw := znw_in 59 rfl rfl
theorem zl_RX1_3 : (Cond.methodLink RX1 3 Lib.objectInit) ∈ gtb := gi 62 rfl rfl
theorem zl_RX1_32 : (Cond.methodLink RX1 32 yX1_workOut) ∈ gtb := gi 730 rfl rfl
theorem zl_RX1_38 : (Cond.methodLink RX1 38 yX1_workOutReach) ∈ gtb := gi 734 rfl rfl
theorem zl_RX2_3 : (Cond.methodLink RX2 3 Lib.objectInit) ∈ gtb := gi 148 rfl rfl
theorem zk_RX2_9 : (Cond.classLink RX2 9 (zcl 5).1) ∈ gtb := gi 149 rfl rfl
theorem zl_RX2_11 : (Cond.methodLinkNest RX2 11 yX5_init "OmitMarkup") ∈ znw := znw_in 151 rfl rfl
theorem zk_RX2_18 : (Cond.classLink RX2 18 (zcl 3).1) ∈ gtb := gi 185 rfl rfl
theorem zl_RX2_20 : (Cond.methodLink RX2 20 yX3_init) ∈ gtb := gi 186 rfl rfl
theorem zk_RX2_37 : (Cond.classLink RX2 37 (zcl 4).1) ∈ gtb := gi 187 rfl rfl
theorem zl_RX2_63 : (Cond.methodLink RX2 63 yX4_init) ∈ gtb := gi 190 rfl rfl
theorem zl_RX2_84 : (Cond.methodLink RX2 84 yX4_restart) ∈ gtb := gi 333 rfl rfl
theorem zl_RX2_87 : (Cond.methodLink RX2 87 yX4_copyFrom) ∈ gtb := gi 561 rfl rfl
theorem zl_RX2_91 : (Cond.methodLink RX2 91 yX2_goThrough) ∈ gtb := gi 565 rfl rfl
theorem zl_RX2_95 : (Cond.methodLink RX2 95 yX2_closeUpTo) ∈ gtb := gi 625 rfl rfl
theorem zl_RX2_99 : (Cond.methodLink RX2 99 yX2_writeNormalForm) ∈ gtb := gi 646 rfl rfl
theorem zl_RX2_102 : (Cond.methodLink RX2 102 yX3_sortAt) ∈ gtb := gi 634 rfl rfl
theorem zl_RX2_106 : (Cond.methodLink RX2 106 yX2_isAsBefore) ∈ gtb := gi 659 rfl rfl
theorem zl_RX2_113 : (Cond.methodLink RX2 113 yX4_isLike) ∈ gtb := gi 663 rfl rfl
theorem zl_RX2_126 : (Cond.methodLink RX2 126 yX2_plainLetter) ∈ gtb := gi 569 rfl rfl
theorem zl_RX2_130 : (Cond.methodLink RX2 130 yX2_readThing) ∈ gtb := gi 572 rfl rfl
theorem zl_RX2_134 : (Cond.methodLink RX2 134 yX2_readToken) ∈ gtb := gi 613 rfl rfl
theorem zl_RX2_138 : (Cond.methodLink RX2 138 yX2_keepState) ∈ gtb := gi 642 rfl rfl
theorem zl_RX2_142 : (Cond.methodLink RX2 142 yX2_addError) ∈ gtb := gi 576 rfl rfl
theorem zl_RX2_148 : (Cond.methodLink RX2 148 yX4_lastOpenOf) ∈ gtb := gi 617 rfl rfl
theorem zl_RX2_151 : (Cond.methodLink RX2 151 yX2_closeByTag) ∈ gtb := gi 621 rfl rfl
theorem zl_RX2_154 : (Cond.methodLink RX2 154 yX4_currentElement) ∈ gtb := gi 630 rfl rfl
theorem zl_RX2_158 : (Cond.methodLink RX2 158 yX2_isLineLeftOut) ∈ gtb := gi 631 rfl rfl
theorem zl_RX2_162 : (Cond.methodLink RX2 162 yX2_goThroughEntity) ∈ gtb := gi 638 rfl rfl
theorem zl_RX2_168 : (Cond.methodLink RX2 168 yX4_accept) ∈ gtb := gi 580 rfl rfl
theorem zl_RX2_172 : (Cond.methodLink RX2 172 yX2_addThing) ∈ gtb := gi 581 rfl rfl
theorem zl_RX2_176 : (Cond.methodLink RX2 176 yX4_elementToPutIn) ∈ gtb := gi 590 rfl rfl
theorem zl_RX2_185 : (Cond.methodLink RX2 185 yX4_mayCloseUnasked) ∈ gtb := gi 608 rfl rfl
theorem zl_RX2_189 : (Cond.methodLink RX2 189 yX4_leave) ∈ gtb := gi 612 rfl rfl
theorem zl_RX2_192 : (Cond.methodLink RX2 192 yX5_addThing) ∈ gtb := gi 585 rfl rfl
theorem zl_RX2_195 : (Cond.methodLink RX2 195 yX4_enter) ∈ gtb := gi 589 rfl rfl
theorem zl_RX2_198 : (Cond.methodLink RX2 198 yX4_canEnd) ∈ gtb := gi 629 rfl rfl
theorem zl_RX2_210 : (Cond.methodLink RX2 210 yX2_writeEnds) ∈ gtb := gi 650 rfl rfl
theorem zl_RX2_221 : (Cond.methodLink RX2 221 yX3_putToken) ∈ gtb := gi 654 rfl rfl
theorem zl_RX2_234 : (Cond.methodLink RX2 234 yX4_readAsWritten) ∈ gtb := gi 337 rfl rfl
theorem zl_RX3_3 : (Cond.methodLink RX3 3 Lib.objectInit) ∈ gtb := gi 127 rfl rfl
theorem zl_RX4_3 : (Cond.methodLink RX4 3 Lib.objectInit) ∈ gtb := gi 193 rfl rfl
theorem zl_RX4_47 : (Cond.methodLink RX4 47 yX4_isExcluded) ∈ gtb := gi 357 rfl rfl
theorem zl_RX4_51 : (Cond.methodLink RX4 51 yX1_slotFor) ∈ gtb := gi 361 rfl rfl
theorem zl_RX4_55 : (Cond.methodLink RX4 55 yX4_isIncluded) ∈ gtb := gi 365 rfl rfl
theorem zl_RX4_64 : (Cond.methodLink RX4 64 yX4_goesOnWith) ∈ gtb := gi 594 rfl rfl
theorem zl_RX4_68 : (Cond.methodLink RX4 68 yJ6_bitCount_0f7a4) ∈ gtb := gi 598 rfl rfl
theorem zl_RX4_74 : (Cond.methodLink RX4 74 yX4_canEnd) ∈ gtb := gi 345 rfl rfl
theorem zl_RX4_78 : (Cond.methodLinkNest RX4 78 yX7_lowestOf "OmitMarkup") ∈ znw := znw_in 604 rfl rfl
theorem zl_RX4_90 : (Cond.methodLink RX4 90 yX4_currentElement) ∈ gtb := gi 341 rfl rfl
theorem zl_RX4_93 : (Cond.methodLink RX4 93 yX4_leave) ∈ gtb := gi 349 rfl rfl
theorem zl_RX4_96 : (Cond.methodLink RX4 96 yX4_accept) ∈ gtb := gi 353 rfl rfl
theorem zl_RX4_99 : (Cond.methodLink RX4 99 yX4_enter) ∈ gtb := gi 369 rfl rfl
theorem zl_RX5_3 : (Cond.methodLink RX5 3 Lib.objectInit) ∈ gtb := gi 154 rfl rfl
theorem zl_RX6_3 : (Cond.methodLink RX6 3 Lib.objectInit) ∈ gtb := gi 283 rfl rfl
theorem zk_RX6_9 : (Cond.classLink RX6 9 (zcl 4).1) ∈ gtb := gi 284 rfl rfl
theorem zl_RX6_25 : (Cond.methodLink RX6 25 yX4_init) ∈ gtb := gi 285 rfl rfl
theorem zl_RX7_3 : (Cond.methodLink RX7 3 Lib.objectInit) ∈ gtb := gi 47 rfl rfl
theorem zk_RX7_9 : (Cond.classLink RX7 9 (zcl 0).1) ∈ gtb := gi 50 rfl rfl
theorem zl_RX7_11 : (Cond.methodLink RX7 11 yX0_init) ∈ gtb := gi 52 rfl rfl
theorem zk_RX7_16 : (Cond.classLink RX7 16 (zcl 3).1) ∈ gtb := gi 122 rfl rfl
theorem zl_RX7_18 : (Cond.methodLink RX7 18 yX3_init) ∈ gtb := gi 124 rfl rfl
theorem zk_RX7_33 : (Cond.classLink RX7 33 (zcl 2).1) ∈ gtb := gi 143 rfl rfl
theorem zl_RX7_35 : (Cond.methodLink RX7 35 yX2_init) ∈ gtb := gi 145 rfl rfl
theorem zk_RX7_42 : (Cond.classLink RX7 42 (zcl 6).1) ∈ gtb := gi 278 rfl rfl
theorem zl_RX7_44 : (Cond.methodLink RX7 44 yX6_init) ∈ gtb := gi 280 rfl rfl
theorem zl_RX7_51 : (Cond.methodLink RX7 51 yX7_checkIndex) ∈ gtb := gi 443 rfl rfl
theorem zl_RX7_77 : (Cond.methodLink RX7 77 yX1_addSlot) ∈ gtb := gi 726 rfl rfl
theorem zl_RX7_83 : (Cond.methodLink RX7 83 yX7_lowestOf) ∈ gtb := gi 738 rfl rfl
theorem zl_RX7_87 : (Cond.methodLink RX7 87 yX1_dropLastSlot) ∈ gtb := gi 739 rfl rfl
theorem zl_RX7_90 : (Cond.methodLink RX7 90 yX2_readText) ∈ gtb := gi 557 rfl rfl
theorem zl_RX7_93 : (Cond.methodLink RX7 93 yX1_dropSlots) ∈ gtb := gi 699 rfl rfl
theorem zl_RX7_111 : (Cond.methodLink RX7 111 yX7_checkToken) ∈ gtb := gi 515 rfl rfl
theorem zl_RX7_119 : (Cond.methodLink RX7 119 yX3_putToken) ∈ gtb := gi 553 rfl rfl
theorem zl_RX7_127 : (Cond.methodLink RX7 127 yX2_countReadAnew) ∈ gtb := gi 655 rfl rfl
theorem zl_RX7_130 : (Cond.methodLink RX7 130 yX3_dropToken) ∈ gtb := gi 671 rfl rfl
theorem zl_RX7_154 : (Cond.methodLink RX7 154 yX4_currentElement) ∈ gtb := gi 761 rfl rfl
theorem zl_RX7_158 : (Cond.methodLink RX7 158 yX4_goesOnWith) ∈ gtb := gi 766 rfl rfl
theorem zl_RX7_202 : (Cond.methodLink RX7 202 yX2_isNormalFormReadAsWritten) ∈ gtb := gi 329 rfl rfl
theorem zl_RX7_218 : (Cond.methodLink RX7 218 yX7_isValueOf) ∈ gtb := gi 518 rfl rfl
theorem zl_RX7_224 : (Cond.methodLink RX7 224 yJ6_bitCount_0f7a4) ∈ gtb := gi 607 rfl rfl
theorem zd_RJ6_265 : (Cond.constant RJ6 265 1431655765) ∈ gtb := gi 601 rfl rfl
theorem zd_RJ6_266 : (Cond.constant RJ6 266 858993459) ∈ gtb := gi 602 rfl rfl
theorem zd_RJ6_267 : (Cond.constant RJ6 267 252645135) ∈ gtb := gi 603 rfl rfl
theorem zd_RL_7 : (Cond.constant RL 7 241051) ∈ gtb := gi 431 rfl rfl
theorem zd_RL_8 : (Cond.constant RL 8 2147483647) ∈ gtb := gi 432 rfl rfl
theorem zl_RL_9 : (Cond.methodLink RL 9 yL_enough) ∈ gtb := gi 403 rfl rfl
theorem zl_RL_15 : (Cond.methodLink RL 15 yL_step) ∈ gtb := gi 409 rfl rfl
theorem zl_RL_19 : (Cond.methodLink RL 19 yL_put) ∈ gtb := gi 421 rfl rfl
theorem zl_RL_23 : (Cond.methodLink RL 23 yL_has) ∈ gtb := gi 412 rfl rfl
theorem zl_RL_27 : (Cond.methodLink RL 27 yL_ends) ∈ gtb := gi 400 rfl rfl
theorem zl_RL_31 : (Cond.methodLink RL 31 yL_next) ∈ gtb := gi 406 rfl rfl
theorem zl_RL_35 : (Cond.methodLink RL 35 yL_wanted) ∈ gtb := gi 397 rfl rfl
theorem zl_RL_39 : (Cond.methodLink RL 39 yL_takes) ∈ gtb := gi 415 rfl rfl
theorem zl_RL_43 : (Cond.methodLink RL 43 yL_open) ∈ gtb := gi 418 rfl rfl
theorem zl_RL_47 : (Cond.methodLink RL 47 yL_fails) ∈ gtb := gi 388 rfl rfl
theorem zl_RL_51 : (Cond.methodLink RL 51 yL_token) ∈ gtb := gi 385 rfl rfl
theorem zl_RL_55 : (Cond.methodLink RL 55 yL_thing) ∈ gtb := gi 394 rfl rfl
theorem zl_RL_59 : (Cond.methodLink RL 59 yL_close) ∈ gtb := gi 424 rfl rfl
theorem zd_RL_63 : (Cond.constantLong RL 63 80) ∈ gtb := gi 383 rfl rfl
theorem zd_RL_65 : (Cond.constantLong RL 65 2) ∈ gtb := gi 384 rfl rfl
theorem zl_RL_67 : (Cond.methodLink RL 67 yL_keep) ∈ gtb := gi 380 rfl rfl
theorem zl_RL_71 : (Cond.methodLink RL 71 yL_one) ∈ gtb := gi 391 rfl rfl
theorem zl_RL_75 : (Cond.methodLink RL 75 yX7_things) ∈ gtb := gi 317 rfl rfl
theorem zl_RL_81 : (Cond.methodLink RL 81 yX7_endsPutIn) ∈ gtb := gi 770 rfl rfl
theorem zl_RL_84 : (Cond.methodLink RL 84 yX7_errors) ∈ gtb := gi 774 rfl rfl
theorem zl_RL_87 : (Cond.methodLink RL 87 yX7_kind) ∈ gtb := gi 778 rfl rfl
theorem zl_RL_91 : (Cond.methodLink RL 91 yX7_parent) ∈ gtb := gi 782 rfl rfl
theorem zl_RL_94 : (Cond.methodLink RL 94 yX7_letter) ∈ gtb := gi 786 rfl rfl
theorem zl_RL_98 : (Cond.methodLink RL 98 yX7_placeOf) ∈ gtb := gi 790 rfl rfl
theorem zl_RL_101 : (Cond.methodLink RL 101 yX7_isPutIn) ∈ gtb := gi 794 rfl rfl
theorem zl_RL_105 : (Cond.methodLink RL 105 yX7_errorKind) ∈ gtb := gi 798 rfl rfl
theorem zl_RL_108 : (Cond.methodLink RL 108 yX7_errorAt) ∈ gtb := gi 802 rfl rfl
theorem zl_RL_111 : (Cond.methodLink RL 111 yX7_normal) ∈ gtb := gi 321 rfl rfl
theorem zl_RL_114 : (Cond.methodLink RL 114 yX7_isSame) ∈ gtb := gi 325 rfl rfl
theorem zl_RL_118 : (Cond.methodLink RL 118 yX7_length) ∈ gtb := gi 749 rfl rfl
theorem zl_RL_121 : (Cond.methodLink RL 121 yX7_open) ∈ gtb := gi 753 rfl rfl
theorem zl_RL_123 : (Cond.methodLink RL 123 yX7_current) ∈ gtb := gi 757 rfl rfl
theorem zl_RL_126 : (Cond.methodLink RL 126 yX7_next) ∈ gtb := gi 762 rfl rfl
theorem zl_RL_128 : (Cond.methodLink RL 128 yX7_slot) ∈ gtb := gi 720 rfl rfl
theorem zl_RL_134 : (Cond.methodLink RL 134 yX7_empty) ∈ gtb := gi 695 rfl rfl
theorem zd_RL_137 : (Cond.constant RL 137 3145728) ∈ gtb := gi 703 rfl rfl
theorem zl_RL_138 : (Cond.methodLink RL 138 yX7_except) ∈ gtb := gi 704 rfl rfl
theorem zd_RL_142 : (Cond.constant RL 142 1048575) ∈ gtb := gi 709 rfl rfl
theorem zl_RL_143 : (Cond.methodLink RL 143 yX7_omit) ∈ gtb := gi 710 rfl rfl
theorem zl_RL_147 : (Cond.methodLink RL 147 yL_twice) ∈ gtb := gi 714 rfl rfl
theorem zl_RL_151 : (Cond.methodLink RL 151 yL_slot) ∈ gtb := gi 717 rfl rfl
theorem zl_RL_154 : (Cond.methodLink RL 154 yL_drawn) ∈ gtb := gi 436 rfl rfl
theorem zl_RL_157 : (Cond.methodLink RL 157 yX7_insert) ∈ gtb := gi 439 rfl rfl
theorem zl_RL_161 : (Cond.methodLink RL 161 yX7_erase) ∈ gtb := gi 667 rfl rfl
theorem zl_RL_164 : (Cond.methodLink RL 164 yX7_flip) ∈ gtb := gi 678 rfl rfl
theorem zl_RL_168 : (Cond.methodLink RL 168 yX7_anew) ∈ gtb := gi 373 rfl rfl
theorem zl_RL_171 : (Cond.methodLink RL 171 yX7_clear) ∈ gtb := gi 683 rfl rfl
theorem zl_RL_174 : (Cond.methodLink RL 174 yX7_entity) ∈ gtb := gi 687 rfl rfl
theorem zk_RL_76 : (Cond.classLink RL 76 (zcl 7).1) ∈ gtb := gi 42 rfl rfl
theorem zl_RL_177 : (Cond.methodLink RL 177 yX7_init) ∈ gtb := gi 44 rfl rfl
theorem zl_RL_178 : (Cond.methodLink RL 178 yL_reads) ∈ gtb := gi 377 rfl rfl
theorem zd_RL_182 : (Cond.constant RL 182 100000000) ∈ gtb := gi 427 rfl rfl
theorem zl_RL_183 : (Cond.methodLink RL 183 yL_from) ∈ gtb := gi 428 rfl rfl
theorem zl_RL_186 : (Cond.methodLink RL 186 yL_isEdited) ∈ gtb := gi 433 rfl rfl
theorem zl_RL_190 : (Cond.methodLink RL 190 yL_isTurned) ∈ gtb := gi 675 rfl rfl
theorem zl_RL_194 : (Cond.methodLink RL 194 yL_isGrammar) ∈ gtb := gi 692 rfl rfl
theorem zl_RL_198 : (Cond.methodLink RL 198 yL_anew) ∈ gtb := gi 743 rfl rfl
theorem zl_RL_201 : (Cond.methodLink RL 201 yL_areStates) ∈ gtb := gi 746 rfl rfl
theorem zl_RL_205 : (Cond.methodLink RL 205 yL_isTree) ∈ gtb := gi 767 rfl rfl
theorem zl_RL_209 : (Cond.methodLink RL 209 yL_holds) ∈ gtb := gi 39 rfl rfl
theorem zl_RL_217 : (Cond.methodLink RL 217 yL_isHeld) ∈ gtb := gi 33 rfl rfl
theorem zar_int : (Cond.arrayClass .int) ∈ gtb := gi 91 rfl rfl
theorem zar_boolean : (Cond.arrayClass .boolean) ∈ gtb := gi 92 rfl rfl
theorem zar_char : (Cond.arrayClass .char) ∈ gtb := gi 184 rfl rfl
theorem zar_long : (Cond.arrayClass .long) ∈ gtb := gi 513 rfl rfl
theorem zar_byte : (Cond.arrayClass .byte) ∈ gtb := gi 514 rfl rfl
theorem zK_RL : (Cond.initialized RL) ∈ gtb := gi 17 rfl rfl
end

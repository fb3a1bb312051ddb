section
set_option maxRecDepth 100000
theorem zi_yX2_keepState : (Cond.instanceMethod yX2_keepState) ∈ gtb := gi 644 rfl rfl
theorem ze_yX2_keepState : (Cond.selects (zcl 2).1 yX2_keepState yX2_keepState) ∈ gtb := gi 11 rfl rfl
theorem zp_yX2_keepState : plainName yX2_keepState.cls = true := by decide +kernel
theorem zm_yX2_readToken : zMd yX2_readToken cX2_readToken 5 none 3 := ⟨gi 616 rfl rfl, gi 22 rfl rfl, by decide +kernel, by decide⟩
theorem zi_yX2_readToken : (Cond.instanceMethod yX2_readToken) ∈ gtb := gi 615 rfl rfl
theorem ze_yX2_readToken : (Cond.selects (zcl 2).1 yX2_readToken yX2_readToken) ∈ gtb := gi 7 rfl rfl
theorem zp_yX2_readToken : plainName yX2_readToken.cls = true := by decide +kernel
theorem zm_yX2_isLineLeftOut : zMd yX2_isLineLeftOut cX2_isLineLeftOut 4 (some .boolean) 2 := ⟨gi 633 rfl rfl, gi 22 rfl rfl, by decide +kernel, by decide⟩
theorem zs_yX2_isLineLeftOut : (Cond.static yX2_isLineLeftOut) ∈ gtb := gi 632 rfl rfl
theorem zp_yX2_isLineLeftOut : plainName yX2_isLineLeftOut.cls = true := by decide +kernel
theorem zm_yX2_goThroughEntity : zMd yX2_goThroughEntity cX2_goThroughEntity 5 none 2 := ⟨gi 641 rfl rfl, gi 22 rfl rfl, by decide +kernel, by decide⟩
theorem zi_yX2_goThroughEntity : (Cond.instanceMethod yX2_goThroughEntity) ∈ gtb := gi 640 rfl rfl
theorem ze_yX2_goThroughEntity : (Cond.selects (zcl 2).1 yX2_goThroughEntity yX2_goThroughEntity) ∈ gtb := gi 10 rfl rfl
theorem zp_yX2_goThroughEntity : plainName yX2_goThroughEntity.cls = true := by decide +kernel
theorem zm_yX2_readThing : zMd yX2_readThing cX2_readThing 6 none 2 := ⟨gi 575 rfl rfl, gi 22 rfl rfl, by decide +kernel, by decide⟩
theorem zi_yX2_readThing : (Cond.instanceMethod yX2_readThing) ∈ gtb := gi 574 rfl rfl
theorem ze_yX2_readThing : (Cond.selects (zcl 2).1 yX2_readThing yX2_readThing) ∈ gtb := gi 4 rfl rfl
theorem zp_yX2_readThing : plainName yX2_readThing.cls = true := by decide +kernel
theorem zm_yX2_addThing : zMd yX2_addThing cX2_addThing 6 none 3 := ⟨gi 584 rfl rfl, gi 22 rfl rfl, by decide +kernel, by decide⟩
theorem zi_yX2_addThing : (Cond.instanceMethod yX2_addThing) ∈ gtb := gi 583 rfl rfl
theorem ze_yX2_addThing : (Cond.selects (zcl 2).1 yX2_addThing yX2_addThing) ∈ gtb := gi 6 rfl rfl
theorem zp_yX2_addThing : plainName yX2_addThing.cls = true := by decide +kernel
theorem zm_yX2_closeByTag : zMd yX2_closeByTag cX2_closeByTag 2 none 1 := ⟨gi 624 rfl rfl, gi 22 rfl rfl, by decide +kernel, by decide⟩
theorem zi_yX2_closeByTag : (Cond.instanceMethod yX2_closeByTag) ∈ gtb := gi 623 rfl rfl
theorem ze_yX2_closeByTag : (Cond.selects (zcl 2).1 yX2_closeByTag yX2_closeByTag) ∈ gtb := gi 8 rfl rfl
theorem zp_yX2_closeByTag : plainName yX2_closeByTag.cls = true := by decide +kernel
theorem zm_yX2_closeUpTo : zMd yX2_closeUpTo cX2_closeUpTo 4 none 2 := ⟨gi 628 rfl rfl, gi 22 rfl rfl, by decide +kernel, by decide⟩
theorem zi_yX2_closeUpTo : (Cond.instanceMethod yX2_closeUpTo) ∈ gtb := gi 627 rfl rfl
theorem ze_yX2_closeUpTo : (Cond.selects (zcl 2).1 yX2_closeUpTo yX2_closeUpTo) ∈ gtb := gi 9 rfl rfl
theorem zp_yX2_closeUpTo : plainName yX2_closeUpTo.cls = true := by decide +kernel
theorem zm_yX2_addError : zMd yX2_addError cX2_addError 2 none 1 := ⟨gi 579 rfl rfl, gi 22 rfl rfl, by decide +kernel, by decide⟩
theorem zi_yX2_addError : (Cond.instanceMethod yX2_addError) ∈ gtb := gi 578 rfl rfl
theorem ze_yX2_addError : (Cond.selects (zcl 2).1 yX2_addError yX2_addError) ∈ gtb := gi 5 rfl rfl
theorem zp_yX2_addError : plainName yX2_addError.cls = true := by decide +kernel
theorem zm_yX2_writeNormalForm : zMd yX2_writeNormalForm cX2_writeNormalForm 4 none 0 := ⟨gi 649 rfl rfl, gi 22 rfl rfl, by decide +kernel, by decide⟩
theorem zi_yX2_writeNormalForm : (Cond.instanceMethod yX2_writeNormalForm) ∈ gtb := gi 648 rfl rfl
theorem ze_yX2_writeNormalForm : (Cond.selects (zcl 2).1 yX2_writeNormalForm yX2_writeNormalForm) ∈ gtb := gi 12 rfl rfl
theorem zp_yX2_writeNormalForm : plainName yX2_writeNormalForm.cls = true := by decide +kernel
theorem zm_yX2_writeEnds : zMd yX2_writeEnds cX2_writeEnds 4 (some .int) 2 := ⟨gi 653 rfl rfl, gi 22 rfl rfl, by decide +kernel, by decide⟩
theorem zi_yX2_writeEnds : (Cond.instanceMethod yX2_writeEnds) ∈ gtb := gi 652 rfl rfl
theorem ze_yX2_writeEnds : (Cond.selects (zcl 2).1 yX2_writeEnds yX2_writeEnds) ∈ gtb := gi 13 rfl rfl
theorem zp_yX2_writeEnds : plainName yX2_writeEnds.cls = true := by decide +kernel
theorem zm_yX2_isNormalFormReadAsWritten : zMd yX2_isNormalFormReadAsWritten cX2_isNormalFormReadAsWritten 2 (some .boolean) 0 := ⟨gi 332 rfl rfl, gi 22 rfl rfl, by decide +kernel, by decide⟩
theorem zi_yX2_isNormalFormReadAsWritten : (Cond.instanceMethod yX2_isNormalFormReadAsWritten) ∈ gtb := gi 330 rfl rfl
theorem ze_yX2_isNormalFormReadAsWritten : (Cond.selects (zcl 2).1 yX2_isNormalFormReadAsWritten yX2_isNormalFormReadAsWritten) ∈ gtb := gi 331 rfl rfl
theorem zp_yX2_isNormalFormReadAsWritten : plainName yX2_isNormalFormReadAsWritten.cls = true := by decide +kernel
theorem zm_yX3_init : zMd yX3_init cX3_init 2 none 1 := ⟨gi 126 rfl rfl, gi 21 rfl rfl, by decide +kernel, by decide⟩
theorem zi_yX3_init : (Cond.instanceMethod yX3_init) ∈ gtb := gi 125 rfl rfl
theorem zp_yX3_init : plainName yX3_init.cls = true := by decide +kernel
theorem zm_yX3_sortAt : zMd yX3_sortAt cX3_sortAt 2 (some .int) 1 := ⟨gi 637 rfl rfl, gi 21 rfl rfl, by decide +kernel, by decide⟩
theorem zi_yX3_sortAt : (Cond.instanceMethod yX3_sortAt) ∈ gtb := gi 635 rfl rfl
theorem ze_yX3_sortAt : (Cond.selects (zcl 3).1 yX3_sortAt yX3_sortAt) ∈ gtb := gi 636 rfl rfl
theorem zp_yX3_sortAt : plainName yX3_sortAt.cls = true := by decide +kernel
theorem zm_yX3_putToken : zMd yX3_putToken cX3_putToken 5 none 3 := ⟨gi 556 rfl rfl, gi 21 rfl rfl, by decide +kernel, by decide⟩
theorem zi_yX3_putToken : (Cond.instanceMethod yX3_putToken) ∈ gtb := gi 554 rfl rfl
theorem ze_yX3_putToken : (Cond.selects (zcl 3).1 yX3_putToken yX3_putToken) ∈ gtb := gi 555 rfl rfl
theorem zp_yX3_putToken : plainName yX3_putToken.cls = true := by decide +kernel
theorem zm_yX3_dropToken : zMd yX3_dropToken cX3_dropToken 3 none 1 := ⟨gi 674 rfl rfl, gi 21 rfl rfl, by decide +kernel, by decide⟩
theorem zi_yX3_dropToken : (Cond.instanceMethod yX3_dropToken) ∈ gtb := gi 672 rfl rfl
theorem ze_yX3_dropToken : (Cond.selects (zcl 3).1 yX3_dropToken yX3_dropToken) ∈ gtb := gi 673 rfl rfl
theorem zp_yX3_dropToken : plainName yX3_dropToken.cls = true := by decide +kernel
theorem zm_yX4_init : zMd yX4_init cX4_init 2 none 1 := ⟨gi 192 rfl rfl, gi 24 rfl rfl, by decide +kernel, by decide⟩
theorem zi_yX4_init : (Cond.instanceMethod yX4_init) ∈ gtb := gi 191 rfl rfl
theorem zp_yX4_init : plainName yX4_init.cls = true := by decide +kernel
theorem zm_yX4_restart : zMd yX4_restart cX4_restart 1 none 0 := ⟨gi 336 rfl rfl, gi 24 rfl rfl, by decide +kernel, by decide⟩
theorem zi_yX4_restart : (Cond.instanceMethod yX4_restart) ∈ gtb := gi 334 rfl rfl
theorem ze_yX4_restart : (Cond.selects (zcl 4).1 yX4_restart yX4_restart) ∈ gtb := gi 335 rfl rfl
theorem zp_yX4_restart : plainName yX4_restart.cls = true := by decide +kernel
theorem zm_yX4_copyFrom : zMd yX4_copyFrom cX4_copyFrom 3 none 1 := ⟨gi 564 rfl rfl, gi 24 rfl rfl, by decide +kernel, by decide⟩
theorem zi_yX4_copyFrom : (Cond.instanceMethod yX4_copyFrom) ∈ gtb := gi 562 rfl rfl
theorem ze_yX4_copyFrom : (Cond.selects (zcl 4).1 yX4_copyFrom yX4_copyFrom) ∈ gtb := gi 563 rfl rfl
theorem zp_yX4_copyFrom : plainName yX4_copyFrom.cls = true := by decide +kernel
theorem zm_yX4_isLike : zMd yX4_isLike cX4_isLike 3 (some .boolean) 1 := ⟨gi 666 rfl rfl, gi 24 rfl rfl, by decide +kernel, by decide⟩
theorem zi_yX4_isLike : (Cond.instanceMethod yX4_isLike) ∈ gtb := gi 664 rfl rfl
theorem ze_yX4_isLike : (Cond.selects (zcl 4).1 yX4_isLike yX4_isLike) ∈ gtb := gi 665 rfl rfl
theorem zp_yX4_isLike : plainName yX4_isLike.cls = true := by decide +kernel
theorem zm_yX4_currentElement : zMd yX4_currentElement cX4_currentElement 1 (some .int) 0 := ⟨gi 344 rfl rfl, gi 24 rfl rfl, by decide +kernel, by decide⟩
theorem zi_yX4_currentElement : (Cond.instanceMethod yX4_currentElement) ∈ gtb := gi 342 rfl rfl
theorem ze_yX4_currentElement : (Cond.selects (zcl 4).1 yX4_currentElement yX4_currentElement) ∈ gtb := gi 343 rfl rfl
theorem zp_yX4_currentElement : plainName yX4_currentElement.cls = true := by decide +kernel
theorem zm_yX4_lastOpenOf : zMd yX4_lastOpenOf cX4_lastOpenOf 3 (some .int) 1 := ⟨gi 620 rfl rfl, gi 24 rfl rfl, by decide +kernel, by decide⟩
theorem zi_yX4_lastOpenOf : (Cond.instanceMethod yX4_lastOpenOf) ∈ gtb := gi 618 rfl rfl
theorem ze_yX4_lastOpenOf : (Cond.selects (zcl 4).1 yX4_lastOpenOf yX4_lastOpenOf) ∈ gtb := gi 619 rfl rfl
theorem zp_yX4_lastOpenOf : plainName yX4_lastOpenOf.cls = true := by decide +kernel
theorem zm_yX4_canEnd : zMd yX4_canEnd cX4_canEnd 1 (some .boolean) 0 := ⟨gi 348 rfl rfl, gi 24 rfl rfl, by decide +kernel, by decide⟩
theorem zi_yX4_canEnd : (Cond.instanceMethod yX4_canEnd) ∈ gtb := gi 346 rfl rfl
theorem ze_yX4_canEnd : (Cond.selects (zcl 4).1 yX4_canEnd yX4_canEnd) ∈ gtb := gi 347 rfl rfl
theorem zp_yX4_canEnd : plainName yX4_canEnd.cls = true := by decide +kernel
theorem zm_yX4_goesOnWith : zMd yX4_goesOnWith cX4_goesOnWith 1 (some .int) 0 := ⟨gi 597 rfl rfl, gi 24 rfl rfl, by decide +kernel, by decide⟩
theorem zi_yX4_goesOnWith : (Cond.instanceMethod yX4_goesOnWith) ∈ gtb := gi 595 rfl rfl
theorem ze_yX4_goesOnWith : (Cond.selects (zcl 4).1 yX4_goesOnWith yX4_goesOnWith) ∈ gtb := gi 596 rfl rfl
theorem zp_yX4_goesOnWith : plainName yX4_goesOnWith.cls = true := by decide +kernel
theorem zm_yX4_accept : zMd yX4_accept cX4_accept 3 (some .boolean) 1 := ⟨gi 356 rfl rfl, gi 24 rfl rfl, by decide +kernel, by decide⟩
theorem zi_yX4_accept : (Cond.instanceMethod yX4_accept) ∈ gtb := gi 354 rfl rfl
theorem ze_yX4_accept : (Cond.selects (zcl 4).1 yX4_accept yX4_accept) ∈ gtb := gi 355 rfl rfl
theorem zp_yX4_accept : plainName yX4_accept.cls = true := by decide +kernel
theorem zm_yX4_isExcluded : zMd yX4_isExcluded cX4_isExcluded 3 (some .boolean) 1 := ⟨gi 360 rfl rfl, gi 24 rfl rfl, by decide +kernel, by decide⟩
theorem zi_yX4_isExcluded : (Cond.instanceMethod yX4_isExcluded) ∈ gtb := gi 359 rfl rfl
theorem ze_yX4_isExcluded : (Cond.selects (zcl 4).1 yX4_isExcluded yX4_isExcluded) ∈ gtb := gi 0 rfl rfl
theorem zp_yX4_isExcluded : plainName yX4_isExcluded.cls = true := by decide +kernel
theorem zm_yX4_isIncluded : zMd yX4_isIncluded cX4_isIncluded 3 (some .boolean) 1 := ⟨gi 368 rfl rfl, gi 24 rfl rfl, by decide +kernel, by decide⟩
theorem zi_yX4_isIncluded : (Cond.instanceMethod yX4_isIncluded) ∈ gtb := gi 367 rfl rfl
theorem ze_yX4_isIncluded : (Cond.selects (zcl 4).1 yX4_isIncluded yX4_isIncluded) ∈ gtb := gi 1 rfl rfl
theorem zp_yX4_isIncluded : plainName yX4_isIncluded.cls = true := by decide +kernel
theorem zm_yX4_elementToPutIn : zMd yX4_elementToPutIn cX4_elementToPutIn 3 (some .int) 0 := ⟨gi 593 rfl rfl, gi 24 rfl rfl, by decide +kernel, by decide⟩
theorem zi_yX4_elementToPutIn : (Cond.instanceMethod yX4_elementToPutIn) ∈ gtb := gi 591 rfl rfl
theorem ze_yX4_elementToPutIn : (Cond.selects (zcl 4).1 yX4_elementToPutIn yX4_elementToPutIn) ∈ gtb := gi 592 rfl rfl
theorem zp_yX4_elementToPutIn : plainName yX4_elementToPutIn.cls = true := by decide +kernel
theorem zm_yX4_mayCloseUnasked : zMd yX4_mayCloseUnasked cX4_mayCloseUnasked 1 (some .boolean) 0 := ⟨gi 611 rfl rfl, gi 24 rfl rfl, by decide +kernel, by decide⟩
theorem zi_yX4_mayCloseUnasked : (Cond.instanceMethod yX4_mayCloseUnasked) ∈ gtb := gi 609 rfl rfl
theorem ze_yX4_mayCloseUnasked : (Cond.selects (zcl 4).1 yX4_mayCloseUnasked yX4_mayCloseUnasked) ∈ gtb := gi 610 rfl rfl
theorem zp_yX4_mayCloseUnasked : plainName yX4_mayCloseUnasked.cls = true := by decide +kernel
theorem zm_yX4_enter : zMd yX4_enter cX4_enter 2 none 1 := ⟨gi 372 rfl rfl, gi 24 rfl rfl, by decide +kernel, by decide⟩
theorem zi_yX4_enter : (Cond.instanceMethod yX4_enter) ∈ gtb := gi 370 rfl rfl
theorem ze_yX4_enter : (Cond.selects (zcl 4).1 yX4_enter yX4_enter) ∈ gtb := gi 371 rfl rfl
theorem zp_yX4_enter : plainName yX4_enter.cls = true := by decide +kernel
theorem zm_yX4_leave : zMd yX4_leave cX4_leave 1 none 0 := ⟨gi 352 rfl rfl, gi 24 rfl rfl, by decide +kernel, by decide⟩
theorem zi_yX4_leave : (Cond.instanceMethod yX4_leave) ∈ gtb := gi 350 rfl rfl
theorem ze_yX4_leave : (Cond.selects (zcl 4).1 yX4_leave yX4_leave) ∈ gtb := gi 351 rfl rfl
theorem zp_yX4_leave : plainName yX4_leave.cls = true := by decide +kernel
theorem zm_yX4_readAsWritten : zMd yX4_readAsWritten cX4_readAsWritten 3 (some .boolean) 2 := ⟨gi 340 rfl rfl, gi 24 rfl rfl, by decide +kernel, by decide⟩
theorem zi_yX4_readAsWritten : (Cond.instanceMethod yX4_readAsWritten) ∈ gtb := gi 338 rfl rfl
theorem ze_yX4_readAsWritten : (Cond.selects (zcl 4).1 yX4_readAsWritten yX4_readAsWritten) ∈ gtb := gi 339 rfl rfl
theorem zp_yX4_readAsWritten : plainName yX4_readAsWritten.cls = true := by decide +kernel
theorem zm_yX5_init : zMd yX5_init cX5_init 1 none 0 := ⟨gi 153 rfl rfl, gi 23 rfl rfl, by decide +kernel, by decide⟩
theorem zi_yX5_init : (Cond.instanceMethod yX5_init) ∈ gtb := gi 152 rfl rfl
theorem zp_yX5_init : plainName yX5_init.cls = true := by decide +kernel
theorem zm_yX5_addThing : zMd yX5_addThing cX5_addThing 6 none 5 := ⟨gi 588 rfl rfl, gi 23 rfl rfl, by decide +kernel, by decide⟩
theorem zi_yX5_addThing : (Cond.instanceMethod yX5_addThing) ∈ gtb := gi 586 rfl rfl
theorem ze_yX5_addThing : (Cond.selects (zcl 5).1 yX5_addThing yX5_addThing) ∈ gtb := gi 587 rfl rfl
theorem zp_yX5_addThing : plainName yX5_addThing.cls = true := by decide +kernel
theorem zm_yX6_init : zMd yX6_init cX6_init 4 none 2 := ⟨gi 282 rfl rfl, gi 25 rfl rfl, by decide +kernel, by decide⟩
theorem zi_yX6_init : (Cond.instanceMethod yX6_init) ∈ gtb := gi 281 rfl rfl
theorem zp_yX6_init : plainName yX6_init.cls = true := by decide +kernel
theorem zm_yX7_init : zMd yX7_init cX7_init 2 none 0 := ⟨gi 46 rfl rfl, gi 18 rfl rfl, by decide +kernel, by decide⟩
theorem zi_yX7_init : (Cond.instanceMethod yX7_init) ∈ gtb := gi 45 rfl rfl
theorem zp_yX7_init : plainName yX7_init.cls = true := by decide +kernel
theorem zm_yX7_slot : zMd yX7_slot cX7_slot 8 (some .int) 4 := ⟨gi 723 rfl rfl, gi 18 rfl rfl, by decide +kernel, by decide⟩
theorem zi_yX7_slot : (Cond.instanceMethod yX7_slot) ∈ gtb := gi 721 rfl rfl
theorem ze_yX7_slot : (Cond.selects (zcl 7).1 yX7_slot yX7_slot) ∈ gtb := gi 722 rfl rfl
theorem zp_yX7_slot : plainName yX7_slot.cls = true := by decide +kernel
theorem zm_yX7_empty : zMd yX7_empty cX7_empty 3 (some .int) 1 := ⟨gi 698 rfl rfl, gi 18 rfl rfl, by decide +kernel, by decide⟩
theorem zi_yX7_empty : (Cond.instanceMethod yX7_empty) ∈ gtb := gi 696 rfl rfl
theorem ze_yX7_empty : (Cond.selects (zcl 7).1 yX7_empty yX7_empty) ∈ gtb := gi 697 rfl rfl
theorem zp_yX7_empty : plainName yX7_empty.cls = true := by decide +kernel
theorem zm_yX7_except : zMd yX7_except cX7_except 4 none 3 := ⟨gi 707 rfl rfl, gi 18 rfl rfl, by decide +kernel, by decide⟩
theorem zi_yX7_except : (Cond.instanceMethod yX7_except) ∈ gtb := gi 705 rfl rfl
theorem ze_yX7_except : (Cond.selects (zcl 7).1 yX7_except yX7_except) ∈ gtb := gi 706 rfl rfl
theorem zp_yX7_except : plainName yX7_except.cls = true := by decide +kernel
theorem zm_yX7_omit : zMd yX7_omit cX7_omit 4 none 3 := ⟨gi 713 rfl rfl, gi 18 rfl rfl, by decide +kernel, by decide⟩
theorem zi_yX7_omit : (Cond.instanceMethod yX7_omit) ∈ gtb := gi 711 rfl rfl
theorem ze_yX7_omit : (Cond.selects (zcl 7).1 yX7_omit yX7_omit) ∈ gtb := gi 712 rfl rfl
theorem zp_yX7_omit : plainName yX7_omit.cls = true := by decide +kernel
theorem zm_yX7_entity : zMd yX7_entity cX7_entity 5 (some .int) 3 := ⟨gi 690 rfl rfl, gi 18 rfl rfl, by decide +kernel, by decide⟩
theorem zi_yX7_entity : (Cond.instanceMethod yX7_entity) ∈ gtb := gi 688 rfl rfl
theorem ze_yX7_entity : (Cond.selects (zcl 7).1 yX7_entity yX7_entity) ∈ gtb := gi 689 rfl rfl
theorem zp_yX7_entity : plainName yX7_entity.cls = true := by decide +kernel
theorem zm_yX7_clear : zMd yX7_clear cX7_clear 3 (some .int) 1 := ⟨gi 686 rfl rfl, gi 18 rfl rfl, by decide +kernel, by decide⟩
theorem zi_yX7_clear : (Cond.instanceMethod yX7_clear) ∈ gtb := gi 684 rfl rfl
theorem ze_yX7_clear : (Cond.selects (zcl 7).1 yX7_clear yX7_clear) ∈ gtb := gi 685 rfl rfl
theorem zp_yX7_clear : plainName yX7_clear.cls = true := by decide +kernel
theorem zm_yX7_flip : zMd yX7_flip cX7_flip 4 (some .int) 2 := ⟨gi 681 rfl rfl, gi 18 rfl rfl, by decide +kernel, by decide⟩
theorem zi_yX7_flip : (Cond.instanceMethod yX7_flip) ∈ gtb := gi 679 rfl rfl
theorem ze_yX7_flip : (Cond.selects (zcl 7).1 yX7_flip yX7_flip) ∈ gtb := gi 680 rfl rfl
theorem zp_yX7_flip : plainName yX7_flip.cls = true := by decide +kernel
theorem zm_yX7_insert : zMd yX7_insert cX7_insert 4 (some .int) 3 := ⟨gi 442 rfl rfl, gi 18 rfl rfl, by decide +kernel, by decide⟩
theorem zi_yX7_insert : (Cond.instanceMethod yX7_insert) ∈ gtb := gi 440 rfl rfl
theorem ze_yX7_insert : (Cond.selects (zcl 7).1 yX7_insert yX7_insert) ∈ gtb := gi 441 rfl rfl
theorem zp_yX7_insert : plainName yX7_insert.cls = true := by decide +kernel
theorem zm_yX7_erase : zMd yX7_erase cX7_erase 2 (some .int) 1 := ⟨gi 670 rfl rfl, gi 18 rfl rfl, by decide +kernel, by decide⟩
theorem zi_yX7_erase : (Cond.instanceMethod yX7_erase) ∈ gtb := gi 668 rfl rfl
theorem ze_yX7_erase : (Cond.selects (zcl 7).1 yX7_erase yX7_erase) ∈ gtb := gi 669 rfl rfl
theorem zp_yX7_erase : plainName yX7_erase.cls = true := by decide +kernel
theorem zm_yX7_length : zMd yX7_length cX7_length 1 (some .int) 0 := ⟨gi 752 rfl rfl, gi 18 rfl rfl, by decide +kernel, by decide⟩
theorem zi_yX7_length : (Cond.instanceMethod yX7_length) ∈ gtb := gi 750 rfl rfl
theorem ze_yX7_length : (Cond.selects (zcl 7).1 yX7_length yX7_length) ∈ gtb := gi 751 rfl rfl
theorem zp_yX7_length : plainName yX7_length.cls = true := by decide +kernel
theorem zm_yX7_anew : zMd yX7_anew cX7_anew 1 (some .int) 0 := ⟨gi 376 rfl rfl, gi 18 rfl rfl, by decide +kernel, by decide⟩
theorem zi_yX7_anew : (Cond.instanceMethod yX7_anew) ∈ gtb := gi 374 rfl rfl
theorem ze_yX7_anew : (Cond.selects (zcl 7).1 yX7_anew yX7_anew) ∈ gtb := gi 375 rfl rfl
theorem zp_yX7_anew : plainName yX7_anew.cls = true := by decide +kernel
theorem zm_yX7_open : zMd yX7_open cX7_open 2 (some .int) 1 := ⟨gi 756 rfl rfl, gi 18 rfl rfl, by decide +kernel, by decide⟩
theorem zi_yX7_open : (Cond.instanceMethod yX7_open) ∈ gtb := gi 754 rfl rfl
theorem ze_yX7_open : (Cond.selects (zcl 7).1 yX7_open yX7_open) ∈ gtb := gi 755 rfl rfl
theorem zp_yX7_open : plainName yX7_open.cls = true := by decide +kernel
theorem zm_yX7_current : zMd yX7_current cX7_current 2 (some .int) 1 := ⟨gi 760 rfl rfl, gi 18 rfl rfl, by decide +kernel, by decide⟩
theorem zi_yX7_current : (Cond.instanceMethod yX7_current) ∈ gtb := gi 758 rfl rfl
theorem ze_yX7_current : (Cond.selects (zcl 7).1 yX7_current yX7_current) ∈ gtb := gi 759 rfl rfl
theorem zp_yX7_current : plainName yX7_current.cls = true := by decide +kernel
theorem zm_yX7_next : zMd yX7_next cX7_next 2 (some .int) 1 := ⟨gi 765 rfl rfl, gi 18 rfl rfl, by decide +kernel, by decide⟩
theorem zi_yX7_next : (Cond.instanceMethod yX7_next) ∈ gtb := gi 763 rfl rfl
theorem ze_yX7_next : (Cond.selects (zcl 7).1 yX7_next yX7_next) ∈ gtb := gi 764 rfl rfl
theorem zp_yX7_next : plainName yX7_next.cls = true := by decide +kernel
theorem zm_yX7_things : zMd yX7_things cX7_things 1 (some .int) 0 := ⟨gi 320 rfl rfl, gi 18 rfl rfl, by decide +kernel, by decide⟩
theorem zi_yX7_things : (Cond.instanceMethod yX7_things) ∈ gtb := gi 318 rfl rfl
theorem ze_yX7_things : (Cond.selects (zcl 7).1 yX7_things yX7_things) ∈ gtb := gi 319 rfl rfl
theorem zp_yX7_things : plainName yX7_things.cls = true := by decide +kernel
theorem zm_yX7_kind : zMd yX7_kind cX7_kind 2 (some .int) 1 := ⟨gi 781 rfl rfl, gi 18 rfl rfl, by decide +kernel, by decide⟩
theorem zi_yX7_kind : (Cond.instanceMethod yX7_kind) ∈ gtb := gi 779 rfl rfl
theorem ze_yX7_kind : (Cond.selects (zcl 7).1 yX7_kind yX7_kind) ∈ gtb := gi 780 rfl rfl
theorem zp_yX7_kind : plainName yX7_kind.cls = true := by decide +kernel
theorem zm_yX7_parent : zMd yX7_parent cX7_parent 2 (some .int) 1 := ⟨gi 785 rfl rfl, gi 18 rfl rfl, by decide +kernel, by decide⟩
theorem zi_yX7_parent : (Cond.instanceMethod yX7_parent) ∈ gtb := gi 783 rfl rfl
theorem ze_yX7_parent : (Cond.selects (zcl 7).1 yX7_parent yX7_parent) ∈ gtb := gi 784 rfl rfl
theorem zp_yX7_parent : plainName yX7_parent.cls = true := by decide +kernel
theorem zm_yX7_letter : zMd yX7_letter cX7_letter 2 (some .char) 1 := ⟨gi 789 rfl rfl, gi 18 rfl rfl, by decide +kernel, by decide⟩
theorem zi_yX7_letter : (Cond.instanceMethod yX7_letter) ∈ gtb := gi 787 rfl rfl
theorem ze_yX7_letter : (Cond.selects (zcl 7).1 yX7_letter yX7_letter) ∈ gtb := gi 788 rfl rfl
theorem zp_yX7_letter : plainName yX7_letter.cls = true := by decide +kernel
theorem zm_yX7_placeOf : zMd yX7_placeOf cX7_placeOf 2 (some .int) 1 := ⟨gi 793 rfl rfl, gi 18 rfl rfl, by decide +kernel, by decide⟩
theorem zi_yX7_placeOf : (Cond.instanceMethod yX7_placeOf) ∈ gtb := gi 791 rfl rfl
theorem ze_yX7_placeOf : (Cond.selects (zcl 7).1 yX7_placeOf yX7_placeOf) ∈ gtb := gi 792 rfl rfl
theorem zp_yX7_placeOf : plainName yX7_placeOf.cls = true := by decide +kernel
theorem zm_yX7_isPutIn : zMd yX7_isPutIn cX7_isPutIn 2 (some .boolean) 1 := ⟨gi 797 rfl rfl, gi 18 rfl rfl, by decide +kernel, by decide⟩
theorem zi_yX7_isPutIn : (Cond.instanceMethod yX7_isPutIn) ∈ gtb := gi 795 rfl rfl
theorem ze_yX7_isPutIn : (Cond.selects (zcl 7).1 yX7_isPutIn yX7_isPutIn) ∈ gtb := gi 796 rfl rfl
theorem zp_yX7_isPutIn : plainName yX7_isPutIn.cls = true := by decide +kernel
theorem zm_yX7_endsPutIn : zMd yX7_endsPutIn cX7_endsPutIn 1 (some .int) 0 := ⟨gi 773 rfl rfl, gi 18 rfl rfl, by decide +kernel, by decide⟩
theorem zi_yX7_endsPutIn : (Cond.instanceMethod yX7_endsPutIn) ∈ gtb := gi 771 rfl rfl
theorem ze_yX7_endsPutIn : (Cond.selects (zcl 7).1 yX7_endsPutIn yX7_endsPutIn) ∈ gtb := gi 772 rfl rfl
theorem zp_yX7_endsPutIn : plainName yX7_endsPutIn.cls = true := by decide +kernel
theorem zm_yX7_errors : zMd yX7_errors cX7_errors 1 (some .int) 0 := ⟨gi 777 rfl rfl, gi 18 rfl rfl, by decide +kernel, by decide⟩
theorem zi_yX7_errors : (Cond.instanceMethod yX7_errors) ∈ gtb := gi 775 rfl rfl
theorem ze_yX7_errors : (Cond.selects (zcl 7).1 yX7_errors yX7_errors) ∈ gtb := gi 776 rfl rfl
theorem zp_yX7_errors : plainName yX7_errors.cls = true := by decide +kernel
theorem zm_yX7_errorKind : zMd yX7_errorKind cX7_errorKind 2 (some .int) 1 := ⟨gi 801 rfl rfl, gi 18 rfl rfl, by decide +kernel, by decide⟩
theorem zi_yX7_errorKind : (Cond.instanceMethod yX7_errorKind) ∈ gtb := gi 799 rfl rfl
theorem ze_yX7_errorKind : (Cond.selects (zcl 7).1 yX7_errorKind yX7_errorKind) ∈ gtb := gi 800 rfl rfl
theorem zp_yX7_errorKind : plainName yX7_errorKind.cls = true := by decide +kernel
theorem zm_yX7_errorAt : zMd yX7_errorAt cX7_errorAt 2 (some .int) 1 := ⟨gi 805 rfl rfl, gi 18 rfl rfl, by decide +kernel, by decide⟩
theorem zi_yX7_errorAt : (Cond.instanceMethod yX7_errorAt) ∈ gtb := gi 803 rfl rfl
theorem ze_yX7_errorAt : (Cond.selects (zcl 7).1 yX7_errorAt yX7_errorAt) ∈ gtb := gi 804 rfl rfl
theorem zp_yX7_errorAt : plainName yX7_errorAt.cls = true := by decide +kernel
theorem zm_yX7_normal : zMd yX7_normal cX7_normal 1 (some .int) 0 := ⟨gi 324 rfl rfl, gi 18 rfl rfl, by decide +kernel, by decide⟩
theorem zi_yX7_normal : (Cond.instanceMethod yX7_normal) ∈ gtb := gi 322 rfl rfl
theorem ze_yX7_normal : (Cond.selects (zcl 7).1 yX7_normal yX7_normal) ∈ gtb := gi 323 rfl rfl
theorem zp_yX7_normal : plainName yX7_normal.cls = true := by decide +kernel
theorem zm_yX7_isSame : zMd yX7_isSame cX7_isSame 1 (some .boolean) 0 := ⟨gi 328 rfl rfl, gi 18 rfl rfl, by decide +kernel, by decide⟩
theorem zi_yX7_isSame : (Cond.instanceMethod yX7_isSame) ∈ gtb := gi 326 rfl rfl
theorem ze_yX7_isSame : (Cond.selects (zcl 7).1 yX7_isSame yX7_isSame) ∈ gtb := gi 327 rfl rfl
theorem zp_yX7_isSame : plainName yX7_isSame.cls = true := by decide +kernel
theorem zm_yX7_checkIndex : zMd yX7_checkIndex cX7_checkIndex 2 none 2 := ⟨gi 445 rfl rfl, gi 18 rfl rfl, by decide +kernel, by decide⟩
theorem zs_yX7_checkIndex : (Cond.static yX7_checkIndex) ∈ gtb := gi 444 rfl rfl
theorem zp_yX7_checkIndex : plainName yX7_checkIndex.cls = true := by decide +kernel
theorem zm_yX7_checkToken : zMd yX7_checkToken cX7_checkToken 2 none 2 := ⟨gi 517 rfl rfl, gi 18 rfl rfl, by decide +kernel, by decide⟩
theorem zs_yX7_checkToken : (Cond.static yX7_checkToken) ∈ gtb := gi 516 rfl rfl
theorem zp_yX7_checkToken : plainName yX7_checkToken.cls = true := by decide +kernel
theorem zm_yX7_isValueOf : zMd yX7_isValueOf cX7_isValueOf 2 (some .boolean) 2 := ⟨gi 520 rfl rfl, gi 18 rfl rfl, by decide +kernel, by decide⟩
theorem zs_yX7_isValueOf : (Cond.static yX7_isValueOf) ∈ gtb := gi 519 rfl rfl
end

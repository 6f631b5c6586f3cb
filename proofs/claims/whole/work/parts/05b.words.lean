theorem im_X4_spans : am_T (.instanceMethod yX4_spans) := ⟨List.mem_append_right _ (List.mem_of_getElem? (i := 249) (by decide +kernel)), by decide +kernel⟩
theorem im_X7_answerOfFault : am_T (.instanceMethod yX7_answerOfFault) := ⟨List.mem_append_right _ (List.mem_of_getElem? (i := 253) (by decide +kernel)), by decide +kernel⟩
theorem im_X4_at : am_T (.instanceMethod yX4_at) := ⟨List.mem_append_right _ (List.mem_of_getElem? (i := 259) (by decide +kernel)), by decide +kernel⟩
theorem im_X0_forget : am_T (.instanceMethod yX0_forget) := ⟨List.mem_append_right _ (List.mem_of_getElem? (i := 275) (by decide +kernel)), by decide +kernel⟩
theorem im_X5_forget : am_T (.instanceMethod yX5_forget) := ⟨List.mem_append_right _ (List.mem_of_getElem? (i := 279) (by decide +kernel)), by decide +kernel⟩
theorem im_X7_ofPlace : am_T (.instanceMethod yX7_ofPlace) := ⟨List.mem_append_right _ (List.mem_of_getElem? (i := 283) (by decide +kernel)), by decide +kernel⟩
theorem im_X3_has : am_T (.instanceMethod yX3_has) := ⟨List.mem_append_right _ (List.mem_of_getElem? (i := 287) (by decide +kernel)), by decide +kernel⟩
theorem im_X3_stepped : am_T (.instanceMethod yX3_stepped) := ⟨List.mem_append_right _ (List.mem_of_getElem? (i := 291) (by decide +kernel)), by decide +kernel⟩
theorem im_X3_howFar : am_T (.instanceMethod yX3_howFar) := ⟨List.mem_append_right _ (List.mem_of_getElem? (i := 296) (by decide +kernel)), by decide +kernel⟩
theorem im_X7_write : am_T (.instanceMethod yX7_write) := ⟨List.mem_append_right _ (List.mem_of_getElem? (i := 302) (by decide +kernel)), by decide +kernel⟩
theorem im_X3_isNumber : am_T (.instanceMethod yX3_isNumber) := ⟨List.mem_append_right _ (List.mem_of_getElem? (i := 306) (by decide +kernel)), by decide +kernel⟩
theorem im_X7_steps : am_T (.instanceMethod yX7_steps) := ⟨List.mem_append_right _ (List.mem_of_getElem? (i := 310) (by decide +kernel)), by decide +kernel⟩
theorem im_X3_isNone : am_T (.instanceMethod yX3_isNone) := ⟨List.mem_append_right _ (List.mem_of_getElem? (i := 314) (by decide +kernel)), by decide +kernel⟩
theorem im_X3_go : am_T (.instanceMethod yX3_go) := ⟨List.mem_append_right _ (List.mem_of_getElem? (i := 318) (by decide +kernel)), by decide +kernel⟩
theorem im_X3_zeros : am_T (.instanceMethod yX3_zeros) := ⟨List.mem_append_right _ (List.mem_of_getElem? (i := 326) (by decide +kernel)), by decide +kernel⟩
theorem im_X7_after : am_T (.instanceMethod yX7_after) := ⟨List.mem_append_right _ (List.mem_of_getElem? (i := 330) (by decide +kernel)), by decide +kernel⟩
theorem im_X0_workOut : am_T (.instanceMethod yX0_workOut) := ⟨List.mem_append_right _ (List.mem_of_getElem? (i := 335) (by decide +kernel)), by decide +kernel⟩
theorem im_X3_takeKinds : am_T (.instanceMethod yX3_takeKinds) := ⟨List.mem_append_right _ (List.mem_of_getElem? (i := 340) (by decide +kernel)), by decide +kernel⟩
theorem im_X0_makeRoom : am_T (.instanceMethod yX0_makeRoom) := ⟨List.mem_append_right _ (List.mem_of_getElem? (i := 345) (by decide +kernel)), by decide +kernel⟩
theorem im_X0_findNext : am_T (.instanceMethod yX0_findNext) := ⟨List.mem_append_right _ (List.mem_of_getElem? (i := 349) (by decide +kernel)), by decide +kernel⟩
theorem im_X3_takeFirstRow : am_T (.instanceMethod yX3_takeFirstRow) := ⟨List.mem_append_right _ (List.mem_of_getElem? (i := 355) (by decide +kernel)), by decide +kernel⟩
theorem im_X3_steppedCode : am_T (.instanceMethod yX3_steppedCode) := ⟨List.mem_append_right _ (List.mem_of_getElem? (i := 360) (by decide +kernel)), by decide +kernel⟩
theorem im_X0_isRow : am_T (.instanceMethod yX0_isRow) := ⟨List.mem_append_right _ (List.mem_of_getElem? (i := 365) (by decide +kernel)), by decide +kernel⟩
theorem im_X3_takeNextRow : am_T (.instanceMethod yX3_takeNextRow) := ⟨List.mem_append_right _ (List.mem_of_getElem? (i := 368) (by decide +kernel)), by decide +kernel⟩
theorem im_X0_orderThoseThatDoNotComeBack : am_T (.instanceMethod yX0_orderThoseThatDoNotComeBack) := ⟨List.mem_append_right _ (List.mem_of_getElem? (i := 373) (by decide +kernel)), by decide +kernel⟩
theorem im_X0_takeAway : am_T (.instanceMethod yX0_takeAway) := ⟨List.mem_append_right _ (List.mem_of_getElem? (i := 377) (by decide +kernel)), by decide +kernel⟩
theorem im_X0_nextOf : am_T (.instanceMethod yX0_nextOf) := ⟨List.mem_append_right _ (List.mem_of_getElem? (i := 380) (by decide +kernel)), by decide +kernel⟩
theorem im_X0_findRounds : am_T (.instanceMethod yX0_findRounds) := ⟨List.mem_append_right _ (List.mem_of_getElem? (i := 385) (by decide +kernel)), by decide +kernel⟩
theorem im_X0_markRound : am_T (.instanceMethod yX0_markRound) := ⟨List.mem_append_right _ (List.mem_of_getElem? (i := 389) (by decide +kernel)), by decide +kernel⟩
theorem im_X0_findTails : am_T (.instanceMethod yX0_findTails) := ⟨List.mem_append_right _ (List.mem_of_getElem? (i := 393) (by decide +kernel)), by decide +kernel⟩
theorem im_X0_sumUp : am_T (.instanceMethod yX0_sumUp) := ⟨List.mem_append_right _ (List.mem_of_getElem? (i := 397) (by decide +kernel)), by decide +kernel⟩
theorem im_X0_goesOut : am_T (.instanceMethod yX0_goesOut) := ⟨List.mem_append_right _ (List.mem_of_getElem? (i := 400) (by decide +kernel)), by decide +kernel⟩
theorem im_X3_code : am_T (.instanceMethod yX3_code) := ⟨List.mem_append_right _ (List.mem_of_getElem? (i := 404) (by decide +kernel)), by decide +kernel⟩
theorem im_X0_behind : am_T (.instanceMethod yX0_behind) := ⟨List.mem_append_right _ (List.mem_of_getElem? (i := 408) (by decide +kernel)), by decide +kernel⟩
theorem im_X0_tailOf : am_T (.instanceMethod yX0_tailOf) := ⟨List.mem_append_right _ (List.mem_of_getElem? (i := 412) (by decide +kernel)), by decide +kernel⟩
theorem im_X0_roundOf : am_T (.instanceMethod yX0_roundOf) := ⟨List.mem_append_right _ (List.mem_of_getElem? (i := 416) (by decide +kernel)), by decide +kernel⟩
theorem im_X0_numberIn : am_T (.instanceMethod yX0_numberIn) := ⟨List.mem_append_right _ (List.mem_of_getElem? (i := 420) (by decide +kernel)), by decide +kernel⟩
theorem im_X7_day : am_T (.instanceMethod yX7_day) := ⟨List.mem_append_right _ (List.mem_of_getElem? (i := 424) (by decide +kernel)), by decide +kernel⟩
theorem im_X3_takeAll : am_T (.instanceMethod yX3_takeAll) := ⟨List.mem_append_right _ (List.mem_of_getElem? (i := 438) (by decide +kernel)), by decide +kernel⟩
theorem im_X1_play : am_T (.instanceMethod yX1_play) := ⟨List.mem_append_right _ (List.mem_of_getElem? (i := 443) (by decide +kernel)), by decide +kernel⟩
theorem im_X1_canDo : am_T (.instanceMethod yX1_canDo) := ⟨List.mem_append_right _ (List.mem_of_getElem? (i := 448) (by decide +kernel)), by decide +kernel⟩
theorem im_X3_isOut : am_T (.instanceMethod yX3_isOut) := ⟨List.mem_append_right _ (List.mem_of_getElem? (i := 454) (by decide +kernel)), by decide +kernel⟩
theorem im_X7_ofDay : am_T (.instanceMethod yX7_ofDay) := ⟨List.mem_append_right _ (List.mem_of_getElem? (i := 460) (by decide +kernel)), by decide +kernel⟩
theorem im_X3_total : am_T (.instanceMethod yX3_total) := ⟨List.mem_append_right _ (List.mem_of_getElem? (i := 463) (by decide +kernel)), by decide +kernel⟩
theorem im_X3_numberAt : am_T (.instanceMethod yX3_numberAt) := ⟨List.mem_append_right _ (List.mem_of_getElem? (i := 468) (by decide +kernel)), by decide +kernel⟩
theorem im_X7_now : am_T (.instanceMethod yX7_now) := ⟨List.mem_append_right _ (List.mem_of_getElem? (i := 473) (by decide +kernel)), by decide +kernel⟩
theorem im_X7_from : am_T (.instanceMethod yX7_from) := ⟨List.mem_append_right _ (List.mem_of_getElem? (i := 479) (by decide +kernel)), by decide +kernel⟩
theorem im_X0_comersOf : am_T (.instanceMethod yX0_comersOf) := ⟨List.mem_append_right _ (List.mem_of_getElem? (i := 483) (by decide +kernel)), by decide +kernel⟩
theorem im_X0_firstComerOf : am_T (.instanceMethod yX0_firstComerOf) := ⟨List.mem_append_right _ (List.mem_of_getElem? (i := 487) (by decide +kernel)), by decide +kernel⟩
theorem im_X7_rows : am_T (.instanceMethod yX7_rows) := ⟨List.mem_append_right _ (List.mem_of_getElem? (i := 491) (by decide +kernel)), by decide +kernel⟩
theorem im_X7_longest : am_T (.instanceMethod yX7_longest) := ⟨List.mem_append_right _ (List.mem_of_getElem? (i := 495) (by decide +kernel)), by decide +kernel⟩
theorem im_X7_meet : am_T (.instanceMethod yX7_meet) := ⟨List.mem_append_right _ (List.mem_of_getElem? (i := 499) (by decide +kernel)), by decide +kernel⟩
theorem im_X3_takeRow : am_T (.instanceMethod yX3_takeRow) := ⟨List.mem_append_right _ (List.mem_of_getElem? (i := 503) (by decide +kernel)), by decide +kernel⟩
theorem im_X0_meeting : am_T (.instanceMethod yX0_meeting) := ⟨List.mem_append_right _ (List.mem_of_getElem? (i := 509) (by decide +kernel)), by decide +kernel⟩
theorem im_X7_few : am_T (.instanceMethod yX7_few) := ⟨List.mem_append_right _ (List.mem_of_getElem? (i := 513) (by decide +kernel)), by decide +kernel⟩
theorem im_X0_leastSetToGoOut : am_T (.instanceMethod yX0_leastSetToGoOut) := ⟨List.mem_append_right _ (List.mem_of_getElem? (i := 517) (by decide +kernel)), by decide +kernel⟩
theorem im_X0_unlikePlaces : am_T (.instanceMethod yX0_unlikePlaces) := ⟨List.mem_append_right _ (List.mem_of_getElem? (i := 522) (by decide +kernel)), by decide +kernel⟩
theorem im_X7_reading : am_T (.instanceMethod yX7_reading) := ⟨List.mem_append_right _ (List.mem_of_getElem? (i := 532) (by decide +kernel)), by decide +kernel⟩
theorem im_X2_keep : am_T (.instanceMethod yX2_keep) := ⟨List.mem_append_right _ (List.mem_of_getElem? (i := 539) (by decide +kernel)), by decide +kernel⟩
theorem im_X7_back : am_T (.instanceMethod yX7_back) := ⟨List.mem_append_right _ (List.mem_of_getElem? (i := 543) (by decide +kernel)), by decide +kernel⟩
theorem im_X7_kinds : am_T (.instanceMethod yX7_kinds) := ⟨List.mem_append_right _ (List.mem_of_getElem? (i := 547) (by decide +kernel)), by decide +kernel⟩
theorem im_X2_areSo : am_T (.instanceMethod yX2_areSo) := ⟨List.mem_append_right _ (List.mem_of_getElem? (i := 551) (by decide +kernel)), by decide +kernel⟩
theorem im_X2_lastTime : am_T (.instanceMethod yX2_lastTime) := ⟨List.mem_append_right _ (List.mem_of_getElem? (i := 556) (by decide +kernel)), by decide +kernel⟩
theorem im_X2_areSoAt : am_T (.instanceMethod yX2_areSoAt) := ⟨List.mem_append_right _ (List.mem_of_getElem? (i := 563) (by decide +kernel)), by decide +kernel⟩
theorem im_X7_firsts : am_T (.instanceMethod yX7_firsts) := ⟨List.mem_append_right _ (List.mem_of_getElem? (i := 568) (by decide +kernel)), by decide +kernel⟩
theorem im_X7_odds : am_T (.instanceMethod yX7_odds) := ⟨List.mem_append_right _ (List.mem_of_getElem? (i := 572) (by decide +kernel)), by decide +kernel⟩
theorem im_X5_goTo : am_T (.instanceMethod yX5_goTo) := ⟨List.mem_append_right _ (List.mem_of_getElem? (i := 577) (by decide +kernel)), by decide +kernel⟩
theorem im_X5_begin : am_T (.instanceMethod yX5_begin) := ⟨List.mem_append_right _ (List.mem_of_getElem? (i := 582) (by decide +kernel)), by decide +kernel⟩
theorem im_X5_stepAll : am_T (.instanceMethod yX5_stepAll) := ⟨List.mem_append_right _ (List.mem_of_getElem? (i := 586) (by decide +kernel)), by decide +kernel⟩
theorem im_X5_whereKept : am_T (.instanceMethod yX5_whereKept) := ⟨List.mem_append_right _ (List.mem_of_getElem? (i := 591) (by decide +kernel)), by decide +kernel⟩
theorem im_X5_howMany : am_T (.instanceMethod yX5_howMany) := ⟨List.mem_append_right _ (List.mem_of_getElem? (i := 594) (by decide +kernel)), by decide +kernel⟩
theorem im_X7_sheet : am_T (.instanceMethod yX7_sheet) := ⟨List.mem_append_right _ (List.mem_of_getElem? (i := 602) (by decide +kernel)), by decide +kernel⟩
theorem im_X4_renew : am_T (.instanceMethod yX4_renew) := ⟨List.mem_append_right _ (List.mem_of_getElem? (i := 606) (by decide +kernel)), by decide +kernel⟩
theorem im_X7_lose : am_T (.instanceMethod yX7_lose) := ⟨List.mem_append_right _ (List.mem_of_getElem? (i := 611) (by decide +kernel)), by decide +kernel⟩
theorem im_X4_drop : am_T (.instanceMethod yX4_drop) := ⟨List.mem_append_right _ (List.mem_of_getElem? (i := 616) (by decide +kernel)), by decide +kernel⟩
theorem im_X7_put : am_T (.instanceMethod yX7_put) := ⟨List.mem_append_right _ (List.mem_of_getElem? (i := 620) (by decide +kernel)), by decide +kernel⟩
theorem im_X4_change : am_T (.instanceMethod yX4_change) := ⟨List.mem_append_right _ (List.mem_of_getElem? (i := 625) (by decide +kernel)), by decide +kernel⟩
theorem im_X4_cut : am_T (.instanceMethod yX4_cut) := ⟨List.mem_append_right _ (List.mem_of_getElem? (i := 630) (by decide +kernel)), by decide +kernel⟩
theorem im_X7_cell : am_T (.instanceMethod yX7_cell) := ⟨List.mem_append_right _ (List.mem_of_getElem? (i := 633) (by decide +kernel)), by decide +kernel⟩
theorem im_X7_copy : am_T (.instanceMethod yX7_copy) := ⟨List.mem_append_right _ (List.mem_of_getElem? (i := 638) (by decide +kernel)), by decide +kernel⟩
theorem im_X4_faultOfCopy : am_T (.instanceMethod yX4_faultOfCopy) := ⟨List.mem_append_right _ (List.mem_of_getElem? (i := 642) (by decide +kernel)), by decide +kernel⟩
theorem im_X7_tell : am_T (.instanceMethod yX7_tell) := ⟨List.mem_append_right _ (List.mem_of_getElem? (i := 647) (by decide +kernel)), by decide +kernel⟩
theorem im_X7_tellPlain : am_T (.instanceMethod yX7_tellPlain) := ⟨List.mem_append_right _ (List.mem_of_getElem? (i := 652) (by decide +kernel)), by decide +kernel⟩
theorem im_X7_leave : am_T (.instanceMethod yX7_leave) := ⟨List.mem_append_right _ (List.mem_of_getElem? (i := 656) (by decide +kernel)), by decide +kernel⟩
theorem im_X7_tellFar : am_T (.instanceMethod yX7_tellFar) := ⟨List.mem_append_right _ (List.mem_of_getElem? (i := 660) (by decide +kernel)), by decide +kernel⟩
theorem im_X7_tellMixed : am_T (.instanceMethod yX7_tellMixed) := ⟨List.mem_append_right _ (List.mem_of_getElem? (i := 664) (by decide +kernel)), by decide +kernel⟩
theorem im_X7_call : am_T (.instanceMethod yX7_call) := ⟨List.mem_append_right _ (List.mem_of_getElem? (i := 667) (by decide +kernel)), by decide +kernel⟩
theorem im_X7_as : am_T (.instanceMethod yX7_as) := ⟨List.mem_append_right _ (List.mem_of_getElem? (i := 671) (by decide +kernel)), by decide +kernel⟩
theorem im_X7_trace : am_T (.instanceMethod yX7_trace) := ⟨List.mem_append_right _ (List.mem_of_getElem? (i := 675) (by decide +kernel)), by decide +kernel⟩
theorem im_X7_fault : am_T (.instanceMethod yX7_fault) := ⟨List.mem_append_right _ (List.mem_of_getElem? (i := 679) (by decide +kernel)), by decide +kernel⟩
theorem im_X7_many : am_T (.instanceMethod yX7_many) := ⟨List.mem_append_right _ (List.mem_of_getElem? (i := 683) (by decide +kernel)), by decide +kernel⟩
theorem im_X8_init : am_T (.instanceMethod yX8_init) := ⟨List.mem_append_right _ (List.mem_of_getElem? (i := 689) (by decide +kernel)), by decide +kernel⟩
theorem im_X8_ring : am_T (.instanceMethod yX8_ring) := ⟨List.mem_append_right _ (List.mem_of_getElem? (i := 790) (by decide +kernel)), by decide +kernel⟩
theorem im_X8_refused : am_T (.instanceMethod yX8_refused) := ⟨List.mem_append_right _ (List.mem_of_getElem? (i := 802) (by decide +kernel)), by decide +kernel⟩
theorem im_X8_cellsBarred : am_T (.instanceMethod yX8_cellsBarred) := ⟨List.mem_append_right _ (List.mem_of_getElem? (i := 807) (by decide +kernel)), by decide +kernel⟩
theorem im_X8_failed : am_T (.instanceMethod yX8_failed) := ⟨List.mem_append_right _ (List.mem_of_getElem? (i := 811) (by decide +kernel)), by decide +kernel⟩
theorem im_X8_readsRing : am_T (.instanceMethod yX8_readsRing) := ⟨List.mem_append_right _ (List.mem_of_getElem? (i := 818) (by decide +kernel)), by decide +kernel⟩
theorem im_X8_codeAt : am_T (.instanceMethod yX8_codeAt) := ⟨List.mem_append_right _ (List.mem_of_getElem? (i := 822) (by decide +kernel)), by decide +kernel⟩
theorem im_X8_readsPlace : am_T (.instanceMethod yX8_readsPlace) := ⟨List.mem_append_right _ (List.mem_of_getElem? (i := 827) (by decide +kernel)), by decide +kernel⟩
theorem im_X8_ofPlace : am_T (.instanceMethod yX8_ofPlace) := ⟨List.mem_append_right _ (List.mem_of_getElem? (i := 830) (by decide +kernel)), by decide +kernel⟩
theorem im_X8_noPlace : am_T (.instanceMethod yX8_noPlace) := ⟨List.mem_append_right _ (List.mem_of_getElem? (i := 835) (by decide +kernel)), by decide +kernel⟩
theorem im_X8_takesNow : am_T (.instanceMethod yX8_takesNow) := ⟨List.mem_append_right _ (List.mem_of_getElem? (i := 839) (by decide +kernel)), by decide +kernel⟩
theorem im_X8_becomes : am_T (.instanceMethod yX8_becomes) := ⟨List.mem_append_right _ (List.mem_of_getElem? (i := 843) (by decide +kernel)), by decide +kernel⟩
theorem im_X8_write : am_T (.instanceMethod yX8_write) := ⟨List.mem_append_right _ (List.mem_of_getElem? (i := 849) (by decide +kernel)), by decide +kernel⟩
theorem im_X8_isNumber : am_T (.instanceMethod yX8_isNumber) := ⟨List.mem_append_right _ (List.mem_of_getElem? (i := 854) (by decide +kernel)), by decide +kernel⟩
theorem im_X8_steps : am_T (.instanceMethod yX8_steps) := ⟨List.mem_append_right _ (List.mem_of_getElem? (i := 857) (by decide +kernel)), by decide +kernel⟩
theorem im_X8_doesSteps : am_T (.instanceMethod yX8_doesSteps) := ⟨List.mem_append_right _ (List.mem_of_getElem? (i := 863) (by decide +kernel)), by decide +kernel⟩
theorem im_X8_stepsOnce : am_T (.instanceMethod yX8_stepsOnce) := ⟨List.mem_append_right _ (List.mem_of_getElem? (i := 867) (by decide +kernel)), by decide +kernel⟩
theorem im_X8_zeros : am_T (.instanceMethod yX8_zeros) := ⟨List.mem_append_right _ (List.mem_of_getElem? (i := 871) (by decide +kernel)), by decide +kernel⟩
theorem im_X8_after : am_T (.instanceMethod yX8_after) := ⟨List.mem_append_right _ (List.mem_of_getElem? (i := 874) (by decide +kernel)), by decide +kernel⟩
theorem im_X8_rowNow : am_T (.instanceMethod yX8_rowNow) := ⟨List.mem_append_right _ (List.mem_of_getElem? (i := 880) (by decide +kernel)), by decide +kernel⟩
theorem im_X8_rowAt : am_T (.instanceMethod yX8_rowAt) := ⟨List.mem_append_right _ (List.mem_of_getElem? (i := 884) (by decide +kernel)), by decide +kernel⟩
theorem im_X8_tables : am_T (.instanceMethod yX8_tables) := ⟨List.mem_append_right _ (List.mem_of_getElem? (i := 888) (by decide +kernel)), by decide +kernel⟩
theorem im_X8_allRows : am_T (.instanceMethod yX8_allRows) := ⟨List.mem_append_right _ (List.mem_of_getElem? (i := 892) (by decide +kernel)), by decide +kernel⟩
theorem im_X8_takesRow : am_T (.instanceMethod yX8_takesRow) := ⟨List.mem_append_right _ (List.mem_of_getElem? (i := 896) (by decide +kernel)), by decide +kernel⟩
theorem im_X8_takesAway : am_T (.instanceMethod yX8_takesAway) := ⟨List.mem_append_right _ (List.mem_of_getElem? (i := 900) (by decide +kernel)), by decide +kernel⟩
theorem im_X8_roundOf : am_T (.instanceMethod yX8_roundOf) := ⟨List.mem_append_right _ (List.mem_of_getElem? (i := 904) (by decide +kernel)), by decide +kernel⟩
theorem im_X8_behind : am_T (.instanceMethod yX8_behind) := ⟨List.mem_append_right _ (List.mem_of_getElem? (i := 908) (by decide +kernel)), by decide +kernel⟩
theorem im_X8_roundFrom : am_T (.instanceMethod yX8_roundFrom) := ⟨List.mem_append_right _ (List.mem_of_getElem? (i := 912) (by decide +kernel)), by decide +kernel⟩
theorem im_X8_day : am_T (.instanceMethod yX8_day) := ⟨List.mem_append_right _ (List.mem_of_getElem? (i := 915) (by decide +kernel)), by decide +kernel⟩
theorem im_X8_dayOf : am_T (.instanceMethod yX8_dayOf) := ⟨List.mem_append_right _ (List.mem_of_getElem? (i := 925) (by decide +kernel)), by decide +kernel⟩
theorem im_X8_doesPair : am_T (.instanceMethod yX8_doesPair) := ⟨List.mem_append_right _ (List.mem_of_getElem? (i := 929) (by decide +kernel)), by decide +kernel⟩
theorem im_X8_sumNow : am_T (.instanceMethod yX8_sumNow) := ⟨List.mem_append_right _ (List.mem_of_getElem? (i := 934) (by decide +kernel)), by decide +kernel⟩
theorem im_X8_tailNow : am_T (.instanceMethod yX8_tailNow) := ⟨List.mem_append_right _ (List.mem_of_getElem? (i := 938) (by decide +kernel)), by decide +kernel⟩
theorem im_X8_now : am_T (.instanceMethod yX8_now) := ⟨List.mem_append_right _ (List.mem_of_getElem? (i := 941) (by decide +kernel)), by decide +kernel⟩
theorem im_X8_from : am_T (.instanceMethod yX8_from) := ⟨List.mem_append_right _ (List.mem_of_getElem? (i := 945) (by decide +kernel)), by decide +kernel⟩
theorem im_X8_rows : am_T (.instanceMethod yX8_rows) := ⟨List.mem_append_right _ (List.mem_of_getElem? (i := 950) (by decide +kernel)), by decide +kernel⟩
theorem im_X8_rounds : am_T (.instanceMethod yX8_rounds) := ⟨List.mem_append_right _ (List.mem_of_getElem? (i := 955) (by decide +kernel)), by decide +kernel⟩
theorem im_X8_longest : am_T (.instanceMethod yX8_longest) := ⟨List.mem_append_right _ (List.mem_of_getElem? (i := 958) (by decide +kernel)), by decide +kernel⟩
theorem im_X8_meet : am_T (.instanceMethod yX8_meet) := ⟨List.mem_append_right _ (List.mem_of_getElem? (i := 962) (by decide +kernel)), by decide +kernel⟩
theorem im_X8_few : am_T (.instanceMethod yX8_few) := ⟨List.mem_append_right _ (List.mem_of_getElem? (i := 966) (by decide +kernel)), by decide +kernel⟩
theorem im_X8_unlikeNow : am_T (.instanceMethod yX8_unlikeNow) := ⟨List.mem_append_right _ (List.mem_of_getElem? (i := 971) (by decide +kernel)), by decide +kernel⟩
theorem im_X8_reading : am_T (.instanceMethod yX8_reading) := ⟨List.mem_append_right _ (List.mem_of_getElem? (i := 977) (by decide +kernel)), by decide +kernel⟩
theorem im_X8_back : am_T (.instanceMethod yX8_back) := ⟨List.mem_append_right _ (List.mem_of_getElem? (i := 981) (by decide +kernel)), by decide +kernel⟩
theorem im_X8_kinds : am_T (.instanceMethod yX8_kinds) := ⟨List.mem_append_right _ (List.mem_of_getElem? (i := 985) (by decide +kernel)), by decide +kernel⟩
theorem im_X8_areSo : am_T (.instanceMethod yX8_areSo) := ⟨List.mem_append_right _ (List.mem_of_getElem? (i := 990) (by decide +kernel)), by decide +kernel⟩
theorem im_X8_isSo : am_T (.instanceMethod yX8_isSo) := ⟨List.mem_append_right _ (List.mem_of_getElem? (i := 994) (by decide +kernel)), by decide +kernel⟩
theorem im_X8_firsts : am_T (.instanceMethod yX8_firsts) := ⟨List.mem_append_right _ (List.mem_of_getElem? (i := 997) (by decide +kernel)), by decide +kernel⟩
theorem im_X8_odds : am_T (.instanceMethod yX8_odds) := ⟨List.mem_append_right _ (List.mem_of_getElem? (i := 1001) (by decide +kernel)), by decide +kernel⟩
theorem im_X8_sheet : am_T (.instanceMethod yX8_sheet) := ⟨List.mem_append_right _ (List.mem_of_getElem? (i := 1012) (by decide +kernel)), by decide +kernel⟩
theorem im_X8_lose : am_T (.instanceMethod yX8_lose) := ⟨List.mem_append_right _ (List.mem_of_getElem? (i := 1016) (by decide +kernel)), by decide +kernel⟩
theorem im_X8_put : am_T (.instanceMethod yX8_put) := ⟨List.mem_append_right _ (List.mem_of_getElem? (i := 1020) (by decide +kernel)), by decide +kernel⟩
theorem im_X8_noCell : am_T (.instanceMethod yX8_noCell) := ⟨List.mem_append_right _ (List.mem_of_getElem? (i := 1025) (by decide +kernel)), by decide +kernel⟩
theorem im_X8_cell : am_T (.instanceMethod yX8_cell) := ⟨List.mem_append_right _ (List.mem_of_getElem? (i := 1028) (by decide +kernel)), by decide +kernel⟩
theorem im_X8_failedLong : am_T (.instanceMethod yX8_failedLong) := ⟨List.mem_append_right _ (List.mem_of_getElem? (i := 1033) (by decide +kernel)), by decide +kernel⟩
theorem im_X8_copy : am_T (.instanceMethod yX8_copy) := ⟨List.mem_append_right _ (List.mem_of_getElem? (i := 1036) (by decide +kernel)), by decide +kernel⟩
theorem im_X8_tell : am_T (.instanceMethod yX8_tell) := ⟨List.mem_append_right _ (List.mem_of_getElem? (i := 1040) (by decide +kernel)), by decide +kernel⟩
theorem im_X8_traced : am_T (.instanceMethod yX8_traced) := ⟨List.mem_append_right _ (List.mem_of_getElem? (i := 1045) (by decide +kernel)), by decide +kernel⟩
theorem im_X8_call : am_T (.instanceMethod yX8_call) := ⟨List.mem_append_right _ (List.mem_of_getElem? (i := 1048) (by decide +kernel)), by decide +kernel⟩
theorem im_X8_as : am_T (.instanceMethod yX8_as) := ⟨List.mem_append_right _ (List.mem_of_getElem? (i := 1052) (by decide +kernel)), by decide +kernel⟩
theorem im_X8_trace : am_T (.instanceMethod yX8_trace) := ⟨List.mem_append_right _ (List.mem_of_getElem? (i := 1056) (by decide +kernel)), by decide +kernel⟩
theorem im_X8_fault : am_T (.instanceMethod yX8_fault) := ⟨List.mem_append_right _ (List.mem_of_getElem? (i := 1060) (by decide +kernel)), by decide +kernel⟩
theorem im_X8_many : am_T (.instanceMethod yX8_many) := ⟨List.mem_append_right _ (List.mem_of_getElem? (i := 1064) (by decide +kernel)), by decide +kernel⟩
theorem sm_X7_isSheet : am_T (.static yX7_isSheet) := ⟨List.mem_append_right _ (List.mem_of_getElem? (i := 230) (by decide +kernel)), by decide +kernel⟩
theorem sm_X7_isLane : am_T (.static yX7_isLane) := ⟨List.mem_append_right _ (List.mem_of_getElem? (i := 233) (by decide +kernel)), by decide +kernel⟩
theorem sm_X6_firstFault : am_T (.static yX6_firstFault) := ⟨List.mem_append_right _ (List.mem_of_getElem? (i := 256) (by decide +kernel)), by decide +kernel⟩
theorem sm_X6_goesOn : am_T (.static yX6_goesOn) := ⟨List.mem_append_right _ (List.mem_of_getElem? (i := 263) (by decide +kernel)), by decide +kernel⟩
theorem sm_X6_kindOf : am_T (.static yX6_kindOf) := ⟨List.mem_append_right _ (List.mem_of_getElem? (i := 266) (by decide +kernel)), by decide +kernel⟩
theorem sm_X6_take : am_T (.static yX6_take) := ⟨List.mem_append_right _ (List.mem_of_getElem? (i := 269) (by decide +kernel)), by decide +kernel⟩
theorem sm_J9_min_7cf53 : am_T (.static yJ9_min_7cf53) := ⟨List.mem_append_right _ (List.mem_of_getElem? (i := 272) (by decide +kernel)), by decide +kernel⟩
theorem sm_J9_abs_0f7a4 : am_T (.static yJ9_abs_0f7a4) := ⟨List.mem_append_right _ (List.mem_of_getElem? (i := 299) (by decide +kernel)), by decide +kernel⟩
theorem sm_arraycopy : am_T (.static arraycopyName) := ⟨List.mem_append_right _ (List.mem_of_getElem? (i := 323) (by decide +kernel)), by decide +kernel⟩
theorem sm_J7_fill_53178 : am_T (.static yJ7_fill_53178) := ⟨List.mem_append_right _ (List.mem_of_getElem? (i := 352) (by decide +kernel)), by decide +kernel⟩
theorem sm_X7_isOfDay : am_T (.static yX7_isOfDay) := ⟨List.mem_append_right _ (List.mem_of_getElem? (i := 428) (by decide +kernel)), by decide +kernel⟩
theorem sm_X1_areActs : am_T (.static yX1_areActs) := ⟨List.mem_append_right _ (List.mem_of_getElem? (i := 431) (by decide +kernel)), by decide +kernel⟩
theorem sm_X1_isAct : am_T (.static yX1_isAct) := ⟨List.mem_append_right _ (List.mem_of_getElem? (i := 435) (by decide +kernel)), by decide +kernel⟩
theorem sm_J6_bitCount_0f7a4 : am_T (.static yJ6_bitCount_0f7a4) := ⟨List.mem_append_right _ (List.mem_of_getElem? (i := 525) (by decide +kernel)), by decide +kernel⟩
theorem sm_X7_isReadable : am_T (.static yX7_isReadable) := ⟨List.mem_append_right _ (List.mem_of_getElem? (i := 536) (by decide +kernel)), by decide +kernel⟩
theorem sm_J9_max_7cf53 : am_T (.static yJ9_max_7cf53) := ⟨List.mem_append_right _ (List.mem_of_getElem? (i := 559) (by decide +kernel)), by decide +kernel⟩
theorem sm_X7_commonDivisor : am_T (.static yX7_commonDivisor) := ⟨List.mem_append_right _ (List.mem_of_getElem? (i := 599) (by decide +kernel)), by decide +kernel⟩
theorem sm_X8_noSheet : am_T (.static yX8_noSheet) := ⟨List.mem_append_right _ (List.mem_of_getElem? (i := 794) (by decide +kernel)), by decide +kernel⟩
theorem sm_X8_in : am_T (.static yX8_in) := ⟨List.mem_append_right _ (List.mem_of_getElem? (i := 798) (by decide +kernel)), by decide +kernel⟩
theorem sm_X8_isBeyond : am_T (.static yX8_isBeyond) := ⟨List.mem_append_right _ (List.mem_of_getElem? (i := 814) (by decide +kernel)), by decide +kernel⟩
theorem sm_X8_apart : am_T (.static yX8_apart) := ⟨List.mem_append_right _ (List.mem_of_getElem? (i := 846) (by decide +kernel)), by decide +kernel⟩
theorem sm_X8_bits : am_T (.static yX8_bits) := ⟨List.mem_append_right _ (List.mem_of_getElem? (i := 974) (by decide +kernel)), by decide +kernel⟩
theorem sm_X8_lost : am_T (.static yX8_lost) := ⟨List.mem_append_right _ (List.mem_of_getElem? (i := 1005) (by decide +kernel)), by decide +kernel⟩
theorem sm_X8_share : am_T (.static yX8_share) := ⟨List.mem_append_right _ (List.mem_of_getElem? (i := 1009) (by decide +kernel)), by decide +kernel⟩
theorem nm_arraycopy : am_T (.native arraycopyName) := ⟨List.mem_append_right _ (List.mem_of_getElem? (i := 324) (by decide +kernel)), by decide +kernel⟩
theorem co_Object : am_T (.code objectInit ⟨#[0xb1]⟩ 1 none) := ⟨List.mem_append_right _ (List.mem_of_getElem? (i := 21) (by decide +kernel)), by decide +kernel⟩
theorem se_X7_ring : am_T (.selects RX7 yX7_ring yX7_ring) := ⟨List.mem_append_right _ (List.mem_of_getElem? (i := 227) (by decide +kernel)), by decide +kernel⟩
theorem se_X4_faultAs : am_T (.selects RX4 yX4_faultAs yX4_faultAs) := ⟨List.mem_append_right _ (List.mem_of_getElem? (i := 237) (by decide +kernel)), by decide +kernel⟩
theorem se_X4_hasNothing : am_T (.selects RX4 yX4_hasNothing yX4_hasNothing) := ⟨List.mem_append_right _ (List.mem_of_getElem? (i := 241) (by decide +kernel)), by decide +kernel⟩
theorem se_X4_faultOf : am_T (.selects RX4 yX4_faultOf yX4_faultOf) := ⟨List.mem_append_right _ (List.mem_of_getElem? (i := 245) (by decide +kernel)), by decide +kernel⟩
theorem se_X4_at : am_T (.selects RX4 yX4_at yX4_at) := ⟨List.mem_append_right _ (List.mem_of_getElem? (i := 260) (by decide +kernel)), by decide +kernel⟩
theorem se_X0_forget : am_T (.selects RX0 yX0_forget yX0_forget) := ⟨List.mem_append_right _ (List.mem_of_getElem? (i := 276) (by decide +kernel)), by decide +kernel⟩
theorem se_X5_forget : am_T (.selects RX5 yX5_forget yX5_forget) := ⟨List.mem_append_right _ (List.mem_of_getElem? (i := 280) (by decide +kernel)), by decide +kernel⟩
theorem se_X7_ofPlace : am_T (.selects RX7 yX7_ofPlace yX7_ofPlace) := ⟨List.mem_append_right _ (List.mem_of_getElem? (i := 284) (by decide +kernel)), by decide +kernel⟩
theorem se_X3_has : am_T (.selects RX3 yX3_has yX3_has) := ⟨List.mem_append_right _ (List.mem_of_getElem? (i := 288) (by decide +kernel)), by decide +kernel⟩
theorem se_X3_stepped : am_T (.selects RX3 yX3_stepped yX3_stepped) := ⟨List.mem_append_right _ (List.mem_of_getElem? (i := 292) (by decide +kernel)), by decide +kernel⟩
theorem se_X7_write : am_T (.selects RX7 yX7_write yX7_write) := ⟨List.mem_append_right _ (List.mem_of_getElem? (i := 303) (by decide +kernel)), by decide +kernel⟩
theorem se_X3_isNumber : am_T (.selects RX3 yX3_isNumber yX3_isNumber) := ⟨List.mem_append_right _ (List.mem_of_getElem? (i := 307) (by decide +kernel)), by decide +kernel⟩
theorem se_X7_steps : am_T (.selects RX7 yX7_steps yX7_steps) := ⟨List.mem_append_right _ (List.mem_of_getElem? (i := 311) (by decide +kernel)), by decide +kernel⟩
theorem se_X3_isNone : am_T (.selects RX3 yX3_isNone yX3_isNone) := ⟨List.mem_append_right _ (List.mem_of_getElem? (i := 315) (by decide +kernel)), by decide +kernel⟩
theorem se_X3_go : am_T (.selects RX3 yX3_go yX3_go) := ⟨List.mem_append_right _ (List.mem_of_getElem? (i := 319) (by decide +kernel)), by decide +kernel⟩
theorem se_X3_zeros : am_T (.selects RX3 yX3_zeros yX3_zeros) := ⟨List.mem_append_right _ (List.mem_of_getElem? (i := 327) (by decide +kernel)), by decide +kernel⟩
theorem se_X7_after : am_T (.selects RX7 yX7_after yX7_after) := ⟨List.mem_append_right _ (List.mem_of_getElem? (i := 331) (by decide +kernel)), by decide +kernel⟩
theorem se_X0_workOut : am_T (.selects RX0 yX0_workOut yX0_workOut) := ⟨List.mem_append_right _ (List.mem_of_getElem? (i := 336) (by decide +kernel)), by decide +kernel⟩
theorem se_X3_takeKinds : am_T (.selects RX3 yX3_takeKinds yX3_takeKinds) := ⟨List.mem_append_right _ (List.mem_of_getElem? (i := 341) (by decide +kernel)), by decide +kernel⟩
theorem se_X3_takeFirstRow : am_T (.selects RX3 yX3_takeFirstRow yX3_takeFirstRow) := ⟨List.mem_append_right _ (List.mem_of_getElem? (i := 356) (by decide +kernel)), by decide +kernel⟩
theorem se_X3_steppedCode : am_T (.selects RX3 yX3_steppedCode yX3_steppedCode) := ⟨List.mem_append_right _ (List.mem_of_getElem? (i := 361) (by decide +kernel)), by decide +kernel⟩
theorem se_X3_takeNextRow : am_T (.selects RX3 yX3_takeNextRow yX3_takeNextRow) := ⟨List.mem_append_right _ (List.mem_of_getElem? (i := 369) (by decide +kernel)), by decide +kernel⟩
theorem se_X0_nextOf : am_T (.selects RX0 yX0_nextOf yX0_nextOf) := ⟨List.mem_append_right _ (List.mem_of_getElem? (i := 381) (by decide +kernel)), by decide +kernel⟩
theorem se_X0_goesOut : am_T (.selects RX0 yX0_goesOut yX0_goesOut) := ⟨List.mem_append_right _ (List.mem_of_getElem? (i := 401) (by decide +kernel)), by decide +kernel⟩
theorem se_X3_code : am_T (.selects RX3 yX3_code yX3_code) := ⟨List.mem_append_right _ (List.mem_of_getElem? (i := 405) (by decide +kernel)), by decide +kernel⟩
theorem se_X0_behind : am_T (.selects RX0 yX0_behind yX0_behind) := ⟨List.mem_append_right _ (List.mem_of_getElem? (i := 409) (by decide +kernel)), by decide +kernel⟩
theorem se_X0_tailOf : am_T (.selects RX0 yX0_tailOf yX0_tailOf) := ⟨List.mem_append_right _ (List.mem_of_getElem? (i := 413) (by decide +kernel)), by decide +kernel⟩
theorem se_X0_roundOf : am_T (.selects RX0 yX0_roundOf yX0_roundOf) := ⟨List.mem_append_right _ (List.mem_of_getElem? (i := 417) (by decide +kernel)), by decide +kernel⟩
theorem se_X0_numberIn : am_T (.selects RX0 yX0_numberIn yX0_numberIn) := ⟨List.mem_append_right _ (List.mem_of_getElem? (i := 421) (by decide +kernel)), by decide +kernel⟩
theorem se_X7_day : am_T (.selects RX7 yX7_day yX7_day) := ⟨List.mem_append_right _ (List.mem_of_getElem? (i := 425) (by decide +kernel)), by decide +kernel⟩
theorem se_X3_takeAll : am_T (.selects RX3 yX3_takeAll yX3_takeAll) := ⟨List.mem_append_right _ (List.mem_of_getElem? (i := 439) (by decide +kernel)), by decide +kernel⟩
theorem se_X1_play : am_T (.selects RX1 yX1_play yX1_play) := ⟨List.mem_append_right _ (List.mem_of_getElem? (i := 444) (by decide +kernel)), by decide +kernel⟩
theorem se_X3_isOut : am_T (.selects RX3 yX3_isOut yX3_isOut) := ⟨List.mem_append_right _ (List.mem_of_getElem? (i := 455) (by decide +kernel)), by decide +kernel⟩
theorem se_X3_total : am_T (.selects RX3 yX3_total yX3_total) := ⟨List.mem_append_right _ (List.mem_of_getElem? (i := 464) (by decide +kernel)), by decide +kernel⟩
theorem se_X3_numberAt : am_T (.selects RX3 yX3_numberAt yX3_numberAt) := ⟨List.mem_append_right _ (List.mem_of_getElem? (i := 469) (by decide +kernel)), by decide +kernel⟩
theorem se_X7_now : am_T (.selects RX7 yX7_now yX7_now) := ⟨List.mem_append_right _ (List.mem_of_getElem? (i := 474) (by decide +kernel)), by decide +kernel⟩
theorem se_X7_from : am_T (.selects RX7 yX7_from yX7_from) := ⟨List.mem_append_right _ (List.mem_of_getElem? (i := 480) (by decide +kernel)), by decide +kernel⟩
theorem se_X0_comersOf : am_T (.selects RX0 yX0_comersOf yX0_comersOf) := ⟨List.mem_append_right _ (List.mem_of_getElem? (i := 484) (by decide +kernel)), by decide +kernel⟩
theorem se_X0_firstComerOf : am_T (.selects RX0 yX0_firstComerOf yX0_firstComerOf) := ⟨List.mem_append_right _ (List.mem_of_getElem? (i := 488) (by decide +kernel)), by decide +kernel⟩
theorem se_X7_rows : am_T (.selects RX7 yX7_rows yX7_rows) := ⟨List.mem_append_right _ (List.mem_of_getElem? (i := 492) (by decide +kernel)), by decide +kernel⟩
theorem se_X7_longest : am_T (.selects RX7 yX7_longest yX7_longest) := ⟨List.mem_append_right _ (List.mem_of_getElem? (i := 496) (by decide +kernel)), by decide +kernel⟩
theorem se_X7_meet : am_T (.selects RX7 yX7_meet yX7_meet) := ⟨List.mem_append_right _ (List.mem_of_getElem? (i := 500) (by decide +kernel)), by decide +kernel⟩
theorem se_X3_takeRow : am_T (.selects RX3 yX3_takeRow yX3_takeRow) := ⟨List.mem_append_right _ (List.mem_of_getElem? (i := 504) (by decide +kernel)), by decide +kernel⟩
theorem se_X0_meeting : am_T (.selects RX0 yX0_meeting yX0_meeting) := ⟨List.mem_append_right _ (List.mem_of_getElem? (i := 510) (by decide +kernel)), by decide +kernel⟩
theorem se_X7_few : am_T (.selects RX7 yX7_few yX7_few) := ⟨List.mem_append_right _ (List.mem_of_getElem? (i := 514) (by decide +kernel)), by decide +kernel⟩
theorem se_X0_leastSetToGoOut : am_T (.selects RX0 yX0_leastSetToGoOut yX0_leastSetToGoOut) := ⟨List.mem_append_right _ (List.mem_of_getElem? (i := 518) (by decide +kernel)), by decide +kernel⟩
theorem se_X7_reading : am_T (.selects RX7 yX7_reading yX7_reading) := ⟨List.mem_append_right _ (List.mem_of_getElem? (i := 533) (by decide +kernel)), by decide +kernel⟩
theorem se_X2_keep : am_T (.selects RX2 yX2_keep yX2_keep) := ⟨List.mem_append_right _ (List.mem_of_getElem? (i := 540) (by decide +kernel)), by decide +kernel⟩
theorem se_X7_back : am_T (.selects RX7 yX7_back yX7_back) := ⟨List.mem_append_right _ (List.mem_of_getElem? (i := 544) (by decide +kernel)), by decide +kernel⟩
theorem se_X7_kinds : am_T (.selects RX7 yX7_kinds yX7_kinds) := ⟨List.mem_append_right _ (List.mem_of_getElem? (i := 548) (by decide +kernel)), by decide +kernel⟩
theorem se_X2_areSo : am_T (.selects RX2 yX2_areSo yX2_areSo) := ⟨List.mem_append_right _ (List.mem_of_getElem? (i := 552) (by decide +kernel)), by decide +kernel⟩
theorem se_X7_firsts : am_T (.selects RX7 yX7_firsts yX7_firsts) := ⟨List.mem_append_right _ (List.mem_of_getElem? (i := 569) (by decide +kernel)), by decide +kernel⟩
theorem se_X7_odds : am_T (.selects RX7 yX7_odds yX7_odds) := ⟨List.mem_append_right _ (List.mem_of_getElem? (i := 573) (by decide +kernel)), by decide +kernel⟩
theorem se_X5_goTo : am_T (.selects RX5 yX5_goTo yX5_goTo) := ⟨List.mem_append_right _ (List.mem_of_getElem? (i := 578) (by decide +kernel)), by decide +kernel⟩
theorem se_X5_howMany : am_T (.selects RX5 yX5_howMany yX5_howMany) := ⟨List.mem_append_right _ (List.mem_of_getElem? (i := 595) (by decide +kernel)), by decide +kernel⟩
theorem se_X7_sheet : am_T (.selects RX7 yX7_sheet yX7_sheet) := ⟨List.mem_append_right _ (List.mem_of_getElem? (i := 603) (by decide +kernel)), by decide +kernel⟩
theorem se_X4_renew : am_T (.selects RX4 yX4_renew yX4_renew) := ⟨List.mem_append_right _ (List.mem_of_getElem? (i := 607) (by decide +kernel)), by decide +kernel⟩
theorem se_X7_lose : am_T (.selects RX7 yX7_lose yX7_lose) := ⟨List.mem_append_right _ (List.mem_of_getElem? (i := 612) (by decide +kernel)), by decide +kernel⟩
theorem se_X4_drop : am_T (.selects RX4 yX4_drop yX4_drop) := ⟨List.mem_append_right _ (List.mem_of_getElem? (i := 617) (by decide +kernel)), by decide +kernel⟩
theorem se_X7_put : am_T (.selects RX7 yX7_put yX7_put) := ⟨List.mem_append_right _ (List.mem_of_getElem? (i := 621) (by decide +kernel)), by decide +kernel⟩
theorem se_X4_change : am_T (.selects RX4 yX4_change yX4_change) := ⟨List.mem_append_right _ (List.mem_of_getElem? (i := 626) (by decide +kernel)), by decide +kernel⟩
theorem se_X7_cell : am_T (.selects RX7 yX7_cell yX7_cell) := ⟨List.mem_append_right _ (List.mem_of_getElem? (i := 634) (by decide +kernel)), by decide +kernel⟩
theorem se_X7_copy : am_T (.selects RX7 yX7_copy yX7_copy) := ⟨List.mem_append_right _ (List.mem_of_getElem? (i := 639) (by decide +kernel)), by decide +kernel⟩
theorem se_X4_faultOfCopy : am_T (.selects RX4 yX4_faultOfCopy yX4_faultOfCopy) := ⟨List.mem_append_right _ (List.mem_of_getElem? (i := 643) (by decide +kernel)), by decide +kernel⟩
theorem se_X7_tell : am_T (.selects RX7 yX7_tell yX7_tell) := ⟨List.mem_append_right _ (List.mem_of_getElem? (i := 648) (by decide +kernel)), by decide +kernel⟩
theorem se_X7_call : am_T (.selects RX7 yX7_call yX7_call) := ⟨List.mem_append_right _ (List.mem_of_getElem? (i := 668) (by decide +kernel)), by decide +kernel⟩
theorem se_X7_as : am_T (.selects RX7 yX7_as yX7_as) := ⟨List.mem_append_right _ (List.mem_of_getElem? (i := 672) (by decide +kernel)), by decide +kernel⟩
theorem se_X7_trace : am_T (.selects RX7 yX7_trace yX7_trace) := ⟨List.mem_append_right _ (List.mem_of_getElem? (i := 676) (by decide +kernel)), by decide +kernel⟩
theorem se_X7_fault : am_T (.selects RX7 yX7_fault yX7_fault) := ⟨List.mem_append_right _ (List.mem_of_getElem? (i := 680) (by decide +kernel)), by decide +kernel⟩
theorem se_X7_many : am_T (.selects RX7 yX7_many yX7_many) := ⟨List.mem_append_right _ (List.mem_of_getElem? (i := 684) (by decide +kernel)), by decide +kernel⟩
theorem se_X8_ring : am_T (.selects RX8 yX8_ring yX8_ring) := ⟨List.mem_append_right _ (List.mem_of_getElem? (i := 791) (by decide +kernel)), by decide +kernel⟩
theorem se_X8_ofPlace : am_T (.selects RX8 yX8_ofPlace yX8_ofPlace) := ⟨List.mem_append_right _ (List.mem_of_getElem? (i := 831) (by decide +kernel)), by decide +kernel⟩
theorem se_X8_write : am_T (.selects RX8 yX8_write yX8_write) := ⟨List.mem_append_right _ (List.mem_of_getElem? (i := 850) (by decide +kernel)), by decide +kernel⟩
theorem se_X8_steps : am_T (.selects RX8 yX8_steps yX8_steps) := ⟨List.mem_append_right _ (List.mem_of_getElem? (i := 858) (by decide +kernel)), by decide +kernel⟩
theorem se_X8_after : am_T (.selects RX8 yX8_after yX8_after) := ⟨List.mem_append_right _ (List.mem_of_getElem? (i := 875) (by decide +kernel)), by decide +kernel⟩
theorem se_X8_day : am_T (.selects RX8 yX8_day yX8_day) := ⟨List.mem_append_right _ (List.mem_of_getElem? (i := 916) (by decide +kernel)), by decide +kernel⟩
theorem se_X8_now : am_T (.selects RX8 yX8_now yX8_now) := ⟨List.mem_append_right _ (List.mem_of_getElem? (i := 942) (by decide +kernel)), by decide +kernel⟩
theorem se_X8_from : am_T (.selects RX8 yX8_from yX8_from) := ⟨List.mem_append_right _ (List.mem_of_getElem? (i := 946) (by decide +kernel)), by decide +kernel⟩
theorem se_X8_rows : am_T (.selects RX8 yX8_rows yX8_rows) := ⟨List.mem_append_right _ (List.mem_of_getElem? (i := 951) (by decide +kernel)), by decide +kernel⟩
theorem se_X8_longest : am_T (.selects RX8 yX8_longest yX8_longest) := ⟨List.mem_append_right _ (List.mem_of_getElem? (i := 959) (by decide +kernel)), by decide +kernel⟩
theorem se_X8_meet : am_T (.selects RX8 yX8_meet yX8_meet) := ⟨List.mem_append_right _ (List.mem_of_getElem? (i := 963) (by decide +kernel)), by decide +kernel⟩
theorem se_X8_few : am_T (.selects RX8 yX8_few yX8_few) := ⟨List.mem_append_right _ (List.mem_of_getElem? (i := 967) (by decide +kernel)), by decide +kernel⟩
theorem se_X8_reading : am_T (.selects RX8 yX8_reading yX8_reading) := ⟨List.mem_append_right _ (List.mem_of_getElem? (i := 978) (by decide +kernel)), by decide +kernel⟩
theorem se_X8_back : am_T (.selects RX8 yX8_back yX8_back) := ⟨List.mem_append_right _ (List.mem_of_getElem? (i := 982) (by decide +kernel)), by decide +kernel⟩
theorem se_X8_kinds : am_T (.selects RX8 yX8_kinds yX8_kinds) := ⟨List.mem_append_right _ (List.mem_of_getElem? (i := 986) (by decide +kernel)), by decide +kernel⟩
theorem se_X8_firsts : am_T (.selects RX8 yX8_firsts yX8_firsts) := ⟨List.mem_append_right _ (List.mem_of_getElem? (i := 998) (by decide +kernel)), by decide +kernel⟩
theorem se_X8_odds : am_T (.selects RX8 yX8_odds yX8_odds) := ⟨List.mem_append_right _ (List.mem_of_getElem? (i := 1002) (by decide +kernel)), by decide +kernel⟩
theorem se_X8_sheet : am_T (.selects RX8 yX8_sheet yX8_sheet) := ⟨List.mem_append_right _ (List.mem_of_getElem? (i := 1013) (by decide +kernel)), by decide +kernel⟩
theorem se_X8_lose : am_T (.selects RX8 yX8_lose yX8_lose) := ⟨List.mem_append_right _ (List.mem_of_getElem? (i := 1017) (by decide +kernel)), by decide +kernel⟩
theorem se_X8_put : am_T (.selects RX8 yX8_put yX8_put) := ⟨List.mem_append_right _ (List.mem_of_getElem? (i := 1021) (by decide +kernel)), by decide +kernel⟩
theorem se_X8_cell : am_T (.selects RX8 yX8_cell yX8_cell) := ⟨List.mem_append_right _ (List.mem_of_getElem? (i := 1029) (by decide +kernel)), by decide +kernel⟩
theorem se_X8_copy : am_T (.selects RX8 yX8_copy yX8_copy) := ⟨List.mem_append_right _ (List.mem_of_getElem? (i := 1037) (by decide +kernel)), by decide +kernel⟩
theorem se_X8_tell : am_T (.selects RX8 yX8_tell yX8_tell) := ⟨List.mem_append_right _ (List.mem_of_getElem? (i := 1041) (by decide +kernel)), by decide +kernel⟩
theorem se_X8_call : am_T (.selects RX8 yX8_call yX8_call) := ⟨List.mem_append_right _ (List.mem_of_getElem? (i := 1049) (by decide +kernel)), by decide +kernel⟩
theorem se_X8_as : am_T (.selects RX8 yX8_as yX8_as) := ⟨List.mem_append_right _ (List.mem_of_getElem? (i := 1053) (by decide +kernel)), by decide +kernel⟩
theorem se_X8_trace : am_T (.selects RX8 yX8_trace yX8_trace) := ⟨List.mem_append_right _ (List.mem_of_getElem? (i := 1057) (by decide +kernel)), by decide +kernel⟩
theorem se_X8_fault : am_T (.selects RX8 yX8_fault yX8_fault) := ⟨List.mem_append_right _ (List.mem_of_getElem? (i := 1061) (by decide +kernel)), by decide +kernel⟩
theorem se_X8_many : am_T (.selects RX8 yX8_many yX8_many) := ⟨List.mem_append_right _ (List.mem_of_getElem? (i := 1065) (by decide +kernel)), by decide +kernel⟩
theorem se_X4_spans : am_T (.selects RX4 yX4_spans yX4_spans) := ⟨List.mem_append_left _ (List.mem_of_getElem? (i := 0) (by decide +kernel)), by decide +kernel⟩
theorem se_X7_answerOfFault : am_T (.selects RX7 yX7_answerOfFault yX7_answerOfFault) := ⟨List.mem_append_left _ (List.mem_of_getElem? (i := 1) (by decide +kernel)), by decide +kernel⟩
theorem se_X3_howFar : am_T (.selects RX3 yX3_howFar yX3_howFar) := ⟨List.mem_append_left _ (List.mem_of_getElem? (i := 2) (by decide +kernel)), by decide +kernel⟩
theorem se_X0_makeRoom : am_T (.selects RX0 yX0_makeRoom yX0_makeRoom) := ⟨List.mem_append_left _ (List.mem_of_getElem? (i := 3) (by decide +kernel)), by decide +kernel⟩
theorem se_X0_findNext : am_T (.selects RX0 yX0_findNext yX0_findNext) := ⟨List.mem_append_left _ (List.mem_of_getElem? (i := 4) (by decide +kernel)), by decide +kernel⟩
theorem se_X0_isRow : am_T (.selects RX0 yX0_isRow yX0_isRow) := ⟨List.mem_append_left _ (List.mem_of_getElem? (i := 5) (by decide +kernel)), by decide +kernel⟩
theorem se_X0_orderThoseThatDoNotComeBack : am_T (.selects RX0 yX0_orderThoseThatDoNotComeBack yX0_orderThoseThatDoNotComeBack) := ⟨List.mem_append_left _ (List.mem_of_getElem? (i := 6) (by decide +kernel)), by decide +kernel⟩
theorem se_X0_takeAway : am_T (.selects RX0 yX0_takeAway yX0_takeAway) := ⟨List.mem_append_left _ (List.mem_of_getElem? (i := 7) (by decide +kernel)), by decide +kernel⟩
theorem se_X0_findRounds : am_T (.selects RX0 yX0_findRounds yX0_findRounds) := ⟨List.mem_append_left _ (List.mem_of_getElem? (i := 8) (by decide +kernel)), by decide +kernel⟩
theorem se_X0_markRound : am_T (.selects RX0 yX0_markRound yX0_markRound) := ⟨List.mem_append_left _ (List.mem_of_getElem? (i := 9) (by decide +kernel)), by decide +kernel⟩
theorem se_X0_findTails : am_T (.selects RX0 yX0_findTails yX0_findTails) := ⟨List.mem_append_left _ (List.mem_of_getElem? (i := 10) (by decide +kernel)), by decide +kernel⟩
theorem se_X0_sumUp : am_T (.selects RX0 yX0_sumUp yX0_sumUp) := ⟨List.mem_append_left _ (List.mem_of_getElem? (i := 11) (by decide +kernel)), by decide +kernel⟩
theorem se_X1_canDo : am_T (.selects RX1 yX1_canDo yX1_canDo) := ⟨List.mem_append_left _ (List.mem_of_getElem? (i := 12) (by decide +kernel)), by decide +kernel⟩
theorem se_X7_ofDay : am_T (.selects RX7 yX7_ofDay yX7_ofDay) := ⟨List.mem_append_left _ (List.mem_of_getElem? (i := 13) (by decide +kernel)), by decide +kernel⟩
theorem se_X0_unlikePlaces : am_T (.selects RX0 yX0_unlikePlaces yX0_unlikePlaces) := ⟨List.mem_append_left _ (List.mem_of_getElem? (i := 14) (by decide +kernel)), by decide +kernel⟩
theorem se_X2_lastTime : am_T (.selects RX2 yX2_lastTime yX2_lastTime) := ⟨List.mem_append_left _ (List.mem_of_getElem? (i := 15) (by decide +kernel)), by decide +kernel⟩
theorem se_X2_areSoAt : am_T (.selects RX2 yX2_areSoAt yX2_areSoAt) := ⟨List.mem_append_left _ (List.mem_of_getElem? (i := 16) (by decide +kernel)), by decide +kernel⟩
theorem se_X5_begin : am_T (.selects RX5 yX5_begin yX5_begin) := ⟨List.mem_append_left _ (List.mem_of_getElem? (i := 17) (by decide +kernel)), by decide +kernel⟩
theorem se_X5_stepAll : am_T (.selects RX5 yX5_stepAll yX5_stepAll) := ⟨List.mem_append_left _ (List.mem_of_getElem? (i := 18) (by decide +kernel)), by decide +kernel⟩
theorem se_X5_whereKept : am_T (.selects RX5 yX5_whereKept yX5_whereKept) := ⟨List.mem_append_left _ (List.mem_of_getElem? (i := 19) (by decide +kernel)), by decide +kernel⟩
theorem se_X4_cut : am_T (.selects RX4 yX4_cut yX4_cut) := ⟨List.mem_append_left _ (List.mem_of_getElem? (i := 20) (by decide +kernel)), by decide +kernel⟩
theorem se_X7_tellPlain : am_T (.selects RX7 yX7_tellPlain yX7_tellPlain) := ⟨List.mem_append_left _ (List.mem_of_getElem? (i := 21) (by decide +kernel)), by decide +kernel⟩
theorem se_X7_leave : am_T (.selects RX7 yX7_leave yX7_leave) := ⟨List.mem_append_left _ (List.mem_of_getElem? (i := 22) (by decide +kernel)), by decide +kernel⟩
theorem se_X7_tellFar : am_T (.selects RX7 yX7_tellFar yX7_tellFar) := ⟨List.mem_append_left _ (List.mem_of_getElem? (i := 23) (by decide +kernel)), by decide +kernel⟩
theorem se_X7_tellMixed : am_T (.selects RX7 yX7_tellMixed yX7_tellMixed) := ⟨List.mem_append_left _ (List.mem_of_getElem? (i := 24) (by decide +kernel)), by decide +kernel⟩
theorem se_X8_refused : am_T (.selects RX8 yX8_refused yX8_refused) := ⟨List.mem_append_left _ (List.mem_of_getElem? (i := 25) (by decide +kernel)), by decide +kernel⟩
theorem se_X8_cellsBarred : am_T (.selects RX8 yX8_cellsBarred yX8_cellsBarred) := ⟨List.mem_append_left _ (List.mem_of_getElem? (i := 26) (by decide +kernel)), by decide +kernel⟩
theorem se_X8_failed : am_T (.selects RX8 yX8_failed yX8_failed) := ⟨List.mem_append_left _ (List.mem_of_getElem? (i := 27) (by decide +kernel)), by decide +kernel⟩
theorem se_X8_readsRing : am_T (.selects RX8 yX8_readsRing yX8_readsRing) := ⟨List.mem_append_left _ (List.mem_of_getElem? (i := 28) (by decide +kernel)), by decide +kernel⟩
theorem se_X8_codeAt : am_T (.selects RX8 yX8_codeAt yX8_codeAt) := ⟨List.mem_append_left _ (List.mem_of_getElem? (i := 29) (by decide +kernel)), by decide +kernel⟩
theorem se_X8_readsPlace : am_T (.selects RX8 yX8_readsPlace yX8_readsPlace) := ⟨List.mem_append_left _ (List.mem_of_getElem? (i := 30) (by decide +kernel)), by decide +kernel⟩
theorem se_X8_noPlace : am_T (.selects RX8 yX8_noPlace yX8_noPlace) := ⟨List.mem_append_left _ (List.mem_of_getElem? (i := 31) (by decide +kernel)), by decide +kernel⟩
theorem se_X8_takesNow : am_T (.selects RX8 yX8_takesNow yX8_takesNow) := ⟨List.mem_append_left _ (List.mem_of_getElem? (i := 32) (by decide +kernel)), by decide +kernel⟩
theorem se_X8_becomes : am_T (.selects RX8 yX8_becomes yX8_becomes) := ⟨List.mem_append_left _ (List.mem_of_getElem? (i := 33) (by decide +kernel)), by decide +kernel⟩
theorem se_X8_isNumber : am_T (.selects RX8 yX8_isNumber yX8_isNumber) := ⟨List.mem_append_left _ (List.mem_of_getElem? (i := 34) (by decide +kernel)), by decide +kernel⟩
theorem se_X8_doesSteps : am_T (.selects RX8 yX8_doesSteps yX8_doesSteps) := ⟨List.mem_append_left _ (List.mem_of_getElem? (i := 35) (by decide +kernel)), by decide +kernel⟩
theorem se_X8_stepsOnce : am_T (.selects RX8 yX8_stepsOnce yX8_stepsOnce) := ⟨List.mem_append_left _ (List.mem_of_getElem? (i := 36) (by decide +kernel)), by decide +kernel⟩
theorem se_X8_zeros : am_T (.selects RX8 yX8_zeros yX8_zeros) := ⟨List.mem_append_left _ (List.mem_of_getElem? (i := 37) (by decide +kernel)), by decide +kernel⟩
theorem se_X8_rowNow : am_T (.selects RX8 yX8_rowNow yX8_rowNow) := ⟨List.mem_append_left _ (List.mem_of_getElem? (i := 38) (by decide +kernel)), by decide +kernel⟩
theorem se_X8_rowAt : am_T (.selects RX8 yX8_rowAt yX8_rowAt) := ⟨List.mem_append_left _ (List.mem_of_getElem? (i := 39) (by decide +kernel)), by decide +kernel⟩
theorem se_X8_tables : am_T (.selects RX8 yX8_tables yX8_tables) := ⟨List.mem_append_left _ (List.mem_of_getElem? (i := 40) (by decide +kernel)), by decide +kernel⟩
theorem se_X8_allRows : am_T (.selects RX8 yX8_allRows yX8_allRows) := ⟨List.mem_append_left _ (List.mem_of_getElem? (i := 41) (by decide +kernel)), by decide +kernel⟩
theorem se_X8_takesRow : am_T (.selects RX8 yX8_takesRow yX8_takesRow) := ⟨List.mem_append_left _ (List.mem_of_getElem? (i := 42) (by decide +kernel)), by decide +kernel⟩
theorem se_X8_takesAway : am_T (.selects RX8 yX8_takesAway yX8_takesAway) := ⟨List.mem_append_left _ (List.mem_of_getElem? (i := 43) (by decide +kernel)), by decide +kernel⟩
theorem se_X8_roundOf : am_T (.selects RX8 yX8_roundOf yX8_roundOf) := ⟨List.mem_append_left _ (List.mem_of_getElem? (i := 44) (by decide +kernel)), by decide +kernel⟩
theorem se_X8_behind : am_T (.selects RX8 yX8_behind yX8_behind) := ⟨List.mem_append_left _ (List.mem_of_getElem? (i := 45) (by decide +kernel)), by decide +kernel⟩
theorem se_X8_roundFrom : am_T (.selects RX8 yX8_roundFrom yX8_roundFrom) := ⟨List.mem_append_left _ (List.mem_of_getElem? (i := 46) (by decide +kernel)), by decide +kernel⟩
theorem se_X8_dayOf : am_T (.selects RX8 yX8_dayOf yX8_dayOf) := ⟨List.mem_append_left _ (List.mem_of_getElem? (i := 47) (by decide +kernel)), by decide +kernel⟩
theorem se_X8_doesPair : am_T (.selects RX8 yX8_doesPair yX8_doesPair) := ⟨List.mem_append_left _ (List.mem_of_getElem? (i := 48) (by decide +kernel)), by decide +kernel⟩
theorem se_X8_sumNow : am_T (.selects RX8 yX8_sumNow yX8_sumNow) := ⟨List.mem_append_left _ (List.mem_of_getElem? (i := 49) (by decide +kernel)), by decide +kernel⟩
theorem se_X8_tailNow : am_T (.selects RX8 yX8_tailNow yX8_tailNow) := ⟨List.mem_append_left _ (List.mem_of_getElem? (i := 50) (by decide +kernel)), by decide +kernel⟩
theorem se_X8_rounds : am_T (.selects RX8 yX8_rounds yX8_rounds) := ⟨List.mem_append_left _ (List.mem_of_getElem? (i := 51) (by decide +kernel)), by decide +kernel⟩
theorem se_X8_unlikeNow : am_T (.selects RX8 yX8_unlikeNow yX8_unlikeNow) := ⟨List.mem_append_left _ (List.mem_of_getElem? (i := 52) (by decide +kernel)), by decide +kernel⟩
theorem se_X8_areSo : am_T (.selects RX8 yX8_areSo yX8_areSo) := ⟨List.mem_append_left _ (List.mem_of_getElem? (i := 53) (by decide +kernel)), by decide +kernel⟩
theorem se_X8_isSo : am_T (.selects RX8 yX8_isSo yX8_isSo) := ⟨List.mem_append_left _ (List.mem_of_getElem? (i := 54) (by decide +kernel)), by decide +kernel⟩
theorem se_X8_noCell : am_T (.selects RX8 yX8_noCell yX8_noCell) := ⟨List.mem_append_left _ (List.mem_of_getElem? (i := 55) (by decide +kernel)), by decide +kernel⟩
theorem se_X8_failedLong : am_T (.selects RX8 yX8_failedLong yX8_failedLong) := ⟨List.mem_append_left _ (List.mem_of_getElem? (i := 56) (by decide +kernel)), by decide +kernel⟩
theorem se_X8_traced : am_T (.selects RX8 yX8_traced yX8_traced) := ⟨List.mem_append_left _ (List.mem_of_getElem? (i := 57) (by decide +kernel)), by decide +kernel⟩
theorem co_X0_init : am_T (.code yX0_init cX0_init 1 none) := ⟨List.mem_append_right _ (List.mem_of_getElem? (i := 78) (by decide +kernel)), by decide +kernel⟩
theorem ok_X0_init : am_ok mX0_init 0 := ⟨co_X0_init, in_X0, ⟨by decide +kernel, by decide +kernel⟩, by decide +kernel, by decide, by decide +kernel⟩
theorem co_X0_forget : am_T (.code yX0_forget cX0_forget 1 none) := ⟨List.mem_append_right _ (List.mem_of_getElem? (i := 277) (by decide +kernel)), by decide +kernel⟩
theorem ok_X0_forget : am_ok mX0_forget 0 := ⟨co_X0_forget, in_X0, ⟨by decide +kernel, by decide +kernel⟩, by decide +kernel, by decide, by decide +kernel⟩
theorem co_X0_workOut : am_T (.code yX0_workOut cX0_workOut 3 none) := ⟨List.mem_append_right _ (List.mem_of_getElem? (i := 337) (by decide +kernel)), by decide +kernel⟩
theorem ok_X0_workOut : am_ok mX0_workOut 1 := ⟨co_X0_workOut, in_X0, ⟨by decide +kernel, by decide +kernel⟩, by decide +kernel, by decide, by decide +kernel⟩
theorem co_X0_makeRoom : am_T (.code yX0_makeRoom cX0_makeRoom 1 none) := ⟨List.mem_append_right _ (List.mem_of_getElem? (i := 346) (by decide +kernel)), by decide +kernel⟩
theorem ok_X0_makeRoom : am_ok mX0_makeRoom 0 := ⟨co_X0_makeRoom, in_X0, ⟨by decide +kernel, by decide +kernel⟩, by decide +kernel, by decide, by decide +kernel⟩
theorem co_X0_findNext : am_T (.code yX0_findNext cX0_findNext 3 none) := ⟨List.mem_append_right _ (List.mem_of_getElem? (i := 350) (by decide +kernel)), by decide +kernel⟩
theorem ok_X0_findNext : am_ok mX0_findNext 0 := ⟨co_X0_findNext, in_X0, ⟨by decide +kernel, by decide +kernel⟩, by decide +kernel, by decide, by decide +kernel⟩
theorem co_X0_orderThoseThatDoNotComeBack : am_T (.code yX0_orderThoseThatDoNotComeBack cX0_orderThoseThatDoNotComeBack 3 none) := ⟨List.mem_append_right _ (List.mem_of_getElem? (i := 374) (by decide +kernel)), by decide +kernel⟩
theorem ok_X0_orderThoseThatDoNotComeBack : am_ok mX0_orderThoseThatDoNotComeBack 0 := ⟨co_X0_orderThoseThatDoNotComeBack, in_X0, ⟨by decide +kernel, by decide +kernel⟩, by decide +kernel, by decide, by decide +kernel⟩
theorem co_X0_takeAway : am_T (.code yX0_takeAway cX0_takeAway 2 none) := ⟨List.mem_append_right _ (List.mem_of_getElem? (i := 378) (by decide +kernel)), by decide +kernel⟩
theorem ok_X0_takeAway : am_ok mX0_takeAway 1 := ⟨co_X0_takeAway, in_X0, ⟨by decide +kernel, by decide +kernel⟩, by decide +kernel, by decide, by decide +kernel⟩
theorem co_X0_findRounds : am_T (.code yX0_findRounds cX0_findRounds 2 none) := ⟨List.mem_append_right _ (List.mem_of_getElem? (i := 386) (by decide +kernel)), by decide +kernel⟩
theorem ok_X0_findRounds : am_ok mX0_findRounds 0 := ⟨co_X0_findRounds, in_X0, ⟨by decide +kernel, by decide +kernel⟩, by decide +kernel, by decide, by decide +kernel⟩
theorem co_X0_markRound : am_T (.code yX0_markRound cX0_markRound 4 none) := ⟨List.mem_append_right _ (List.mem_of_getElem? (i := 390) (by decide +kernel)), by decide +kernel⟩
theorem ok_X0_markRound : am_ok mX0_markRound 1 := ⟨co_X0_markRound, in_X0, ⟨by decide +kernel, by decide +kernel⟩, by decide +kernel, by decide, by decide +kernel⟩
theorem co_X0_findTails : am_T (.code yX0_findTails cX0_findTails 4 none) := ⟨List.mem_append_right _ (List.mem_of_getElem? (i := 394) (by decide +kernel)), by decide +kernel⟩
theorem ok_X0_findTails : am_ok mX0_findTails 0 := ⟨co_X0_findTails, in_X0, ⟨by decide +kernel, by decide +kernel⟩, by decide +kernel, by decide, by decide +kernel⟩
theorem co_X0_sumUp : am_T (.code yX0_sumUp cX0_sumUp 2 none) := ⟨List.mem_append_right _ (List.mem_of_getElem? (i := 398) (by decide +kernel)), by decide +kernel⟩
theorem ok_X0_sumUp : am_ok mX0_sumUp 0 := ⟨co_X0_sumUp, in_X0, ⟨by decide +kernel, by decide +kernel⟩, by decide +kernel, by decide, by decide +kernel⟩
theorem co_X0_isRow : am_T (.code yX0_isRow cX0_isRow 2 (some .boolean)) := ⟨List.mem_append_right _ (List.mem_of_getElem? (i := 366) (by decide +kernel)), by decide +kernel⟩
theorem ok_X0_isRow : am_ok mX0_isRow 1 := ⟨co_X0_isRow, in_X0, ⟨by decide +kernel, by decide +kernel⟩, by decide +kernel, by decide, by decide +kernel⟩
theorem co_X0_nextOf : am_T (.code yX0_nextOf cX0_nextOf 2 (some .int)) := ⟨List.mem_append_right _ (List.mem_of_getElem? (i := 382) (by decide +kernel)), by decide +kernel⟩
theorem ok_X0_nextOf : am_ok mX0_nextOf 1 := ⟨co_X0_nextOf, in_X0, ⟨by decide +kernel, by decide +kernel⟩, by decide +kernel, by decide, by decide +kernel⟩
theorem co_X0_tailOf : am_T (.code yX0_tailOf cX0_tailOf 2 (some .int)) := ⟨List.mem_append_right _ (List.mem_of_getElem? (i := 414) (by decide +kernel)), by decide +kernel⟩
theorem ok_X0_tailOf : am_ok mX0_tailOf 1 := ⟨co_X0_tailOf, in_X0, ⟨by decide +kernel, by decide +kernel⟩, by decide +kernel, by decide, by decide +kernel⟩
theorem co_X0_roundOf : am_T (.code yX0_roundOf cX0_roundOf 5 (some .int)) := ⟨List.mem_append_right _ (List.mem_of_getElem? (i := 418) (by decide +kernel)), by decide +kernel⟩
theorem ok_X0_roundOf : am_ok mX0_roundOf 1 := ⟨co_X0_roundOf, in_X0, ⟨by decide +kernel, by decide +kernel⟩, by decide +kernel, by decide, by decide +kernel⟩
theorem co_X0_goesOut : am_T (.code yX0_goesOut cX0_goesOut 2 (some .boolean)) := ⟨List.mem_append_right _ (List.mem_of_getElem? (i := 402) (by decide +kernel)), by decide +kernel⟩
theorem ok_X0_goesOut : am_ok mX0_goesOut 1 := ⟨co_X0_goesOut, in_X0, ⟨by decide +kernel, by decide +kernel⟩, by decide +kernel, by decide, by decide +kernel⟩
theorem co_X0_behind : am_T (.code yX0_behind cX0_behind 10 (some .int)) := ⟨List.mem_append_right _ (List.mem_of_getElem? (i := 410) (by decide +kernel)), by decide +kernel⟩
theorem ok_X0_behind : am_ok mX0_behind 2 := ⟨co_X0_behind, in_X0, ⟨by decide +kernel, by decide +kernel⟩, by decide +kernel, by decide, by decide +kernel⟩
theorem co_X0_comersOf : am_T (.code yX0_comersOf cX0_comersOf 4 (some .int)) := ⟨List.mem_append_right _ (List.mem_of_getElem? (i := 485) (by decide +kernel)), by decide +kernel⟩
theorem ok_X0_comersOf : am_ok mX0_comersOf 1 := ⟨co_X0_comersOf, in_X0, ⟨by decide +kernel, by decide +kernel⟩, by decide +kernel, by decide, by decide +kernel⟩
theorem co_X0_firstComerOf : am_T (.code yX0_firstComerOf cX0_firstComerOf 3 (some .int)) := ⟨List.mem_append_right _ (List.mem_of_getElem? (i := 489) (by decide +kernel)), by decide +kernel⟩
theorem ok_X0_firstComerOf : am_ok mX0_firstComerOf 1 := ⟨co_X0_firstComerOf, in_X0, ⟨by decide +kernel, by decide +kernel⟩, by decide +kernel, by decide, by decide +kernel⟩
theorem co_X0_meeting : am_T (.code yX0_meeting cX0_meeting 6 (some .int)) := ⟨List.mem_append_right _ (List.mem_of_getElem? (i := 511) (by decide +kernel)), by decide +kernel⟩
theorem ok_X0_meeting : am_ok mX0_meeting 2 := ⟨co_X0_meeting, in_X0, ⟨by decide +kernel, by decide +kernel⟩, by decide +kernel, by decide, by decide +kernel⟩
theorem co_X0_leastSetToGoOut : am_T (.code yX0_leastSetToGoOut cX0_leastSetToGoOut 6 (some .int)) := ⟨List.mem_append_right _ (List.mem_of_getElem? (i := 519) (by decide +kernel)), by decide +kernel⟩
theorem ok_X0_leastSetToGoOut : am_ok mX0_leastSetToGoOut 1 := ⟨co_X0_leastSetToGoOut, in_X0, ⟨by decide +kernel, by decide +kernel⟩, by decide +kernel, by decide, by decide +kernel⟩
theorem co_X0_unlikePlaces : am_T (.code yX0_unlikePlaces cX0_unlikePlaces 7 (some .int)) := ⟨List.mem_append_right _ (List.mem_of_getElem? (i := 523) (by decide +kernel)), by decide +kernel⟩
theorem ok_X0_unlikePlaces : am_ok mX0_unlikePlaces 2 := ⟨co_X0_unlikePlaces, in_X0, ⟨by decide +kernel, by decide +kernel⟩, by decide +kernel, by decide, by decide +kernel⟩
theorem co_X0_numberIn : am_T (.code yX0_numberIn cX0_numberIn 5 (some .int)) := ⟨List.mem_append_right _ (List.mem_of_getElem? (i := 422) (by decide +kernel)), by decide +kernel⟩
theorem ok_X0_numberIn : am_ok mX0_numberIn 2 := ⟨co_X0_numberIn, in_X0, ⟨by decide +kernel, by decide +kernel⟩, by decide +kernel, by decide, by decide +kernel⟩
theorem co_X1_init : am_T (.code yX1_init cX1_init 1 none) := ⟨List.mem_append_right _ (List.mem_of_getElem? (i := 179) (by decide +kernel)), by decide +kernel⟩
theorem ok_X1_init : am_ok mX1_init 0 := ⟨co_X1_init, in_X1, ⟨by decide +kernel, by decide +kernel⟩, by decide +kernel, by decide, by decide +kernel⟩
theorem co_X1_areActs : am_T (.code yX1_areActs cX1_areActs 6 (some .boolean)) := ⟨List.mem_append_right _ (List.mem_of_getElem? (i := 432) (by decide +kernel)), by decide +kernel⟩
theorem ok_X1_areActs : am_ok mX1_areActs 3 := ⟨co_X1_areActs, in_X1, ⟨by decide +kernel, by decide +kernel⟩, by decide +kernel, by decide, by decide +kernel⟩
theorem co_X1_isAct : am_T (.code yX1_isAct cX1_isAct 2 (some .boolean)) := ⟨List.mem_append_right _ (List.mem_of_getElem? (i := 436) (by decide +kernel)), by decide +kernel⟩
theorem ok_X1_isAct : am_ok mX1_isAct 2 := ⟨co_X1_isAct, in_X1, ⟨by decide +kernel, by decide +kernel⟩, by decide +kernel, by decide, by decide +kernel⟩
theorem co_X1_play : am_T (.code yX1_play cX1_play 6 none) := ⟨List.mem_append_right _ (List.mem_of_getElem? (i := 445) (by decide +kernel)), by decide +kernel⟩
theorem ok_X1_play : am_ok mX1_play 4 := ⟨co_X1_play, in_X1, ⟨by decide +kernel, by decide +kernel⟩, by decide +kernel, by decide, by decide +kernel⟩
theorem co_X1_canDo : am_T (.code yX1_canDo cX1_canDo 4 (some .boolean)) := ⟨List.mem_append_right _ (List.mem_of_getElem? (i := 449) (by decide +kernel)), by decide +kernel⟩
theorem ok_X1_canDo : am_ok mX1_canDo 3 := ⟨co_X1_canDo, in_X1, ⟨by decide +kernel, by decide +kernel⟩, by decide +kernel, by decide, by decide +kernel⟩
theorem co_X2_init : am_T (.code yX2_init cX2_init 1 none) := ⟨List.mem_append_right _ (List.mem_of_getElem? (i := 159) (by decide +kernel)), by decide +kernel⟩
theorem ok_X2_init : am_ok mX2_init 0 := ⟨co_X2_init, in_X2, ⟨by decide +kernel, by decide +kernel⟩, by decide +kernel, by decide, by decide +kernel⟩
theorem co_X2_keep : am_T (.code yX2_keep cX2_keep 4 (some .int)) := ⟨List.mem_append_right _ (List.mem_of_getElem? (i := 541) (by decide +kernel)), by decide +kernel⟩
theorem ok_X2_keep : am_ok mX2_keep 3 := ⟨co_X2_keep, in_X2, ⟨by decide +kernel, by decide +kernel⟩, by decide +kernel, by decide, by decide +kernel⟩
theorem co_X2_areSo : am_T (.code yX2_areSo cX2_areSo 4 (some .boolean)) := ⟨List.mem_append_right _ (List.mem_of_getElem? (i := 553) (by decide +kernel)), by decide +kernel⟩
theorem ok_X2_areSo : am_ok mX2_areSo 1 := ⟨co_X2_areSo, in_X2, ⟨by decide +kernel, by decide +kernel⟩, by decide +kernel, by decide, by decide +kernel⟩
theorem co_X2_lastTime : am_T (.code yX2_lastTime cX2_lastTime 3 (some .int)) := ⟨List.mem_append_right _ (List.mem_of_getElem? (i := 557) (by decide +kernel)), by decide +kernel⟩
theorem ok_X2_lastTime : am_ok mX2_lastTime 0 := ⟨co_X2_lastTime, in_X2, ⟨by decide +kernel, by decide +kernel⟩, by decide +kernel, by decide, by decide +kernel⟩
theorem co_X2_areSoAt : am_T (.code yX2_areSoAt cX2_areSoAt 4 (some .boolean)) := ⟨List.mem_append_right _ (List.mem_of_getElem? (i := 564) (by decide +kernel)), by decide +kernel⟩
theorem ok_X2_areSoAt : am_ok mX2_areSoAt 2 := ⟨co_X2_areSoAt, in_X2, ⟨by decide +kernel, by decide +kernel⟩, by decide +kernel, by decide, by decide +kernel⟩
theorem co_X3_init : am_T (.code yX3_init cX3_init 1 none) := ⟨List.mem_append_right _ (List.mem_of_getElem? (i := 45) (by decide +kernel)), by decide +kernel⟩
theorem ok_X3_init : am_ok mX3_init 0 := ⟨co_X3_init, in_X3, ⟨by decide +kernel, by decide +kernel⟩, by decide +kernel, by decide, by decide +kernel⟩
theorem co_X3_isNone : am_T (.code yX3_isNone cX3_isNone 1 (some .boolean)) := ⟨List.mem_append_right _ (List.mem_of_getElem? (i := 316) (by decide +kernel)), by decide +kernel⟩
theorem ok_X3_isNone : am_ok mX3_isNone 0 := ⟨co_X3_isNone, in_X3, ⟨by decide +kernel, by decide +kernel⟩, by decide +kernel, by decide, by decide +kernel⟩
theorem co_X3_has : am_T (.code yX3_has cX3_has 2 (some .boolean)) := ⟨List.mem_append_right _ (List.mem_of_getElem? (i := 289) (by decide +kernel)), by decide +kernel⟩
theorem ok_X3_has : am_ok mX3_has 1 := ⟨co_X3_has, in_X3, ⟨by decide +kernel, by decide +kernel⟩, by decide +kernel, by decide, by decide +kernel⟩
theorem co_X3_numberAt : am_T (.code yX3_numberAt cX3_numberAt 2 (some .int)) := ⟨List.mem_append_right _ (List.mem_of_getElem? (i := 470) (by decide +kernel)), by decide +kernel⟩
theorem ok_X3_numberAt : am_ok mX3_numberAt 1 := ⟨co_X3_numberAt, in_X3, ⟨by decide +kernel, by decide +kernel⟩, by decide +kernel, by decide, by decide +kernel⟩
theorem co_X3_isNumber : am_T (.code yX3_isNumber cX3_isNumber 2 (some .boolean)) := ⟨List.mem_append_right _ (List.mem_of_getElem? (i := 308) (by decide +kernel)), by decide +kernel⟩
theorem ok_X3_isNumber : am_ok mX3_isNumber 1 := ⟨co_X3_isNumber, in_X3, ⟨by decide +kernel, by decide +kernel⟩, by decide +kernel, by decide, by decide +kernel⟩
theorem co_X3_takeAll : am_T (.code yX3_takeAll cX3_takeAll 2 none) := ⟨List.mem_append_right _ (List.mem_of_getElem? (i := 440) (by decide +kernel)), by decide +kernel⟩
theorem ok_X3_takeAll : am_ok mX3_takeAll 1 := ⟨co_X3_takeAll, in_X3, ⟨by decide +kernel, by decide +kernel⟩, by decide +kernel, by decide, by decide +kernel⟩
theorem co_X3_takeKinds : am_T (.code yX3_takeKinds cX3_takeKinds 2 none) := ⟨List.mem_append_right _ (List.mem_of_getElem? (i := 342) (by decide +kernel)), by decide +kernel⟩
theorem ok_X3_takeKinds : am_ok mX3_takeKinds 1 := ⟨co_X3_takeKinds, in_X3, ⟨by decide +kernel, by decide +kernel⟩, by decide +kernel, by decide, by decide +kernel⟩
theorem co_X3_takeRow : am_T (.code yX3_takeRow cX3_takeRow 5 (some .boolean)) := ⟨List.mem_append_right _ (List.mem_of_getElem? (i := 505) (by decide +kernel)), by decide +kernel⟩
theorem ok_X3_takeRow : am_ok mX3_takeRow 2 := ⟨co_X3_takeRow, in_X3, ⟨by decide +kernel, by decide +kernel⟩, by decide +kernel, by decide, by decide +kernel⟩
theorem co_X3_takeFirstRow : am_T (.code yX3_takeFirstRow cX3_takeFirstRow 1 none) := ⟨List.mem_append_right _ (List.mem_of_getElem? (i := 357) (by decide +kernel)), by decide +kernel⟩
theorem ok_X3_takeFirstRow : am_ok mX3_takeFirstRow 0 := ⟨co_X3_takeFirstRow, in_X3, ⟨by decide +kernel, by decide +kernel⟩, by decide +kernel, by decide, by decide +kernel⟩
theorem co_X3_takeNextRow : am_T (.code yX3_takeNextRow cX3_takeNextRow 2 none) := ⟨List.mem_append_right _ (List.mem_of_getElem? (i := 370) (by decide +kernel)), by decide +kernel⟩
theorem ok_X3_takeNextRow : am_ok mX3_takeNextRow 0 := ⟨co_X3_takeNextRow, in_X3, ⟨by decide +kernel, by decide +kernel⟩, by decide +kernel, by decide, by decide +kernel⟩
theorem co_X3_stepped : am_T (.code yX3_stepped cX3_stepped 4 (some .int)) := ⟨List.mem_append_right _ (List.mem_of_getElem? (i := 293) (by decide +kernel)), by decide +kernel⟩
theorem ok_X3_stepped : am_ok mX3_stepped 1 := ⟨co_X3_stepped, in_X3, ⟨by decide +kernel, by decide +kernel⟩, by decide +kernel, by decide, by decide +kernel⟩
theorem co_X3_howFar : am_T (.code yX3_howFar cX3_howFar 4 (some .int)) := ⟨List.mem_append_right _ (List.mem_of_getElem? (i := 297) (by decide +kernel)), by decide +kernel⟩
theorem ok_X3_howFar : am_ok mX3_howFar 2 := ⟨co_X3_howFar, in_X3, ⟨by decide +kernel, by decide +kernel⟩, by decide +kernel, by decide, by decide +kernel⟩
theorem co_X3_go : am_T (.code yX3_go cX3_go 4 none) := ⟨List.mem_append_right _ (List.mem_of_getElem? (i := 320) (by decide +kernel)), by decide +kernel⟩
theorem ok_X3_go : am_ok mX3_go 1 := ⟨co_X3_go, in_X3, ⟨by decide +kernel, by decide +kernel⟩, by decide +kernel, by decide, by decide +kernel⟩
theorem co_X3_zeros : am_T (.code yX3_zeros cX3_zeros 3 (some .int)) := ⟨List.mem_append_right _ (List.mem_of_getElem? (i := 328) (by decide +kernel)), by decide +kernel⟩
theorem ok_X3_zeros : am_ok mX3_zeros 0 := ⟨co_X3_zeros, in_X3, ⟨by decide +kernel, by decide +kernel⟩, by decide +kernel, by decide, by decide +kernel⟩
theorem co_X3_isOut : am_T (.code yX3_isOut cX3_isOut 1 (some .boolean)) := ⟨List.mem_append_right _ (List.mem_of_getElem? (i := 456) (by decide +kernel)), by decide +kernel⟩
theorem ok_X3_isOut : am_ok mX3_isOut 0 := ⟨co_X3_isOut, in_X3, ⟨by decide +kernel, by decide +kernel⟩, by decide +kernel, by decide, by decide +kernel⟩
theorem co_X3_total : am_T (.code yX3_total cX3_total 3 (some .int)) := ⟨List.mem_append_right _ (List.mem_of_getElem? (i := 465) (by decide +kernel)), by decide +kernel⟩
theorem ok_X3_total : am_ok mX3_total 0 := ⟨co_X3_total, in_X3, ⟨by decide +kernel, by decide +kernel⟩, by decide +kernel, by decide, by decide +kernel⟩
theorem co_X3_code : am_T (.code yX3_code cX3_code 3 (some .int)) := ⟨List.mem_append_right _ (List.mem_of_getElem? (i := 406) (by decide +kernel)), by decide +kernel⟩
theorem ok_X3_code : am_ok mX3_code 0 := ⟨co_X3_code, in_X3, ⟨by decide +kernel, by decide +kernel⟩, by decide +kernel, by decide, by decide +kernel⟩
theorem co_X3_steppedCode : am_T (.code yX3_steppedCode cX3_steppedCode 3 (some .int)) := ⟨List.mem_append_right _ (List.mem_of_getElem? (i := 362) (by decide +kernel)), by decide +kernel⟩
theorem ok_X3_steppedCode : am_ok mX3_steppedCode 0 := ⟨co_X3_steppedCode, in_X3, ⟨by decide +kernel, by decide +kernel⟩, by decide +kernel, by decide, by decide +kernel⟩
theorem co_X4_init : am_T (.code yX4_init cX4_init 1 none) := ⟨List.mem_append_right _ (List.mem_of_getElem? (i := 27) (by decide +kernel)), by decide +kernel⟩
theorem ok_X4_init : am_ok mX4_init 0 := ⟨co_X4_init, in_X4, ⟨by decide +kernel, by decide +kernel⟩, by decide +kernel, by decide, by decide +kernel⟩
theorem co_X4_hasNothing : am_T (.code yX4_hasNothing cX4_hasNothing 1 (some .boolean)) := ⟨List.mem_append_right _ (List.mem_of_getElem? (i := 242) (by decide +kernel)), by decide +kernel⟩
theorem ok_X4_hasNothing : am_ok mX4_hasNothing 0 := ⟨co_X4_hasNothing, in_X4, ⟨by decide +kernel, by decide +kernel⟩, by decide +kernel, by decide, by decide +kernel⟩
theorem co_X4_renew : am_T (.code yX4_renew cX4_renew 3 none) := ⟨List.mem_append_right _ (List.mem_of_getElem? (i := 608) (by decide +kernel)), by decide +kernel⟩
theorem ok_X4_renew : am_ok mX4_renew 2 := ⟨co_X4_renew, in_X4, ⟨by decide +kernel, by decide +kernel⟩, by decide +kernel, by decide, by decide +kernel⟩
theorem co_X4_drop : am_T (.code yX4_drop cX4_drop 1 none) := ⟨List.mem_append_right _ (List.mem_of_getElem? (i := 618) (by decide +kernel)), by decide +kernel⟩
theorem ok_X4_drop : am_ok mX4_drop 0 := ⟨co_X4_drop, in_X4, ⟨by decide +kernel, by decide +kernel⟩, by decide +kernel, by decide, by decide +kernel⟩
theorem co_X4_faultAs : am_T (.code yX4_faultAs cX4_faultAs 4 (some .int)) := ⟨List.mem_append_right _ (List.mem_of_getElem? (i := 238) (by decide +kernel)), by decide +kernel⟩
theorem ok_X4_faultAs : am_ok mX4_faultAs 3 := ⟨co_X4_faultAs, in_X4, ⟨by decide +kernel, by decide +kernel⟩, by decide +kernel, by decide, by decide +kernel⟩
theorem co_X4_faultOf : am_T (.code yX4_faultOf cX4_faultOf 3 (some .int)) := ⟨List.mem_append_right _ (List.mem_of_getElem? (i := 246) (by decide +kernel)), by decide +kernel⟩
theorem ok_X4_faultOf : am_ok mX4_faultOf 2 := ⟨co_X4_faultOf, in_X4, ⟨by decide +kernel, by decide +kernel⟩, by decide +kernel, by decide, by decide +kernel⟩
theorem co_X4_faultOfCopy : am_T (.code yX4_faultOfCopy cX4_faultOfCopy 5 (some .int)) := ⟨List.mem_append_right _ (List.mem_of_getElem? (i := 644) (by decide +kernel)), by decide +kernel⟩

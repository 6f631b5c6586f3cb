theorem ok_X4_faultOfCopy : am_ok mX4_faultOfCopy 4 := ⟨co_X4_faultOfCopy, in_X4, ⟨by decide +kernel, by decide +kernel⟩, by decide +kernel, by decide, by decide +kernel⟩
theorem co_X4_spans : am_T (.code yX4_spans cX4_spans 3 (some .boolean)) := ⟨List.mem_append_right _ (List.mem_of_getElem? (i := 250) (by decide +kernel)), by decide +kernel⟩
theorem ok_X4_spans : am_ok mX4_spans 2 := ⟨co_X4_spans, in_X4, ⟨by decide +kernel, by decide +kernel⟩, by decide +kernel, by decide, by decide +kernel⟩
theorem co_X4_at : am_T (.code yX4_at cX4_at 2 (some .int)) := ⟨List.mem_append_right _ (List.mem_of_getElem? (i := 261) (by decide +kernel)), by decide +kernel⟩
theorem ok_X4_at : am_ok mX4_at 1 := ⟨co_X4_at, in_X4, ⟨by decide +kernel, by decide +kernel⟩, by decide +kernel, by decide, by decide +kernel⟩
theorem co_X4_change : am_T (.code yX4_change cX4_change 3 none) := ⟨List.mem_append_right _ (List.mem_of_getElem? (i := 627) (by decide +kernel)), by decide +kernel⟩
theorem ok_X4_change : am_ok mX4_change 2 := ⟨co_X4_change, in_X4, ⟨by decide +kernel, by decide +kernel⟩, by decide +kernel, by decide, by decide +kernel⟩
theorem co_X4_cut : am_T (.code yX4_cut cX4_cut 2 (some .int)) := ⟨List.mem_append_right _ (List.mem_of_getElem? (i := 631) (by decide +kernel)), by decide +kernel⟩
theorem ok_X4_cut : am_ok mX4_cut 1 := ⟨co_X4_cut, in_X4, ⟨by decide +kernel, by decide +kernel⟩, by decide +kernel, by decide, by decide +kernel⟩
theorem co_X5_init : am_T (.code yX5_init cX5_init 1 none) := ⟨List.mem_append_right _ (List.mem_of_getElem? (i := 137) (by decide +kernel)), by decide +kernel⟩
theorem ok_X5_init : am_ok mX5_init 0 := ⟨co_X5_init, in_X5, ⟨by decide +kernel, by decide +kernel⟩, by decide +kernel, by decide, by decide +kernel⟩
theorem co_X5_forget : am_T (.code yX5_forget cX5_forget 1 none) := ⟨List.mem_append_right _ (List.mem_of_getElem? (i := 281) (by decide +kernel)), by decide +kernel⟩
theorem ok_X5_forget : am_ok mX5_forget 0 := ⟨co_X5_forget, in_X5, ⟨by decide +kernel, by decide +kernel⟩, by decide +kernel, by decide, by decide +kernel⟩
theorem co_X5_goTo : am_T (.code yX5_goTo cX5_goTo 4 none) := ⟨List.mem_append_right _ (List.mem_of_getElem? (i := 579) (by decide +kernel)), by decide +kernel⟩
theorem ok_X5_goTo : am_ok mX5_goTo 2 := ⟨co_X5_goTo, in_X5, ⟨by decide +kernel, by decide +kernel⟩, by decide +kernel, by decide, by decide +kernel⟩
theorem co_X5_begin : am_T (.code yX5_begin cX5_begin 3 none) := ⟨List.mem_append_right _ (List.mem_of_getElem? (i := 583) (by decide +kernel)), by decide +kernel⟩
theorem ok_X5_begin : am_ok mX5_begin 1 := ⟨co_X5_begin, in_X5, ⟨by decide +kernel, by decide +kernel⟩, by decide +kernel, by decide, by decide +kernel⟩
theorem co_X5_stepAll : am_T (.code yX5_stepAll cX5_stepAll 6 none) := ⟨List.mem_append_right _ (List.mem_of_getElem? (i := 587) (by decide +kernel)), by decide +kernel⟩
theorem ok_X5_stepAll : am_ok mX5_stepAll 1 := ⟨co_X5_stepAll, in_X5, ⟨by decide +kernel, by decide +kernel⟩, by decide +kernel, by decide, by decide +kernel⟩
theorem co_X5_whereKept : am_T (.code yX5_whereKept cX5_whereKept 4 (some .int)) := ⟨List.mem_append_right _ (List.mem_of_getElem? (i := 592) (by decide +kernel)), by decide +kernel⟩
theorem ok_X5_whereKept : am_ok mX5_whereKept 2 := ⟨co_X5_whereKept, in_X5, ⟨by decide +kernel, by decide +kernel⟩, by decide +kernel, by decide, by decide +kernel⟩
theorem co_X5_howMany : am_T (.code yX5_howMany cX5_howMany 6 (some .int)) := ⟨List.mem_append_right _ (List.mem_of_getElem? (i := 596) (by decide +kernel)), by decide +kernel⟩
theorem ok_X5_howMany : am_ok mX5_howMany 3 := ⟨co_X5_howMany, in_X5, ⟨by decide +kernel, by decide +kernel⟩, by decide +kernel, by decide, by decide +kernel⟩
theorem co_X6_firstFault : am_T (.code yX6_firstFault cX6_firstFault 6 (some .int)) := ⟨List.mem_append_right _ (List.mem_of_getElem? (i := 257) (by decide +kernel)), by decide +kernel⟩
theorem ok_X6_firstFault : am_ok mX6_firstFault 3 := ⟨co_X6_firstFault, in_X6, ⟨by decide +kernel, by decide +kernel⟩, by decide +kernel, by decide, by decide +kernel⟩
theorem co_X6_goesOn : am_T (.code yX6_goesOn cX6_goesOn 3 (some .boolean)) := ⟨List.mem_append_right _ (List.mem_of_getElem? (i := 264) (by decide +kernel)), by decide +kernel⟩
theorem ok_X6_goesOn : am_ok mX6_goesOn 3 := ⟨co_X6_goesOn, in_X6, ⟨by decide +kernel, by decide +kernel⟩, by decide +kernel, by decide, by decide +kernel⟩
theorem co_X6_kindOf : am_T (.code yX6_kindOf cX6_kindOf 1 (some .int)) := ⟨List.mem_append_right _ (List.mem_of_getElem? (i := 267) (by decide +kernel)), by decide +kernel⟩
theorem ok_X6_kindOf : am_ok mX6_kindOf 1 := ⟨co_X6_kindOf, in_X6, ⟨by decide +kernel, by decide +kernel⟩, by decide +kernel, by decide, by decide +kernel⟩
theorem co_X6_take : am_T (.code yX6_take cX6_take 6 none) := ⟨List.mem_append_right _ (List.mem_of_getElem? (i := 270) (by decide +kernel)), by decide +kernel⟩
theorem ok_X6_take : am_ok mX6_take 4 := ⟨co_X6_take, in_X6, ⟨by decide +kernel, by decide +kernel⟩, by decide +kernel, by decide, by decide +kernel⟩
theorem co_X7_init : am_T (.code yX7_init cX7_init 2 none) := ⟨List.mem_append_right _ (List.mem_of_getElem? (i := 18) (by decide +kernel)), by decide +kernel⟩
theorem ok_X7_init : am_ok mX7_init 0 := ⟨co_X7_init, in_X7, ⟨by decide +kernel, by decide +kernel⟩, by decide +kernel, by decide, by decide +kernel⟩
theorem co_X7_ring : am_T (.code yX7_ring cX7_ring 7 (some .int)) := ⟨List.mem_append_right _ (List.mem_of_getElem? (i := 228) (by decide +kernel)), by decide +kernel⟩
theorem ok_X7_ring : am_ok mX7_ring 4 := ⟨co_X7_ring, in_X7, ⟨by decide +kernel, by decide +kernel⟩, by decide +kernel, by decide, by decide +kernel⟩
theorem co_X7_ofPlace : am_T (.code yX7_ofPlace cX7_ofPlace 3 (some .int)) := ⟨List.mem_append_right _ (List.mem_of_getElem? (i := 285) (by decide +kernel)), by decide +kernel⟩
theorem ok_X7_ofPlace : am_ok mX7_ofPlace 2 := ⟨co_X7_ofPlace, in_X7, ⟨by decide +kernel, by decide +kernel⟩, by decide +kernel, by decide, by decide +kernel⟩
theorem co_X7_write : am_T (.code yX7_write cX7_write 4 (some .int)) := ⟨List.mem_append_right _ (List.mem_of_getElem? (i := 304) (by decide +kernel)), by decide +kernel⟩
theorem ok_X7_write : am_ok mX7_write 2 := ⟨co_X7_write, in_X7, ⟨by decide +kernel, by decide +kernel⟩, by decide +kernel, by decide, by decide +kernel⟩
theorem co_X7_steps : am_T (.code yX7_steps cX7_steps 2 (some .int)) := ⟨List.mem_append_right _ (List.mem_of_getElem? (i := 312) (by decide +kernel)), by decide +kernel⟩
theorem ok_X7_steps : am_ok mX7_steps 1 := ⟨co_X7_steps, in_X7, ⟨by decide +kernel, by decide +kernel⟩, by decide +kernel, by decide, by decide +kernel⟩
theorem co_X7_after : am_T (.code yX7_after cX7_after 4 (some .int)) := ⟨List.mem_append_right _ (List.mem_of_getElem? (i := 332) (by decide +kernel)), by decide +kernel⟩
theorem ok_X7_after : am_ok mX7_after 2 := ⟨co_X7_after, in_X7, ⟨by decide +kernel, by decide +kernel⟩, by decide +kernel, by decide, by decide +kernel⟩
theorem co_X7_day : am_T (.code yX7_day cX7_day 7 (some .int)) := ⟨List.mem_append_right _ (List.mem_of_getElem? (i := 426) (by decide +kernel)), by decide +kernel⟩
theorem ok_X7_day : am_ok mX7_day 5 := ⟨co_X7_day, in_X7, ⟨by decide +kernel, by decide +kernel⟩, by decide +kernel, by decide, by decide +kernel⟩
theorem co_X7_ofDay : am_T (.code yX7_ofDay cX7_ofDay 2 (some .int)) := ⟨List.mem_append_right _ (List.mem_of_getElem? (i := 461) (by decide +kernel)), by decide +kernel⟩
theorem ok_X7_ofDay : am_ok mX7_ofDay 1 := ⟨co_X7_ofDay, in_X7, ⟨by decide +kernel, by decide +kernel⟩, by decide +kernel, by decide, by decide +kernel⟩
theorem co_X7_now : am_T (.code yX7_now cX7_now 3 (some .int)) := ⟨List.mem_append_right _ (List.mem_of_getElem? (i := 475) (by decide +kernel)), by decide +kernel⟩
theorem ok_X7_now : am_ok mX7_now 1 := ⟨co_X7_now, in_X7, ⟨by decide +kernel, by decide +kernel⟩, by decide +kernel, by decide, by decide +kernel⟩
theorem co_X7_from : am_T (.code yX7_from cX7_from 3 (some .int)) := ⟨List.mem_append_right _ (List.mem_of_getElem? (i := 481) (by decide +kernel)), by decide +kernel⟩
theorem ok_X7_from : am_ok mX7_from 1 := ⟨co_X7_from, in_X7, ⟨by decide +kernel, by decide +kernel⟩, by decide +kernel, by decide, by decide +kernel⟩
theorem co_X7_rows : am_T (.code yX7_rows cX7_rows 2 (some .int)) := ⟨List.mem_append_right _ (List.mem_of_getElem? (i := 493) (by decide +kernel)), by decide +kernel⟩
theorem ok_X7_rows : am_ok mX7_rows 1 := ⟨co_X7_rows, in_X7, ⟨by decide +kernel, by decide +kernel⟩, by decide +kernel, by decide, by decide +kernel⟩
theorem co_X7_longest : am_T (.code yX7_longest cX7_longest 2 (some .int)) := ⟨List.mem_append_right _ (List.mem_of_getElem? (i := 497) (by decide +kernel)), by decide +kernel⟩
theorem ok_X7_longest : am_ok mX7_longest 1 := ⟨co_X7_longest, in_X7, ⟨by decide +kernel, by decide +kernel⟩, by decide +kernel, by decide, by decide +kernel⟩
theorem co_X7_meet : am_T (.code yX7_meet cX7_meet 5 (some .int)) := ⟨List.mem_append_right _ (List.mem_of_getElem? (i := 501) (by decide +kernel)), by decide +kernel⟩
theorem ok_X7_meet : am_ok mX7_meet 3 := ⟨co_X7_meet, in_X7, ⟨by decide +kernel, by decide +kernel⟩, by decide +kernel, by decide, by decide +kernel⟩
theorem co_X7_few : am_T (.code yX7_few cX7_few 3 (some .int)) := ⟨List.mem_append_right _ (List.mem_of_getElem? (i := 515) (by decide +kernel)), by decide +kernel⟩
theorem ok_X7_few : am_ok mX7_few 1 := ⟨co_X7_few, in_X7, ⟨by decide +kernel, by decide +kernel⟩, by decide +kernel, by decide, by decide +kernel⟩
theorem co_X7_reading : am_T (.code yX7_reading cX7_reading 4 (some .int)) := ⟨List.mem_append_right _ (List.mem_of_getElem? (i := 534) (by decide +kernel)), by decide +kernel⟩
theorem ok_X7_reading : am_ok mX7_reading 3 := ⟨co_X7_reading, in_X7, ⟨by decide +kernel, by decide +kernel⟩, by decide +kernel, by decide, by decide +kernel⟩
theorem co_X7_back : am_T (.code yX7_back cX7_back 2 (some .int)) := ⟨List.mem_append_right _ (List.mem_of_getElem? (i := 545) (by decide +kernel)), by decide +kernel⟩
theorem ok_X7_back : am_ok mX7_back 1 := ⟨co_X7_back, in_X7, ⟨by decide +kernel, by decide +kernel⟩, by decide +kernel, by decide, by decide +kernel⟩
theorem co_X7_kinds : am_T (.code yX7_kinds cX7_kinds 4 (some .int)) := ⟨List.mem_append_right _ (List.mem_of_getElem? (i := 549) (by decide +kernel)), by decide +kernel⟩
theorem ok_X7_kinds : am_ok mX7_kinds 1 := ⟨co_X7_kinds, in_X7, ⟨by decide +kernel, by decide +kernel⟩, by decide +kernel, by decide, by decide +kernel⟩
theorem co_X7_firsts : am_T (.code yX7_firsts cX7_firsts 4 (some .int)) := ⟨List.mem_append_right _ (List.mem_of_getElem? (i := 570) (by decide +kernel)), by decide +kernel⟩
theorem ok_X7_firsts : am_ok mX7_firsts 1 := ⟨co_X7_firsts, in_X7, ⟨by decide +kernel, by decide +kernel⟩, by decide +kernel, by decide, by decide +kernel⟩
theorem co_X7_odds : am_T (.code yX7_odds cX7_odds 7 (some .long)) := ⟨List.mem_append_right _ (List.mem_of_getElem? (i := 574) (by decide +kernel)), by decide +kernel⟩
theorem ok_X7_odds : am_ok mX7_odds 4 := ⟨co_X7_odds, in_X7, ⟨by decide +kernel, by decide +kernel⟩, by decide +kernel, by decide, by decide +kernel⟩
theorem co_X7_sheet : am_T (.code yX7_sheet cX7_sheet 4 (some .int)) := ⟨List.mem_append_right _ (List.mem_of_getElem? (i := 604) (by decide +kernel)), by decide +kernel⟩
theorem ok_X7_sheet : am_ok mX7_sheet 3 := ⟨co_X7_sheet, in_X7, ⟨by decide +kernel, by decide +kernel⟩, by decide +kernel, by decide, by decide +kernel⟩
theorem co_X7_lose : am_T (.code yX7_lose cX7_lose 3 (some .int)) := ⟨List.mem_append_right _ (List.mem_of_getElem? (i := 613) (by decide +kernel)), by decide +kernel⟩
theorem ok_X7_lose : am_ok mX7_lose 1 := ⟨co_X7_lose, in_X7, ⟨by decide +kernel, by decide +kernel⟩, by decide +kernel, by decide, by decide +kernel⟩
theorem co_X7_put : am_T (.code yX7_put cX7_put 4 (some .int)) := ⟨List.mem_append_right _ (List.mem_of_getElem? (i := 622) (by decide +kernel)), by decide +kernel⟩
theorem ok_X7_put : am_ok mX7_put 3 := ⟨co_X7_put, in_X7, ⟨by decide +kernel, by decide +kernel⟩, by decide +kernel, by decide, by decide +kernel⟩
theorem co_X7_cell : am_T (.code yX7_cell cX7_cell 4 (some .long)) := ⟨List.mem_append_right _ (List.mem_of_getElem? (i := 635) (by decide +kernel)), by decide +kernel⟩
theorem ok_X7_cell : am_ok mX7_cell 3 := ⟨co_X7_cell, in_X7, ⟨by decide +kernel, by decide +kernel⟩, by decide +kernel, by decide, by decide +kernel⟩
theorem co_X7_copy : am_T (.code yX7_copy cX7_copy 8 (some .int)) := ⟨List.mem_append_right _ (List.mem_of_getElem? (i := 640) (by decide +kernel)), by decide +kernel⟩
theorem ok_X7_copy : am_ok mX7_copy 5 := ⟨co_X7_copy, in_X7, ⟨by decide +kernel, by decide +kernel⟩, by decide +kernel, by decide, by decide +kernel⟩
theorem co_X7_tell : am_T (.code yX7_tell cX7_tell 2 (some .int)) := ⟨List.mem_append_right _ (List.mem_of_getElem? (i := 649) (by decide +kernel)), by decide +kernel⟩
theorem ok_X7_tell : am_ok mX7_tell 1 := ⟨co_X7_tell, in_X7, ⟨by decide +kernel, by decide +kernel⟩, by decide +kernel, by decide, by decide +kernel⟩
theorem co_X7_tellPlain : am_T (.code yX7_tellPlain cX7_tellPlain 2 (some .int)) := ⟨List.mem_append_right _ (List.mem_of_getElem? (i := 653) (by decide +kernel)), by decide +kernel⟩
theorem ok_X7_tellPlain : am_ok mX7_tellPlain 1 := ⟨co_X7_tellPlain, in_X7, ⟨by decide +kernel, by decide +kernel⟩, by decide +kernel, by decide, by decide +kernel⟩
theorem co_X7_tellFar : am_T (.code yX7_tellFar cX7_tellFar 2 (some .int)) := ⟨List.mem_append_right _ (List.mem_of_getElem? (i := 661) (by decide +kernel)), by decide +kernel⟩
theorem ok_X7_tellFar : am_ok mX7_tellFar 1 := ⟨co_X7_tellFar, in_X7, ⟨by decide +kernel, by decide +kernel⟩, by decide +kernel, by decide, by decide +kernel⟩
theorem co_X7_tellMixed : am_T (.code yX7_tellMixed cX7_tellMixed 3 (some .int)) := ⟨List.mem_append_right _ (List.mem_of_getElem? (i := 665) (by decide +kernel)), by decide +kernel⟩
theorem ok_X7_tellMixed : am_ok mX7_tellMixed 1 := ⟨co_X7_tellMixed, in_X7, ⟨by decide +kernel, by decide +kernel⟩, by decide +kernel, by decide, by decide +kernel⟩
theorem co_X7_call : am_T (.code yX7_call cX7_call 2 (some .int)) := ⟨List.mem_append_right _ (List.mem_of_getElem? (i := 669) (by decide +kernel)), by decide +kernel⟩
theorem ok_X7_call : am_ok mX7_call 1 := ⟨co_X7_call, in_X7, ⟨by decide +kernel, by decide +kernel⟩, by decide +kernel, by decide, by decide +kernel⟩
theorem co_X7_as : am_T (.code yX7_as cX7_as 3 (some .int)) := ⟨List.mem_append_right _ (List.mem_of_getElem? (i := 673) (by decide +kernel)), by decide +kernel⟩
theorem ok_X7_as : am_ok mX7_as 2 := ⟨co_X7_as, in_X7, ⟨by decide +kernel, by decide +kernel⟩, by decide +kernel, by decide, by decide +kernel⟩
theorem co_X7_trace : am_T (.code yX7_trace cX7_trace 1 (some .int)) := ⟨List.mem_append_right _ (List.mem_of_getElem? (i := 677) (by decide +kernel)), by decide +kernel⟩
theorem ok_X7_trace : am_ok mX7_trace 0 := ⟨co_X7_trace, in_X7, ⟨by decide +kernel, by decide +kernel⟩, by decide +kernel, by decide, by decide +kernel⟩
theorem co_X7_fault : am_T (.code yX7_fault cX7_fault 1 (some .int)) := ⟨List.mem_append_right _ (List.mem_of_getElem? (i := 681) (by decide +kernel)), by decide +kernel⟩
theorem ok_X7_fault : am_ok mX7_fault 0 := ⟨co_X7_fault, in_X7, ⟨by decide +kernel, by decide +kernel⟩, by decide +kernel, by decide, by decide +kernel⟩
theorem co_X7_many : am_T (.code yX7_many cX7_many 2 (some .int)) := ⟨List.mem_append_right _ (List.mem_of_getElem? (i := 685) (by decide +kernel)), by decide +kernel⟩
theorem ok_X7_many : am_ok mX7_many 1 := ⟨co_X7_many, in_X7, ⟨by decide +kernel, by decide +kernel⟩, by decide +kernel, by decide, by decide +kernel⟩
theorem co_X7_leave : am_T (.code yX7_leave cX7_leave 2 none) := ⟨List.mem_append_right _ (List.mem_of_getElem? (i := 657) (by decide +kernel)), by decide +kernel⟩
theorem ok_X7_leave : am_ok mX7_leave 1 := ⟨co_X7_leave, in_X7, ⟨by decide +kernel, by decide +kernel⟩, by decide +kernel, by decide, by decide +kernel⟩
theorem co_X7_answerOfFault : am_T (.code yX7_answerOfFault cX7_answerOfFault 1 (some .int)) := ⟨List.mem_append_right _ (List.mem_of_getElem? (i := 254) (by decide +kernel)), by decide +kernel⟩
theorem ok_X7_answerOfFault : am_ok mX7_answerOfFault 0 := ⟨co_X7_answerOfFault, in_X7, ⟨by decide +kernel, by decide +kernel⟩, by decide +kernel, by decide, by decide +kernel⟩
theorem co_X7_isSheet : am_T (.code yX7_isSheet cX7_isSheet 1 (some .boolean)) := ⟨List.mem_append_right _ (List.mem_of_getElem? (i := 231) (by decide +kernel)), by decide +kernel⟩
theorem ok_X7_isSheet : am_ok mX7_isSheet 1 := ⟨co_X7_isSheet, in_X7, ⟨by decide +kernel, by decide +kernel⟩, by decide +kernel, by decide, by decide +kernel⟩
theorem co_X7_isLane : am_T (.code yX7_isLane cX7_isLane 1 (some .boolean)) := ⟨List.mem_append_right _ (List.mem_of_getElem? (i := 234) (by decide +kernel)), by decide +kernel⟩
theorem ok_X7_isLane : am_ok mX7_isLane 1 := ⟨co_X7_isLane, in_X7, ⟨by decide +kernel, by decide +kernel⟩, by decide +kernel, by decide, by decide +kernel⟩
theorem co_X7_isOfDay : am_T (.code yX7_isOfDay cX7_isOfDay 1 (some .boolean)) := ⟨List.mem_append_right _ (List.mem_of_getElem? (i := 429) (by decide +kernel)), by decide +kernel⟩
theorem ok_X7_isOfDay : am_ok mX7_isOfDay 1 := ⟨co_X7_isOfDay, in_X7, ⟨by decide +kernel, by decide +kernel⟩, by decide +kernel, by decide, by decide +kernel⟩
theorem co_X7_isReadable : am_T (.code yX7_isReadable cX7_isReadable 2 (some .boolean)) := ⟨List.mem_append_right _ (List.mem_of_getElem? (i := 537) (by decide +kernel)), by decide +kernel⟩
theorem ok_X7_isReadable : am_ok mX7_isReadable 2 := ⟨co_X7_isReadable, in_X7, ⟨by decide +kernel, by decide +kernel⟩, by decide +kernel, by decide, by decide +kernel⟩
theorem co_X7_commonDivisor : am_T (.code yX7_commonDivisor cX7_commonDivisor 6 (some .int)) := ⟨List.mem_append_right _ (List.mem_of_getElem? (i := 600) (by decide +kernel)), by decide +kernel⟩
theorem ok_X7_commonDivisor : am_ok mX7_commonDivisor 2 := ⟨co_X7_commonDivisor, in_X7, ⟨by decide +kernel, by decide +kernel⟩, by decide +kernel, by decide, by decide +kernel⟩
theorem co_X8_init : am_T (.code yX8_init cX8_init 2 none) := ⟨List.mem_append_right _ (List.mem_of_getElem? (i := 690) (by decide +kernel)), by decide +kernel⟩
theorem ok_X8_init : am_ok mX8_init 0 := ⟨co_X8_init, in_X8, ⟨by decide +kernel, by decide +kernel⟩, by decide +kernel, by decide, by decide +kernel⟩
theorem co_X8_in : am_T (.code yX8_in cX8_in 6 (some .boolean)) := ⟨List.mem_append_right _ (List.mem_of_getElem? (i := 799) (by decide +kernel)), by decide +kernel⟩
theorem ok_X8_in : am_ok mX8_in 3 := ⟨co_X8_in, in_X8, ⟨by decide +kernel, by decide +kernel⟩, by decide +kernel, by decide, by decide +kernel⟩
theorem co_X8_lost : am_T (.code yX8_lost cX8_lost 0 (some .long)) := ⟨List.mem_append_right _ (List.mem_of_getElem? (i := 1006) (by decide +kernel)), by decide +kernel⟩
theorem ok_X8_lost : am_ok mX8_lost 0 := ⟨co_X8_lost, in_X8, ⟨by decide +kernel, by decide +kernel⟩, by decide +kernel, by decide, by decide +kernel⟩
theorem co_X8_bits : am_T (.code yX8_bits cX8_bits 3 (some .int)) := ⟨List.mem_append_right _ (List.mem_of_getElem? (i := 975) (by decide +kernel)), by decide +kernel⟩
theorem ok_X8_bits : am_ok mX8_bits 1 := ⟨co_X8_bits, in_X8, ⟨by decide +kernel, by decide +kernel⟩, by decide +kernel, by decide, by decide +kernel⟩
theorem co_X8_share : am_T (.code yX8_share cX8_share 11 (some .long)) := ⟨List.mem_append_right _ (List.mem_of_getElem? (i := 1010) (by decide +kernel)), by decide +kernel⟩
theorem ok_X8_share : am_ok mX8_share 3 := ⟨co_X8_share, in_X8, ⟨by decide +kernel, by decide +kernel⟩, by decide +kernel, by decide, by decide +kernel⟩
theorem co_X8_refused : am_T (.code yX8_refused cX8_refused 2 (some .int)) := ⟨List.mem_append_right _ (List.mem_of_getElem? (i := 803) (by decide +kernel)), by decide +kernel⟩
theorem ok_X8_refused : am_ok mX8_refused 1 := ⟨co_X8_refused, in_X8, ⟨by decide +kernel, by decide +kernel⟩, by decide +kernel, by decide, by decide +kernel⟩
theorem co_X8_failed : am_T (.code yX8_failed cX8_failed 2 (some .int)) := ⟨List.mem_append_right _ (List.mem_of_getElem? (i := 812) (by decide +kernel)), by decide +kernel⟩
theorem ok_X8_failed : am_ok mX8_failed 1 := ⟨co_X8_failed, in_X8, ⟨by decide +kernel, by decide +kernel⟩, by decide +kernel, by decide, by decide +kernel⟩
theorem co_X8_failedLong : am_T (.code yX8_failedLong cX8_failedLong 2 (some .long)) := ⟨List.mem_append_right _ (List.mem_of_getElem? (i := 1034) (by decide +kernel)), by decide +kernel⟩
theorem ok_X8_failedLong : am_ok mX8_failedLong 1 := ⟨co_X8_failedLong, in_X8, ⟨by decide +kernel, by decide +kernel⟩, by decide +kernel, by decide, by decide +kernel⟩
theorem co_X8_noPlace : am_T (.code yX8_noPlace cX8_noPlace 2 (some .boolean)) := ⟨List.mem_append_right _ (List.mem_of_getElem? (i := 836) (by decide +kernel)), by decide +kernel⟩
theorem ok_X8_noPlace : am_ok mX8_noPlace 1 := ⟨co_X8_noPlace, in_X8, ⟨by decide +kernel, by decide +kernel⟩, by decide +kernel, by decide, by decide +kernel⟩
theorem co_X8_codeAt : am_T (.code yX8_codeAt cX8_codeAt 3 (some .int)) := ⟨List.mem_append_right _ (List.mem_of_getElem? (i := 823) (by decide +kernel)), by decide +kernel⟩
theorem ok_X8_codeAt : am_ok mX8_codeAt 2 := ⟨co_X8_codeAt, in_X8, ⟨by decide +kernel, by decide +kernel⟩, by decide +kernel, by decide, by decide +kernel⟩
theorem co_X8_readsPlace : am_T (.code yX8_readsPlace cX8_readsPlace 5 (some .boolean)) := ⟨List.mem_append_right _ (List.mem_of_getElem? (i := 828) (by decide +kernel)), by decide +kernel⟩
theorem ok_X8_readsPlace : am_ok mX8_readsPlace 2 := ⟨co_X8_readsPlace, in_X8, ⟨by decide +kernel, by decide +kernel⟩, by decide +kernel, by decide, by decide +kernel⟩
theorem co_X8_readsRing : am_T (.code yX8_readsRing cX8_readsRing 4 (some .boolean)) := ⟨List.mem_append_right _ (List.mem_of_getElem? (i := 819) (by decide +kernel)), by decide +kernel⟩
theorem ok_X8_readsRing : am_ok mX8_readsRing 2 := ⟨co_X8_readsRing, in_X8, ⟨by decide +kernel, by decide +kernel⟩, by decide +kernel, by decide, by decide +kernel⟩
theorem co_X8_cellsBarred : am_T (.code yX8_cellsBarred cX8_cellsBarred 6 (some .int)) := ⟨List.mem_append_right _ (List.mem_of_getElem? (i := 808) (by decide +kernel)), by decide +kernel⟩
theorem ok_X8_cellsBarred : am_ok mX8_cellsBarred 4 := ⟨co_X8_cellsBarred, in_X8, ⟨by decide +kernel, by decide +kernel⟩, by decide +kernel, by decide, by decide +kernel⟩
theorem co_X8_ring : am_T (.code yX8_ring cX8_ring 7 (some .int)) := ⟨List.mem_append_right _ (List.mem_of_getElem? (i := 792) (by decide +kernel)), by decide +kernel⟩
theorem ok_X8_ring : am_ok mX8_ring 4 := ⟨co_X8_ring, in_X8, ⟨by decide +kernel, by decide +kernel⟩, by decide +kernel, by decide, by decide +kernel⟩
theorem co_X8_apart : am_T (.code yX8_apart cX8_apart 2 (some .int)) := ⟨List.mem_append_right _ (List.mem_of_getElem? (i := 847) (by decide +kernel)), by decide +kernel⟩
theorem ok_X8_apart : am_ok mX8_apart 2 := ⟨co_X8_apart, in_X8, ⟨by decide +kernel, by decide +kernel⟩, by decide +kernel, by decide, by decide +kernel⟩
theorem co_X8_becomes : am_T (.code yX8_becomes cX8_becomes 4 (some .int)) := ⟨List.mem_append_right _ (List.mem_of_getElem? (i := 844) (by decide +kernel)), by decide +kernel⟩
theorem ok_X8_becomes : am_ok mX8_becomes 1 := ⟨co_X8_becomes, in_X8, ⟨by decide +kernel, by decide +kernel⟩, by decide +kernel, by decide, by decide +kernel⟩
theorem co_X8_stepsOnce : am_T (.code yX8_stepsOnce cX8_stepsOnce 2 none) := ⟨List.mem_append_right _ (List.mem_of_getElem? (i := 868) (by decide +kernel)), by decide +kernel⟩
theorem ok_X8_stepsOnce : am_ok mX8_stepsOnce 0 := ⟨co_X8_stepsOnce, in_X8, ⟨by decide +kernel, by decide +kernel⟩, by decide +kernel, by decide, by decide +kernel⟩
theorem co_X8_takesNow : am_T (.code yX8_takesNow cX8_takesNow 2 none) := ⟨List.mem_append_right _ (List.mem_of_getElem? (i := 840) (by decide +kernel)), by decide +kernel⟩
theorem ok_X8_takesNow : am_ok mX8_takesNow 0 := ⟨co_X8_takesNow, in_X8, ⟨by decide +kernel, by decide +kernel⟩, by decide +kernel, by decide, by decide +kernel⟩
theorem co_X8_takesRow : am_T (.code yX8_takesRow cX8_takesRow 4 none) := ⟨List.mem_append_right _ (List.mem_of_getElem? (i := 897) (by decide +kernel)), by decide +kernel⟩
theorem ok_X8_takesRow : am_ok mX8_takesRow 1 := ⟨co_X8_takesRow, in_X8, ⟨by decide +kernel, by decide +kernel⟩, by decide +kernel, by decide, by decide +kernel⟩
theorem co_X8_rowAt : am_T (.code yX8_rowAt cX8_rowAt 3 (some .int)) := ⟨List.mem_append_right _ (List.mem_of_getElem? (i := 885) (by decide +kernel)), by decide +kernel⟩
theorem ok_X8_rowAt : am_ok mX8_rowAt 0 := ⟨co_X8_rowAt, in_X8, ⟨by decide +kernel, by decide +kernel⟩, by decide +kernel, by decide, by decide +kernel⟩
theorem co_X8_rowNow : am_T (.code yX8_rowNow cX8_rowNow 1 (some .int)) := ⟨List.mem_append_right _ (List.mem_of_getElem? (i := 881) (by decide +kernel)), by decide +kernel⟩
theorem ok_X8_rowNow : am_ok mX8_rowNow 0 := ⟨co_X8_rowNow, in_X8, ⟨by decide +kernel, by decide +kernel⟩, by decide +kernel, by decide, by decide +kernel⟩
theorem co_X8_allRows : am_T (.code yX8_allRows cX8_allRows 3 (some .int)) := ⟨List.mem_append_right _ (List.mem_of_getElem? (i := 893) (by decide +kernel)), by decide +kernel⟩
theorem ok_X8_allRows : am_ok mX8_allRows 0 := ⟨co_X8_allRows, in_X8, ⟨by decide +kernel, by decide +kernel⟩, by decide +kernel, by decide, by decide +kernel⟩
theorem co_X8_ofPlace : am_T (.code yX8_ofPlace cX8_ofPlace 3 (some .int)) := ⟨List.mem_append_right _ (List.mem_of_getElem? (i := 832) (by decide +kernel)), by decide +kernel⟩
theorem ok_X8_ofPlace : am_ok mX8_ofPlace 2 := ⟨co_X8_ofPlace, in_X8, ⟨by decide +kernel, by decide +kernel⟩, by decide +kernel, by decide, by decide +kernel⟩
theorem co_X8_isNumber : am_T (.code yX8_isNumber cX8_isNumber 2 (some .boolean)) := ⟨List.mem_append_right _ (List.mem_of_getElem? (i := 855) (by decide +kernel)), by decide +kernel⟩
theorem ok_X8_isNumber : am_ok mX8_isNumber 1 := ⟨co_X8_isNumber, in_X8, ⟨by decide +kernel, by decide +kernel⟩, by decide +kernel, by decide, by decide +kernel⟩
theorem co_X8_write : am_T (.code yX8_write cX8_write 4 (some .int)) := ⟨List.mem_append_right _ (List.mem_of_getElem? (i := 851) (by decide +kernel)), by decide +kernel⟩
theorem ok_X8_write : am_ok mX8_write 2 := ⟨co_X8_write, in_X8, ⟨by decide +kernel, by decide +kernel⟩, by decide +kernel, by decide, by decide +kernel⟩
theorem co_X8_zeros : am_T (.code yX8_zeros cX8_zeros 3 (some .int)) := ⟨List.mem_append_right _ (List.mem_of_getElem? (i := 872) (by decide +kernel)), by decide +kernel⟩
theorem ok_X8_zeros : am_ok mX8_zeros 0 := ⟨co_X8_zeros, in_X8, ⟨by decide +kernel, by decide +kernel⟩, by decide +kernel, by decide, by decide +kernel⟩
theorem co_X8_doesSteps : am_T (.code yX8_doesSteps cX8_doesSteps 3 none) := ⟨List.mem_append_right _ (List.mem_of_getElem? (i := 864) (by decide +kernel)), by decide +kernel⟩
theorem ok_X8_doesSteps : am_ok mX8_doesSteps 1 := ⟨co_X8_doesSteps, in_X8, ⟨by decide +kernel, by decide +kernel⟩, by decide +kernel, by decide, by decide +kernel⟩
theorem co_X8_steps : am_T (.code yX8_steps cX8_steps 2 (some .int)) := ⟨List.mem_append_right _ (List.mem_of_getElem? (i := 859) (by decide +kernel)), by decide +kernel⟩
theorem ok_X8_steps : am_ok mX8_steps 1 := ⟨co_X8_steps, in_X8, ⟨by decide +kernel, by decide +kernel⟩, by decide +kernel, by decide, by decide +kernel⟩
theorem co_X8_takesAway : am_T (.code yX8_takesAway cX8_takesAway 2 none) := ⟨List.mem_append_right _ (List.mem_of_getElem? (i := 901) (by decide +kernel)), by decide +kernel⟩
theorem ok_X8_takesAway : am_ok mX8_takesAway 1 := ⟨co_X8_takesAway, in_X8, ⟨by decide +kernel, by decide +kernel⟩, by decide +kernel, by decide, by decide +kernel⟩
theorem co_X8_tables : am_T (.code yX8_tables cX8_tables 4 none) := ⟨List.mem_append_right _ (List.mem_of_getElem? (i := 889) (by decide +kernel)), by decide +kernel⟩
theorem ok_X8_tables : am_ok mX8_tables 0 := ⟨co_X8_tables, in_X8, ⟨by decide +kernel, by decide +kernel⟩, by decide +kernel, by decide, by decide +kernel⟩
theorem co_X8_roundFrom : am_T (.code yX8_roundFrom cX8_roundFrom 4 (some .int)) := ⟨List.mem_append_right _ (List.mem_of_getElem? (i := 913) (by decide +kernel)), by decide +kernel⟩
theorem ok_X8_roundFrom : am_ok mX8_roundFrom 1 := ⟨co_X8_roundFrom, in_X8, ⟨by decide +kernel, by decide +kernel⟩, by decide +kernel, by decide, by decide +kernel⟩
theorem co_X8_behind : am_T (.code yX8_behind cX8_behind 7 (some .int)) := ⟨List.mem_append_right _ (List.mem_of_getElem? (i := 909) (by decide +kernel)), by decide +kernel⟩
theorem ok_X8_behind : am_ok mX8_behind 2 := ⟨co_X8_behind, in_X8, ⟨by decide +kernel, by decide +kernel⟩, by decide +kernel, by decide, by decide +kernel⟩
theorem co_X8_roundOf : am_T (.code yX8_roundOf cX8_roundOf 2 (some .int)) := ⟨List.mem_append_right _ (List.mem_of_getElem? (i := 905) (by decide +kernel)), by decide +kernel⟩
theorem ok_X8_roundOf : am_ok mX8_roundOf 1 := ⟨co_X8_roundOf, in_X8, ⟨by decide +kernel, by decide +kernel⟩, by decide +kernel, by decide, by decide +kernel⟩
theorem co_X8_after : am_T (.code yX8_after cX8_after 7 (some .int)) := ⟨List.mem_append_right _ (List.mem_of_getElem? (i := 876) (by decide +kernel)), by decide +kernel⟩
theorem ok_X8_after : am_ok mX8_after 2 := ⟨co_X8_after, in_X8, ⟨by decide +kernel, by decide +kernel⟩, by decide +kernel, by decide, by decide +kernel⟩
theorem co_X8_sumNow : am_T (.code yX8_sumNow cX8_sumNow 3 (some .int)) := ⟨List.mem_append_right _ (List.mem_of_getElem? (i := 935) (by decide +kernel)), by decide +kernel⟩
theorem ok_X8_sumNow : am_ok mX8_sumNow 0 := ⟨co_X8_sumNow, in_X8, ⟨by decide +kernel, by decide +kernel⟩, by decide +kernel, by decide, by decide +kernel⟩
theorem co_X8_doesPair : am_T (.code yX8_doesPair cX8_doesPair 3 (some .boolean)) := ⟨List.mem_append_right _ (List.mem_of_getElem? (i := 930) (by decide +kernel)), by decide +kernel⟩
theorem ok_X8_doesPair : am_ok mX8_doesPair 2 := ⟨co_X8_doesPair, in_X8, ⟨by decide +kernel, by decide +kernel⟩, by decide +kernel, by decide, by decide +kernel⟩
theorem co_X8_tailNow : am_T (.code yX8_tailNow cX8_tailNow 2 (some .int)) := ⟨List.mem_append_right _ (List.mem_of_getElem? (i := 939) (by decide +kernel)), by decide +kernel⟩
theorem ok_X8_tailNow : am_ok mX8_tailNow 0 := ⟨co_X8_tailNow, in_X8, ⟨by decide +kernel, by decide +kernel⟩, by decide +kernel, by decide, by decide +kernel⟩
theorem co_X8_dayOf : am_T (.code yX8_dayOf cX8_dayOf 6 (some .int)) := ⟨List.mem_append_right _ (List.mem_of_getElem? (i := 926) (by decide +kernel)), by decide +kernel⟩
theorem ok_X8_dayOf : am_ok mX8_dayOf 3 := ⟨co_X8_dayOf, in_X8, ⟨by decide +kernel, by decide +kernel⟩, by decide +kernel, by decide, by decide +kernel⟩
theorem co_X8_day : am_T (.code yX8_day cX8_day 11 (some .int)) := ⟨List.mem_append_right _ (List.mem_of_getElem? (i := 917) (by decide +kernel)), by decide +kernel⟩
theorem ok_X8_day : am_ok mX8_day 5 := ⟨co_X8_day, in_X8, ⟨by decide +kernel, by decide +kernel⟩, by decide +kernel, by decide, by decide +kernel⟩
theorem co_X8_now : am_T (.code yX8_now cX8_now 3 (some .int)) := ⟨List.mem_append_right _ (List.mem_of_getElem? (i := 943) (by decide +kernel)), by decide +kernel⟩
theorem ok_X8_now : am_ok mX8_now 1 := ⟨co_X8_now, in_X8, ⟨by decide +kernel, by decide +kernel⟩, by decide +kernel, by decide, by decide +kernel⟩
theorem co_X8_from : am_T (.code yX8_from cX8_from 6 (some .int)) := ⟨List.mem_append_right _ (List.mem_of_getElem? (i := 947) (by decide +kernel)), by decide +kernel⟩
theorem ok_X8_from : am_ok mX8_from 1 := ⟨co_X8_from, in_X8, ⟨by decide +kernel, by decide +kernel⟩, by decide +kernel, by decide, by decide +kernel⟩
theorem co_X8_rounds : am_T (.code yX8_rounds cX8_rounds 6 (some .int)) := ⟨List.mem_append_right _ (List.mem_of_getElem? (i := 956) (by decide +kernel)), by decide +kernel⟩
theorem ok_X8_rounds : am_ok mX8_rounds 0 := ⟨co_X8_rounds, in_X8, ⟨by decide +kernel, by decide +kernel⟩, by decide +kernel, by decide, by decide +kernel⟩
theorem co_X8_rows : am_T (.code yX8_rows cX8_rows 6 (some .int)) := ⟨List.mem_append_right _ (List.mem_of_getElem? (i := 952) (by decide +kernel)), by decide +kernel⟩
theorem ok_X8_rows : am_ok mX8_rows 1 := ⟨co_X8_rows, in_X8, ⟨by decide +kernel, by decide +kernel⟩, by decide +kernel, by decide, by decide +kernel⟩
theorem co_X8_longest : am_T (.code yX8_longest cX8_longest 4 (some .int)) := ⟨List.mem_append_right _ (List.mem_of_getElem? (i := 960) (by decide +kernel)), by decide +kernel⟩
theorem ok_X8_longest : am_ok mX8_longest 1 := ⟨co_X8_longest, in_X8, ⟨by decide +kernel, by decide +kernel⟩, by decide +kernel, by decide, by decide +kernel⟩
theorem co_X8_meet : am_T (.code yX8_meet cX8_meet 8 (some .int)) := ⟨List.mem_append_right _ (List.mem_of_getElem? (i := 964) (by decide +kernel)), by decide +kernel⟩
theorem ok_X8_meet : am_ok mX8_meet 3 := ⟨co_X8_meet, in_X8, ⟨by decide +kernel, by decide +kernel⟩, by decide +kernel, by decide, by decide +kernel⟩
theorem co_X8_unlikeNow : am_T (.code yX8_unlikeNow cX8_unlikeNow 4 (some .int)) := ⟨List.mem_append_right _ (List.mem_of_getElem? (i := 972) (by decide +kernel)), by decide +kernel⟩
theorem ok_X8_unlikeNow : am_ok mX8_unlikeNow 1 := ⟨co_X8_unlikeNow, in_X8, ⟨by decide +kernel, by decide +kernel⟩, by decide +kernel, by decide, by decide +kernel⟩
theorem co_X8_few : am_T (.code yX8_few cX8_few 6 (some .int)) := ⟨List.mem_append_right _ (List.mem_of_getElem? (i := 968) (by decide +kernel)), by decide +kernel⟩
theorem ok_X8_few : am_ok mX8_few 1 := ⟨co_X8_few, in_X8, ⟨by decide +kernel, by decide +kernel⟩, by decide +kernel, by decide, by decide +kernel⟩
theorem co_X8_reading : am_T (.code yX8_reading cX8_reading 4 (some .int)) := ⟨List.mem_append_right _ (List.mem_of_getElem? (i := 979) (by decide +kernel)), by decide +kernel⟩
theorem ok_X8_reading : am_ok mX8_reading 3 := ⟨co_X8_reading, in_X8, ⟨by decide +kernel, by decide +kernel⟩, by decide +kernel, by decide, by decide +kernel⟩
theorem co_X8_back : am_T (.code yX8_back cX8_back 2 (some .int)) := ⟨List.mem_append_right _ (List.mem_of_getElem? (i := 983) (by decide +kernel)), by decide +kernel⟩
theorem ok_X8_back : am_ok mX8_back 1 := ⟨co_X8_back, in_X8, ⟨by decide +kernel, by decide +kernel⟩, by decide +kernel, by decide, by decide +kernel⟩
theorem co_X8_isSo : am_T (.code yX8_isSo cX8_isSo 3 (some .boolean)) := ⟨List.mem_append_right _ (List.mem_of_getElem? (i := 995) (by decide +kernel)), by decide +kernel⟩
theorem ok_X8_isSo : am_ok mX8_isSo 1 := ⟨co_X8_isSo, in_X8, ⟨by decide +kernel, by decide +kernel⟩, by decide +kernel, by decide, by decide +kernel⟩
theorem co_X8_areSo : am_T (.code yX8_areSo cX8_areSo 3 (some .boolean)) := ⟨List.mem_append_right _ (List.mem_of_getElem? (i := 991) (by decide +kernel)), by decide +kernel⟩
theorem ok_X8_areSo : am_ok mX8_areSo 0 := ⟨co_X8_areSo, in_X8, ⟨by decide +kernel, by decide +kernel⟩, by decide +kernel, by decide, by decide +kernel⟩
theorem co_X8_kinds : am_T (.code yX8_kinds cX8_kinds 5 (some .int)) := ⟨List.mem_append_right _ (List.mem_of_getElem? (i := 987) (by decide +kernel)), by decide +kernel⟩
theorem ok_X8_kinds : am_ok mX8_kinds 1 := ⟨co_X8_kinds, in_X8, ⟨by decide +kernel, by decide +kernel⟩, by decide +kernel, by decide, by decide +kernel⟩
theorem co_X8_firsts : am_T (.code yX8_firsts cX8_firsts 5 (some .int)) := ⟨List.mem_append_right _ (List.mem_of_getElem? (i := 999) (by decide +kernel)), by decide +kernel⟩
theorem ok_X8_firsts : am_ok mX8_firsts 1 := ⟨co_X8_firsts, in_X8, ⟨by decide +kernel, by decide +kernel⟩, by decide +kernel, by decide, by decide +kernel⟩
theorem co_X8_odds : am_T (.code yX8_odds cX8_odds 8 (some .long)) := ⟨List.mem_append_right _ (List.mem_of_getElem? (i := 1003) (by decide +kernel)), by decide +kernel⟩
theorem ok_X8_odds : am_ok mX8_odds 4 := ⟨co_X8_odds, in_X8, ⟨by decide +kernel, by decide +kernel⟩, by decide +kernel, by decide, by decide +kernel⟩
theorem co_X8_noSheet : am_T (.code yX8_noSheet cX8_noSheet 1 (some .boolean)) := ⟨List.mem_append_right _ (List.mem_of_getElem? (i := 795) (by decide +kernel)), by decide +kernel⟩
theorem ok_X8_noSheet : am_ok mX8_noSheet 1 := ⟨co_X8_noSheet, in_X8, ⟨by decide +kernel, by decide +kernel⟩, by decide +kernel, by decide, by decide +kernel⟩
theorem co_X8_sheet : am_T (.code yX8_sheet cX8_sheet 5 (some .int)) := ⟨List.mem_append_right _ (List.mem_of_getElem? (i := 1014) (by decide +kernel)), by decide +kernel⟩
theorem ok_X8_sheet : am_ok mX8_sheet 3 := ⟨co_X8_sheet, in_X8, ⟨by decide +kernel, by decide +kernel⟩, by decide +kernel, by decide, by decide +kernel⟩
theorem co_X8_lose : am_T (.code yX8_lose cX8_lose 3 (some .int)) := ⟨List.mem_append_right _ (List.mem_of_getElem? (i := 1018) (by decide +kernel)), by decide +kernel⟩
theorem ok_X8_lose : am_ok mX8_lose 1 := ⟨co_X8_lose, in_X8, ⟨by decide +kernel, by decide +kernel⟩, by decide +kernel, by decide, by decide +kernel⟩
theorem co_X8_noCell : am_T (.code yX8_noCell cX8_noCell 3 (some .int)) := ⟨List.mem_append_right _ (List.mem_of_getElem? (i := 1026) (by decide +kernel)), by decide +kernel⟩
theorem ok_X8_noCell : am_ok mX8_noCell 2 := ⟨co_X8_noCell, in_X8, ⟨by decide +kernel, by decide +kernel⟩, by decide +kernel, by decide, by decide +kernel⟩
theorem co_X8_put : am_T (.code yX8_put cX8_put 4 (some .int)) := ⟨List.mem_append_right _ (List.mem_of_getElem? (i := 1022) (by decide +kernel)), by decide +kernel⟩
theorem ok_X8_put : am_ok mX8_put 3 := ⟨co_X8_put, in_X8, ⟨by decide +kernel, by decide +kernel⟩, by decide +kernel, by decide, by decide +kernel⟩
theorem co_X8_cell : am_T (.code yX8_cell cX8_cell 4 (some .long)) := ⟨List.mem_append_right _ (List.mem_of_getElem? (i := 1030) (by decide +kernel)), by decide +kernel⟩
theorem ok_X8_cell : am_ok mX8_cell 3 := ⟨co_X8_cell, in_X8, ⟨by decide +kernel, by decide +kernel⟩, by decide +kernel, by decide, by decide +kernel⟩
theorem co_X8_isBeyond : am_T (.code yX8_isBeyond cX8_isBeyond 4 (some .boolean)) := ⟨List.mem_append_right _ (List.mem_of_getElem? (i := 815) (by decide +kernel)), by decide +kernel⟩
theorem ok_X8_isBeyond : am_ok mX8_isBeyond 3 := ⟨co_X8_isBeyond, in_X8, ⟨by decide +kernel, by decide +kernel⟩, by decide +kernel, by decide, by decide +kernel⟩
theorem co_X8_copy : am_T (.code yX8_copy cX8_copy 7 (some .int)) := ⟨List.mem_append_right _ (List.mem_of_getElem? (i := 1038) (by decide +kernel)), by decide +kernel⟩
theorem ok_X8_copy : am_ok mX8_copy 5 := ⟨co_X8_copy, in_X8, ⟨by decide +kernel, by decide +kernel⟩, by decide +kernel, by decide, by decide +kernel⟩
theorem co_X8_traced : am_T (.code yX8_traced cX8_traced 2 none) := ⟨List.mem_append_right _ (List.mem_of_getElem? (i := 1046) (by decide +kernel)), by decide +kernel⟩
theorem ok_X8_traced : am_ok mX8_traced 1 := ⟨co_X8_traced, in_X8, ⟨by decide +kernel, by decide +kernel⟩, by decide +kernel, by decide, by decide +kernel⟩
theorem co_X8_tell : am_T (.code yX8_tell cX8_tell 4 (some .int)) := ⟨List.mem_append_right _ (List.mem_of_getElem? (i := 1042) (by decide +kernel)), by decide +kernel⟩
theorem ok_X8_tell : am_ok mX8_tell 1 := ⟨co_X8_tell, in_X8, ⟨by decide +kernel, by decide +kernel⟩, by decide +kernel, by decide, by decide +kernel⟩
theorem co_X8_call : am_T (.code yX8_call cX8_call 2 (some .int)) := ⟨List.mem_append_right _ (List.mem_of_getElem? (i := 1050) (by decide +kernel)), by decide +kernel⟩
theorem ok_X8_call : am_ok mX8_call 1 := ⟨co_X8_call, in_X8, ⟨by decide +kernel, by decide +kernel⟩, by decide +kernel, by decide, by decide +kernel⟩
theorem co_X8_as : am_T (.code yX8_as cX8_as 3 (some .int)) := ⟨List.mem_append_right _ (List.mem_of_getElem? (i := 1054) (by decide +kernel)), by decide +kernel⟩
theorem ok_X8_as : am_ok mX8_as 2 := ⟨co_X8_as, in_X8, ⟨by decide +kernel, by decide +kernel⟩, by decide +kernel, by decide, by decide +kernel⟩
theorem co_X8_trace : am_T (.code yX8_trace cX8_trace 1 (some .int)) := ⟨List.mem_append_right _ (List.mem_of_getElem? (i := 1058) (by decide +kernel)), by decide +kernel⟩
theorem ok_X8_trace : am_ok mX8_trace 0 := ⟨co_X8_trace, in_X8, ⟨by decide +kernel, by decide +kernel⟩, by decide +kernel, by decide, by decide +kernel⟩
theorem co_X8_fault : am_T (.code yX8_fault cX8_fault 1 (some .int)) := ⟨List.mem_append_right _ (List.mem_of_getElem? (i := 1062) (by decide +kernel)), by decide +kernel⟩
theorem ok_X8_fault : am_ok mX8_fault 0 := ⟨co_X8_fault, in_X8, ⟨by decide +kernel, by decide +kernel⟩, by decide +kernel, by decide, by decide +kernel⟩
theorem co_X8_many : am_T (.code yX8_many cX8_many 2 (some .int)) := ⟨List.mem_append_right _ (List.mem_of_getElem? (i := 1066) (by decide +kernel)), by decide +kernel⟩
theorem ok_X8_many : am_ok mX8_many 1 := ⟨co_X8_many, in_X8, ⟨by decide +kernel, by decide +kernel⟩, by decide +kernel, by decide, by decide +kernel⟩
theorem co_J6_bitCount_0f7a4 : am_T (.code yJ6_bitCount_0f7a4 cJ6_bitCount_0f7a4 1 (some .int)) := ⟨List.mem_append_right _ (List.mem_of_getElem? (i := 526) (by decide +kernel)), by decide +kernel⟩
theorem ok_J6_bitCount_0f7a4 : am_ok mJ6_bitCount_0f7a4 1 := ⟨co_J6_bitCount_0f7a4, in_J6, ⟨by decide +kernel, by decide +kernel⟩, by decide +kernel, by decide, by decide +kernel⟩
theorem co_J9_abs_0f7a4 : am_T (.code yJ9_abs_0f7a4 cJ9_abs_0f7a4 1 (some .int)) := ⟨List.mem_append_right _ (List.mem_of_getElem? (i := 300) (by decide +kernel)), by decide +kernel⟩
theorem co_J9_max_7cf53 : am_T (.code yJ9_max_7cf53 cJ9_max_7cf53 2 (some .int)) := ⟨List.mem_append_right _ (List.mem_of_getElem? (i := 560) (by decide +kernel)), by decide +kernel⟩
theorem co_J9_min_7cf53 : am_T (.code yJ9_min_7cf53 cJ9_min_7cf53 2 (some .int)) := ⟨List.mem_append_right _ (List.mem_of_getElem? (i := 273) (by decide +kernel)), by decide +kernel⟩
theorem co_J7_fill_53178 : am_T (.code yJ7_fill_53178 cJ7_fill_53178 4 none) := ⟨List.mem_append_right _ (List.mem_of_getElem? (i := 353) (by decide +kernel)), by decide +kernel⟩
theorem ok_J7_fill_53178 : am_ok mJ7_fill_53178 2 := ⟨co_J7_fill_53178, in_J7, ⟨by decide +kernel, by decide +kernel⟩, by decide +kernel, by decide, by decide +kernel⟩
theorem cl_L_7 : am_T (.classLink RL 7 RX7) := ⟨List.mem_append_right _ (List.mem_of_getElem? (i := 14) (by decide +kernel)), by decide +kernel⟩
theorem cl_X7_11 : am_T (.classLink RX7 11 RX4) := ⟨List.mem_append_right _ (List.mem_of_getElem? (i := 22) (by decide +kernel)), by decide +kernel⟩
theorem cl_X7_18 : am_T (.classLink RX7 18 RX3) := ⟨List.mem_append_right _ (List.mem_of_getElem? (i := 41) (by decide +kernel)), by decide +kernel⟩
theorem cl_X7_28 : am_T (.classLink RX7 28 RX0) := ⟨List.mem_append_right _ (List.mem_of_getElem? (i := 74) (by decide +kernel)), by decide +kernel⟩
theorem cl_X0_9 : am_T (.classLink RX0 9 RX3) := ⟨List.mem_append_right _ (List.mem_of_getElem? (i := 80) (by decide +kernel)), by decide +kernel⟩
theorem cl_X7_35 : am_T (.classLink RX7 35 RX5) := ⟨List.mem_append_right _ (List.mem_of_getElem? (i := 133) (by decide +kernel)), by decide +kernel⟩
theorem cl_X7_42 : am_T (.classLink RX7 42 RX2) := ⟨List.mem_append_right _ (List.mem_of_getElem? (i := 155) (by decide +kernel)), by decide +kernel⟩
theorem cl_X7_49 : am_T (.classLink RX7 49 RX1) := ⟨List.mem_append_right _ (List.mem_of_getElem? (i := 175) (by decide +kernel)), by decide +kernel⟩
theorem cl_L_10 : am_T (.classLink RL 10 RX8) := ⟨List.mem_append_right _ (List.mem_of_getElem? (i := 686) (by decide +kernel)), by decide +kernel⟩
theorem ia_X7 : am_T (.instantiable RX7 10) := ⟨List.mem_append_right _ (List.mem_of_getElem? (i := 15) (by decide +kernel)), by decide +kernel⟩
theorem ia_X4 : am_T (.instantiable RX4 3) := ⟨List.mem_append_right _ (List.mem_of_getElem? (i := 24) (by decide +kernel)), by decide +kernel⟩
theorem ia_X3 : am_T (.instantiable RX3 5) := ⟨List.mem_append_right _ (List.mem_of_getElem? (i := 42) (by decide +kernel)), by decide +kernel⟩
theorem ia_X0 : am_T (.instantiable RX0 14) := ⟨List.mem_append_right _ (List.mem_of_getElem? (i := 75) (by decide +kernel)), by decide +kernel⟩
theorem ia_X5 : am_T (.instantiable RX5 5) := ⟨List.mem_append_right _ (List.mem_of_getElem? (i := 134) (by decide +kernel)), by decide +kernel⟩
theorem ia_X2 : am_T (.instantiable RX2 4) := ⟨List.mem_append_right _ (List.mem_of_getElem? (i := 156) (by decide +kernel)), by decide +kernel⟩
theorem ia_X1 : am_T (.instantiable RX1 3) := ⟨List.mem_append_right _ (List.mem_of_getElem? (i := 176) (by decide +kernel)), by decide +kernel⟩
theorem ia_X8 : am_T (.instantiable RX8 32) := ⟨List.mem_append_right _ (List.mem_of_getElem? (i := 687) (by decide +kernel)), by decide +kernel⟩
theorem kc_J6_265 : am_T (.constant RJ6 265 1431655765) := ⟨List.mem_append_right _ (List.mem_of_getElem? (i := 527) (by decide +kernel)), by decide +kernel⟩
theorem kc_J6_266 : am_T (.constant RJ6 266 858993459) := ⟨List.mem_append_right _ (List.mem_of_getElem? (i := 528) (by decide +kernel)), by decide +kernel⟩
theorem kc_J6_267 : am_T (.constant RJ6 267 252645135) := ⟨List.mem_append_right _ (List.mem_of_getElem? (i := 529) (by decide +kernel)), by decide +kernel⟩
theorem kl_X7_126 : am_T (.constantLong RX7 126 (1000000000000000000)) := ⟨List.mem_append_right _ (List.mem_of_getElem? (i := 333) (by decide +kernel)), by decide +kernel⟩
theorem kl_X7_238 : am_T (.constantLong RX7 238 (-9223372036854775808)) := ⟨List.mem_append_right _ (List.mem_of_getElem? (i := 575) (by decide +kernel)), by decide +kernel⟩
theorem kl_X8_254 : am_T (.constantLong RX8 254 (3)) := ⟨List.mem_append_right _ (List.mem_of_getElem? (i := 796) (by decide +kernel)), by decide +kernel⟩
theorem kl_X8_97 : am_T (.constantLong RX8 97 (2)) := ⟨List.mem_append_right _ (List.mem_of_getElem? (i := 804) (by decide +kernel)), by decide +kernel⟩
theorem kl_X8_99 : am_T (.constantLong RX8 99 (6)) := ⟨List.mem_append_right _ (List.mem_of_getElem? (i := 824) (by decide +kernel)), by decide +kernel⟩
theorem kl_X8_158 : am_T (.constantLong RX8 158 (99)) := ⟨List.mem_append_right _ (List.mem_of_getElem? (i := 860) (by decide +kernel)), by decide +kernel⟩
theorem kl_X8_189 : am_T (.constantLong RX8 189 (1000000000000000000)) := ⟨List.mem_append_right _ (List.mem_of_getElem? (i := 877) (by decide +kernel)), by decide +kernel⟩
theorem kl_X8_218 : am_T (.constantLong RX8 218 (20)) := ⟨List.mem_append_right _ (List.mem_of_getElem? (i := 918) (by decide +kernel)), by decide +kernel⟩
theorem kl_X8_220 : am_T (.constantLong RX8 220 (4)) := ⟨List.mem_append_right _ (List.mem_of_getElem? (i := 919) (by decide +kernel)), by decide +kernel⟩
theorem kl_X8_222 : am_T (.constantLong RX8 222 (10)) := ⟨List.mem_append_right _ (List.mem_of_getElem? (i := 920) (by decide +kernel)), by decide +kernel⟩
theorem kl_X8_224 : am_T (.constantLong RX8 224 (14)) := ⟨List.mem_append_right _ (List.mem_of_getElem? (i := 921) (by decide +kernel)), by decide +kernel⟩
theorem kl_X8_226 : am_T (.constantLong RX8 226 (5)) := ⟨List.mem_append_right _ (List.mem_of_getElem? (i := 922) (by decide +kernel)), by decide +kernel⟩
theorem kl_X8_232 : am_T (.constantLong RX8 232 (-1)) := ⟨List.mem_append_right _ (List.mem_of_getElem? (i := 948) (by decide +kernel)), by decide +kernel⟩
theorem kl_X8_67 : am_T (.constantLong RX8 67 (-9223372036854775808)) := ⟨List.mem_append_right _ (List.mem_of_getElem? (i := 1007) (by decide +kernel)), by decide +kernel⟩
theorem kl_L_32 : am_T (.constantLong RL 32 (4294967295)) := ⟨List.mem_append_right _ (List.mem_of_getElem? (i := 1067) (by decide +kernel)), by decide +kernel⟩
theorem ao_in : Cond.arrayOver (.object RX4) ∈ lw_tbl := List.mem_append_right _ (List.mem_of_getElem? (i := 23) (by decide +kernel))
theorem ac_int : am_T (.arrayClass .int) := ⟨List.mem_append_right _ (List.mem_of_getElem? (i := 40) (by decide +kernel)), by decide +kernel⟩
theorem am_nest_in : ∀ w ∈ am_nest, w ∈ lw_tbl := fun w hw => List.mem_append_right _ (am_goodIn_r am_nest [25, 43, 76, 81, 135, 157, 177] (by decide +kernel) w hw)

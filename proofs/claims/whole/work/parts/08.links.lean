/-! Methods, and what calls and fields ask of the tables. -/
abbrev mX11_init : zM := (yX11_init, cX11_init, 3, none)
theorem ckX11_init : Cond.code yX11_init cX11_init 3 (none) ∈ big := big_in (List.mem_of_getElem? (i := 27) (by decide +kernel)) rfl
abbrev mX0_init : zM := (yX0_init, cX0_init, 1, none)
theorem ckX0_init : Cond.code yX0_init cX0_init 1 (none) ∈ big := big_in (List.mem_of_getElem? (i := 36) (by decide +kernel)) rfl
abbrev mX8_init : zM := (yX8_init, cX8_init, 1, none)
theorem ckX8_init : Cond.code yX8_init cX8_init 1 (none) ∈ big := big_in (List.mem_of_getElem? (i := 43) (by decide +kernel)) rfl
abbrev mX6_init : zM := (yX6_init, cX6_init, 1, none)
theorem ckX6_init : Cond.code yX6_init cX6_init 1 (none) ∈ big := big_in (List.mem_of_getElem? (i := 50) (by decide +kernel)) rfl
abbrev mX3_init : zM := (yX3_init, cX3_init, 1, none)
theorem ckX3_init : Cond.code yX3_init cX3_init 1 (none) ∈ big := big_in (List.mem_of_getElem? (i := 57) (by decide +kernel)) rfl
abbrev mX9_init : zM := (yX9_init, cX9_init, 1, none)
theorem ckX9_init : Cond.code yX9_init cX9_init 1 (none) ∈ big := big_in (List.mem_of_getElem? (i := 64) (by decide +kernel)) rfl
abbrev mX4_init : zM := (yX4_init, cX4_init, 1, none)
theorem ckX4_init : Cond.code yX4_init cX4_init 1 (none) ∈ big := big_in (List.mem_of_getElem? (i := 71) (by decide +kernel)) rfl
abbrev mX1_init : zM := (yX1_init, cX1_init, 1, none)
theorem ckX1_init : Cond.code yX1_init cX1_init 1 (none) ∈ big := big_in (List.mem_of_getElem? (i := 78) (by decide +kernel)) rfl
abbrev mX2_init : zM := (yX2_init, cX2_init, 1, none)
theorem ckX2_init : Cond.code yX2_init cX2_init 1 (none) ∈ big := big_in (List.mem_of_getElem? (i := 85) (by decide +kernel)) rfl
abbrev mX5_init : zM := (yX5_init, cX5_init, 2, none)
theorem ckX5_init : Cond.code yX5_init cX5_init 2 (none) ∈ big := big_in (List.mem_of_getElem? (i := 92) (by decide +kernel)) rfl
abbrev mX7_init : zM := (yX7_init, cX7_init, 1, none)
theorem ckX7_init : Cond.code yX7_init cX7_init 1 (none) ∈ big := big_in (List.mem_of_getElem? (i := 139) (by decide +kernel)) rfl
abbrev mX10_init : zM := (yX10_init, cX10_init, 1, none)
theorem ckX10_init : Cond.code yX10_init cX10_init 1 (none) ∈ big := big_in (List.mem_of_getElem? (i := 180) (by decide +kernel)) rfl
abbrev mX11_heap : zM := (yX11_heap, cX11_heap, 4, some .int)
theorem ckX11_heap : Cond.code yX11_heap cX11_heap 4 (some .int) ∈ big := big_in (List.mem_of_getElem? (i := 232) (by decide +kernel)) rfl
abbrev mX11_bytesRefusal : zM := (yX11_bytesRefusal, cX11_bytesRefusal, 3, some .int)
theorem ckX11_bytesRefusal : Cond.code yX11_bytesRefusal cX11_bytesRefusal 3 (some .int) ∈ big := big_in (List.mem_of_getElem? (i := 236) (by decide +kernel)) rfl
abbrev mX11_shelfRefusal : zM := (yX11_shelfRefusal, cX11_shelfRefusal, 3, some .int)
theorem ckX11_shelfRefusal : Cond.code yX11_shelfRefusal cX11_shelfRefusal 3 (some .int) ∈ big := big_in (List.mem_of_getElem? (i := 240) (by decide +kernel)) rfl
abbrev mX11_isShelf : zM := (yX11_isShelf, cX11_isShelf, 1, some .boolean)
theorem ckX11_isShelf : Cond.code yX11_isShelf cX11_isShelf 1 (some .boolean) ∈ big := big_in (List.mem_of_getElem? (i := 243) (by decide +kernel)) rfl
abbrev mX11_isWithin : zM := (yX11_isWithin, cX11_isWithin, 3, some .boolean)
theorem ckX11_isWithin : Cond.code yX11_isWithin cX11_isWithin 3 (some .boolean) ∈ big := big_in (List.mem_of_getElem? (i := 246) (by decide +kernel)) rfl
abbrev mX10_faultOfForm : zM := (yX10_faultOfForm, cX10_faultOfForm, 4, some .int)
theorem ckX10_faultOfForm : Cond.code yX10_faultOfForm cX10_faultOfForm 4 (some .int) ∈ big := big_in (List.mem_of_getElem? (i := 250) (by decide +kernel)) rfl
abbrev mX10_statementEnd : zM := (yX10_statementEnd, cX10_statementEnd, 3, some .int)
theorem ckX10_statementEnd : Cond.code yX10_statementEnd cX10_statementEnd 3 (some .int) ∈ big := big_in (List.mem_of_getElem? (i := 254) (by decide +kernel)) rfl
abbrev mX10_at : zM := (yX10_at, cX10_at, 2, some .int)
theorem ckX10_at : Cond.code yX10_at cX10_at 2 (some .int) ∈ big := big_in (List.mem_of_getElem? (i := 258) (by decide +kernel)) rfl
abbrev mX10_digitEnd : zM := (yX10_digitEnd, cX10_digitEnd, 2, some .int)
theorem ckX10_digitEnd : Cond.code yX10_digitEnd cX10_digitEnd 2 (some .int) ∈ big := big_in (List.mem_of_getElem? (i := 262) (by decide +kernel)) rfl
abbrev mX10_isDigit : zM := (yX10_isDigit, cX10_isDigit, 2, some .boolean)
theorem ckX10_isDigit : Cond.code yX10_isDigit cX10_isDigit 2 (some .boolean) ∈ big := big_in (List.mem_of_getElem? (i := 266) (by decide +kernel)) rfl
abbrev mX10_numberEnd : zM := (yX10_numberEnd, cX10_numberEnd, 3, some .int)
theorem ckX10_numberEnd : Cond.code yX10_numberEnd cX10_numberEnd 3 (some .int) ∈ big := big_in (List.mem_of_getElem? (i := 270) (by decide +kernel)) rfl
abbrev mX10_signEnd : zM := (yX10_signEnd, cX10_signEnd, 3, some .int)
theorem ckX10_signEnd : Cond.code yX10_signEnd cX10_signEnd 3 (some .int) ∈ big := big_in (List.mem_of_getElem? (i := 274) (by decide +kernel)) rfl
abbrev mX11_tellAll : zM := (yX11_tellAll, cX11_tellAll, 4, some .int)
theorem ckX11_tellAll : Cond.code yX11_tellAll cX11_tellAll 4 (some .int) ∈ big := big_in (List.mem_of_getElem? (i := 278) (by decide +kernel)) rfl
abbrev mX5_become : zM := (yX5_become, cX5_become, 2, none)
theorem ckX5_become : Cond.code yX5_become cX5_become 2 (none) ∈ big := big_in (List.mem_of_getElem? (i := 282) (by decide +kernel)) rfl
abbrev mX5_tell : zM := (yX5_tell, cX5_tell, 3, some .boolean)
theorem ckX5_tell : Cond.code yX5_tell cX5_tell 3 (some .boolean) ∈ big := big_in (List.mem_of_getElem? (i := 289) (by decide +kernel)) rfl
abbrev mX5_tellBowl : zM := (yX5_tellBowl, cX5_tellBowl, 8, some .boolean)
theorem ckX5_tellBowl : Cond.code yX5_tellBowl cX5_tellBowl 8 (some .boolean) ∈ big := big_in (List.mem_of_getElem? (i := 294) (by decide +kernel)) rfl
abbrev mX10_digitAt : zM := (yX10_digitAt, cX10_digitAt, 2, some .int)
theorem ckX10_digitAt : Cond.code yX10_digitAt cX10_digitAt 2 (some .int) ∈ big := big_in (List.mem_of_getElem? (i := 298) (by decide +kernel)) rfl
abbrev mX10_numberAt : zM := (yX10_numberAt, cX10_numberAt, 2, some .int)
theorem ckX10_numberAt : Cond.code yX10_numberAt cX10_numberAt 2 (some .int) ∈ big := big_in (List.mem_of_getElem? (i := 302) (by decide +kernel)) rfl
abbrev mX5_add : zM := (yX5_add, cX5_add, 6, some .boolean)
theorem ckX5_add : Cond.code yX5_add cX5_add 6 (some .boolean) ∈ big := big_in (List.mem_of_getElem? (i := 307) (by decide +kernel)) rfl
abbrev mX5_place : zM := (yX5_place, cX5_place, 6, none)
theorem ckX5_place : Cond.code yX5_place cX5_place 6 (none) ∈ big := big_in (List.mem_of_getElem? (i := 311) (by decide +kernel)) rfl
abbrev mX5_flip : zM := (yX5_flip, cX5_flip, 2, some .boolean)
theorem ckX5_flip : Cond.code yX5_flip cX5_flip 2 (some .boolean) ∈ big := big_in (List.mem_of_getElem? (i := 315) (by decide +kernel)) rfl
abbrev mX5_has : zM := (yX5_has, cX5_has, 2, some .boolean)
theorem ckX5_has : Cond.code yX5_has cX5_has 2 (some .boolean) ∈ big := big_in (List.mem_of_getElem? (i := 319) (by decide +kernel)) rfl
abbrev mX5_dropLatest : zM := (yX5_dropLatest, cX5_dropLatest, 1, some .boolean)
theorem ckX5_dropLatest : Cond.code yX5_dropLatest cX5_dropLatest 1 (some .boolean) ∈ big := big_in (List.mem_of_getElem? (i := 323) (by decide +kernel)) rfl
abbrev mX11_bowl : zM := (yX11_bowl, cX11_bowl, 3, some .int)
theorem ckX11_bowl : Cond.code yX11_bowl cX11_bowl 3 (some .int) ∈ big := big_in (List.mem_of_getElem? (i := 328) (by decide +kernel)) rfl
abbrev mX5_outsideAt : zM := (yX5_outsideAt, cX5_outsideAt, 3, some .int)
theorem ckX5_outsideAt : Cond.code yX5_outsideAt cX5_outsideAt 3 (some .int) ∈ big := big_in (List.mem_of_getElem? (i := 333) (by decide +kernel)) rfl
abbrev mX6_outside : zM := (yX6_outside, cX6_outside, 4, some .int)
theorem ckX6_outside : Cond.code yX6_outside cX6_outside 4 (some .int) ∈ big := big_in (List.mem_of_getElem? (i := 341) (by decide +kernel)) rfl
abbrev mJ9_max_7cf53 : zM := (yJ9_max_7cf53, cJ9_max_7cf53, 2, some .int)
theorem ckJ9_max_7cf53 : Cond.code yJ9_max_7cf53 cJ9_max_7cf53 2 (some .int) ∈ big := big_in (List.mem_of_getElem? (i := 345) (by decide +kernel)) rfl
abbrev mX4_outside : zM := (yX4_outside, cX4_outside, 4, some .int)
theorem ckX4_outside : Cond.code yX4_outside cX4_outside 4 (some .int) ∈ big := big_in (List.mem_of_getElem? (i := 349) (by decide +kernel)) rfl
abbrev mX8_outside : zM := (yX8_outside, cX8_outside, 4, some .int)
theorem ckX8_outside : Cond.code yX8_outside cX8_outside 4 (some .int) ∈ big := big_in (List.mem_of_getElem? (i := 356) (by decide +kernel)) rfl
abbrev mX9_outside : zM := (yX9_outside, cX9_outside, 4, some .int)
theorem ckX9_outside : Cond.code yX9_outside cX9_outside 4 (some .int) ∈ big := big_in (List.mem_of_getElem? (i := 360) (by decide +kernel)) rfl
abbrev mX0_outside : zM := (yX0_outside, cX0_outside, 4, some .int)
theorem ckX0_outside : Cond.code yX0_outside cX0_outside 4 (some .int) ∈ big := big_in (List.mem_of_getElem? (i := 362) (by decide +kernel)) rfl
abbrev mX5_insideAt : zM := (yX5_insideAt, cX5_insideAt, 4, some .int)
theorem ckX5_insideAt : Cond.code yX5_insideAt cX5_insideAt 4 (some .int) ∈ big := big_in (List.mem_of_getElem? (i := 366) (by decide +kernel)) rfl
abbrev mX3_inside : zM := (yX3_inside, cX3_inside, 5, some .int)
theorem ckX3_inside : Cond.code yX3_inside cX3_inside 5 (some .int) ∈ big := big_in (List.mem_of_getElem? (i := 373) (by decide +kernel)) rfl
abbrev mX6_inside : zM := (yX6_inside, cX6_inside, 5, some .int)
theorem ckX6_inside : Cond.code yX6_inside cX6_inside 5 (some .int) ∈ big := big_in (List.mem_of_getElem? (i := 377) (by decide +kernel)) rfl
abbrev mX4_inside : zM := (yX4_inside, cX4_inside, 5, some .int)
theorem ckX4_inside : Cond.code yX4_inside cX4_inside 5 (some .int) ∈ big := big_in (List.mem_of_getElem? (i := 381) (by decide +kernel)) rfl
abbrev mX8_inside : zM := (yX8_inside, cX8_inside, 5, some .int)
theorem ckX8_inside : Cond.code yX8_inside cX8_inside 5 (some .int) ∈ big := big_in (List.mem_of_getElem? (i := 386) (by decide +kernel)) rfl
abbrev mX0_inside : zM := (yX0_inside, cX0_inside, 5, some .int)
theorem ckX0_inside : Cond.code yX0_inside cX0_inside 5 (some .int) ∈ big := big_in (List.mem_of_getElem? (i := 389) (by decide +kernel)) rfl
abbrev mX5_riseOf : zM := (yX5_riseOf, cX5_riseOf, 2, some .int)
theorem ckX5_riseOf : Cond.code yX5_riseOf cX5_riseOf 2 (some .int) ∈ big := big_in (List.mem_of_getElem? (i := 393) (by decide +kernel)) rfl
abbrev mX1_rise : zM := (yX1_rise, cX1_rise, 2, some .int)
theorem ckX1_rise : Cond.code yX1_rise cX1_rise 2 (some .int) ∈ big := big_in (List.mem_of_getElem? (i := 400) (by decide +kernel)) rfl
abbrev mX3_rise : zM := (yX3_rise, cX3_rise, 2, some .int)
theorem ckX3_rise : Cond.code yX3_rise cX3_rise 2 (some .int) ∈ big := big_in (List.mem_of_getElem? (i := 403) (by decide +kernel)) rfl
abbrev mX2_rise : zM := (yX2_rise, cX2_rise, 2, some .int)
theorem ckX2_rise : Cond.code yX2_rise cX2_rise 2 (some .int) ∈ big := big_in (List.mem_of_getElem? (i := 407) (by decide +kernel)) rfl
abbrev mX6_rise : zM := (yX6_rise, cX6_rise, 2, some .int)
theorem ckX6_rise : Cond.code yX6_rise cX6_rise 2 (some .int) ∈ big := big_in (List.mem_of_getElem? (i := 410) (by decide +kernel)) rfl
abbrev mX0_rise : zM := (yX0_rise, cX0_rise, 2, some .int)
theorem ckX0_rise : Cond.code yX0_rise cX0_rise 2 (some .int) ∈ big := big_in (List.mem_of_getElem? (i := 417) (by decide +kernel)) rfl
abbrev mX11_comes : zM := (yX11_comes, cX11_comes, 6, some .int)
theorem ckX11_comes : Cond.code yX11_comes cX11_comes 6 (some .int) ∈ big := big_in (List.mem_of_getElem? (i := 421) (by decide +kernel)) rfl
abbrev mX11_areHairs : zM := (yX11_areHairs, cX11_areHairs, 1, some .boolean)
theorem ckX11_areHairs : Cond.code yX11_areHairs cX11_areHairs 1 (some .boolean) ∈ big := big_in (List.mem_of_getElem? (i := 424) (by decide +kernel)) rfl
abbrev mX11_bowlRefusal : zM := (yX11_bowlRefusal, cX11_bowlRefusal, 2, some .int)
theorem ckX11_bowlRefusal : Cond.code yX11_bowlRefusal cX11_bowlRefusal 2 (some .int) ∈ big := big_in (List.mem_of_getElem? (i := 428) (by decide +kernel)) rfl
abbrev mX11_warm : zM := (yX11_warm, cX11_warm, 3, some .int)
theorem ckX11_warm : Cond.code yX11_warm cX11_warm 3 (some .int) ∈ big := big_in (List.mem_of_getElem? (i := 433) (by decide +kernel)) rfl
abbrev mX11_isWarmth : zM := (yX11_isWarmth, cX11_isWarmth, 1, some .boolean)
theorem ckX11_isWarmth : Cond.code yX11_isWarmth cX11_isWarmth 1 (some .boolean) ∈ big := big_in (List.mem_of_getElem? (i := 436) (by decide +kernel)) rfl
abbrev mX11_turn : zM := (yX11_turn, cX11_turn, 2, some .int)
theorem ckX11_turn : Cond.code yX11_turn cX11_turn 2 (some .int) ∈ big := big_in (List.mem_of_getElem? (i := 440) (by decide +kernel)) rfl
abbrev mX11_lies : zM := (yX11_lies, cX11_lies, 3, some .int)
theorem ckX11_lies : Cond.code yX11_lies cX11_lies 3 (some .int) ∈ big := big_in (List.mem_of_getElem? (i := 445) (by decide +kernel)) rfl
abbrev mX11_arePair : zM := (yX11_arePair, cX11_arePair, 3, some .boolean)
theorem ckX11_arePair : Cond.code yX11_arePair cX11_arePair 3 (some .boolean) ∈ big := big_in (List.mem_of_getElem? (i := 449) (by decide +kernel)) rfl
abbrev mX5_isIn : zM := (yX5_isIn, cX5_isIn, 4, some .boolean)
theorem ckX5_isIn : Cond.code yX5_isIn cX5_isIn 4 (some .boolean) ∈ big := big_in (List.mem_of_getElem? (i := 453) (by decide +kernel)) rfl
abbrev mX5_agree : zM := (yX5_agree, cX5_agree, 4, some .boolean)
theorem ckX5_agree : Cond.code yX5_agree cX5_agree 4 (some .boolean) ∈ big := big_in (List.mem_of_getElem? (i := 457) (by decide +kernel)) rfl
abbrev mX8_minds : zM := (yX8_minds, cX8_minds, 1, some .boolean)
theorem ckX8_minds : Cond.code yX8_minds cX8_minds 1 (some .boolean) ∈ big := big_in (List.mem_of_getElem? (i := 469) (by decide +kernel)) rfl
abbrev mX0_minds : zM := (yX0_minds, cX0_minds, 1, some .boolean)
theorem ckX0_minds : Cond.code yX0_minds cX0_minds 1 (some .boolean) ∈ big := big_in (List.mem_of_getElem? (i := 471) (by decide +kernel)) rfl
abbrev mX11_nest : zM := (yX11_nest, cX11_nest, 2, some .int)
theorem ckX11_nest : Cond.code yX11_nest cX11_nest 2 (some .int) ∈ big := big_in (List.mem_of_getElem? (i := 477) (by decide +kernel)) rfl
abbrev mX11_areBowls : zM := (yX11_areBowls, cX11_areBowls, 2, some .boolean)
theorem ckX11_areBowls : Cond.code yX11_areBowls cX11_areBowls 2 (some .boolean) ∈ big := big_in (List.mem_of_getElem? (i := 481) (by decide +kernel)) rfl
abbrev mX5_all : zM := (yX5_all, cX5_all, 1, some .int)
theorem ckX5_all : Cond.code yX5_all cX5_all 1 (some .int) ∈ big := big_in (List.mem_of_getElem? (i := 485) (by decide +kernel)) rfl
abbrev mX5_heightOf : zM := (yX5_heightOf, cX5_heightOf, 6, some .int)
theorem ckX5_heightOf : Cond.code yX5_heightOf cX5_heightOf 6 (some .int) ∈ big := big_in (List.mem_of_getElem? (i := 489) (by decide +kernel)) rfl
abbrev mX5_arrange : zM := (yX5_arrange, cX5_arrange, 4, none)
theorem ckX5_arrange : Cond.code yX5_arrange cX5_arrange 4 (none) ∈ big := big_in (List.mem_of_getElem? (i := 493) (by decide +kernel)) rfl
abbrev mX11_height : zM := (yX11_height, cX11_height, 3, some .int)
theorem ckX11_height : Cond.code yX11_height cX11_height 3 (some .int) ∈ big := big_in (List.mem_of_getElem? (i := 499) (by decide +kernel)) rfl
abbrev mX11_longest : zM := (yX11_longest, cX11_longest, 4, some .int)
theorem ckX11_longest : Cond.code yX11_longest cX11_longest 4 (some .int) ∈ big := big_in (List.mem_of_getElem? (i := 503) (by decide +kernel)) rfl
abbrev mX7_findAll : zM := (yX7_findAll, cX7_findAll, 5, none)
theorem ckX7_findAll : Cond.code yX7_findAll cX7_findAll 5 (none) ∈ big := big_in (List.mem_of_getElem? (i := 507) (by decide +kernel)) rfl
abbrev mJ9_min_7cf53 : zM := (yJ9_min_7cf53, cJ9_min_7cf53, 2, some .int)
theorem ckJ9_min_7cf53 : Cond.code yJ9_min_7cf53 cJ9_min_7cf53 2 (some .int) ∈ big := big_in (List.mem_of_getElem? (i := 510) (by decide +kernel)) rfl
abbrev mX7_growBy : zM := (yX7_growBy, cX7_growBy, 7, none)
theorem ckX7_growBy : Cond.code yX7_growBy cX7_growBy 7 (none) ∈ big := big_in (List.mem_of_getElem? (i := 516) (by decide +kernel)) rfl
abbrev mX7_note : zM := (yX7_note, cX7_note, 4, none)
theorem ckX7_note : Cond.code yX7_note cX7_note 4 (none) ∈ big := big_in (List.mem_of_getElem? (i := 521) (by decide +kernel)) rfl
abbrev mX7_longestOf : zM := (yX7_longestOf, cX7_longestOf, 5, some .int)
theorem ckX7_longestOf : Cond.code yX7_longestOf cX7_longestOf 5 (some .int) ∈ big := big_in (List.mem_of_getElem? (i := 525) (by decide +kernel)) rfl
abbrev mX7_isLonger : zM := (yX7_isLonger, cX7_isLonger, 4, some .boolean)
theorem ckX7_isLonger : Cond.code yX7_isLonger cX7_isLonger 4 (some .boolean) ∈ big := big_in (List.mem_of_getElem? (i := 529) (by decide +kernel)) rfl
abbrev mJ6_bitCount_0f7a4 : zM := (yJ6_bitCount_0f7a4, cJ6_bitCount_0f7a4, 1, some .int)
theorem ckJ6_bitCount_0f7a4 : Cond.code yJ6_bitCount_0f7a4 cJ6_bitCount_0f7a4 1 (some .int) ∈ big := big_in (List.mem_of_getElem? (i := 532) (by decide +kernel)) rfl
abbrev mX11_fewest : zM := (yX11_fewest, cX11_fewest, 1, some .int)
theorem ckX11_fewest : Cond.code yX11_fewest cX11_fewest 1 (some .int) ∈ big := big_in (List.mem_of_getElem? (i := 540) (by decide +kernel)) rfl
abbrev mX7_costOneEach : zM := (yX7_costOneEach, cX7_costOneEach, 3, none)
theorem ckX7_costOneEach : Cond.code yX7_costOneEach cX7_costOneEach 3 (none) ∈ big := big_in (List.mem_of_getElem? (i := 545) (by decide +kernel)) rfl
abbrev mX7_leastSum : zM := (yX7_leastSum, cX7_leastSum, 6, some .int)
theorem ckX7_leastSum : Cond.code yX7_leastSum cX7_leastSum 6 (some .int) ∈ big := big_in (List.mem_of_getElem? (i := 550) (by decide +kernel)) rfl
abbrev mX11_apart : zM := (yX11_apart, cX11_apart, 3, some .int)
theorem ckX11_apart : Cond.code yX11_apart cX11_apart 3 (some .int) ∈ big := big_in (List.mem_of_getElem? (i := 554) (by decide +kernel)) rfl
abbrev mX7_mostApart : zM := (yX7_mostApart, cX7_mostApart, 3, some .int)
theorem ckX7_mostApart : Cond.code yX7_mostApart cX7_mostApart 3 (some .int) ∈ big := big_in (List.mem_of_getElem? (i := 558) (by decide +kernel)) rfl
abbrev mX7_isApart : zM := (yX7_isApart, cX7_isApart, 3, some .boolean)
theorem ckX7_isApart : Cond.code yX7_isApart cX7_isApart 3 (some .boolean) ∈ big := big_in (List.mem_of_getElem? (i := 562) (by decide +kernel)) rfl
abbrev mX11_carry : zM := (yX11_carry, cX11_carry, 1, some .int)
theorem ckX11_carry : Cond.code yX11_carry cX11_carry 1 (some .int) ∈ big := big_in (List.mem_of_getElem? (i := 566) (by decide +kernel)) rfl
abbrev mX7_costHeights : zM := (yX7_costHeights, cX7_costHeights, 2, none)
theorem ckX7_costHeights : Cond.code yX7_costHeights cX7_costHeights 2 (none) ∈ big := big_in (List.mem_of_getElem? (i := 570) (by decide +kernel)) rfl
abbrev mX11_load : zM := (yX11_load, cX11_load, 3, some .int)
theorem ckX11_load : Cond.code yX11_load cX11_load 3 (some .int) ∈ big := big_in (List.mem_of_getElem? (i := 574) (by decide +kernel)) rfl
abbrev mX11_whole : zM := (yX11_whole, cX11_whole, 2, some .int)
theorem ckX11_whole : Cond.code yX11_whole cX11_whole 2 (some .int) ∈ big := big_in (List.mem_of_getElem? (i := 578) (by decide +kernel)) rfl
abbrev mX7_costLessForSetsOf : zM := (yX7_costLessForSetsOf, cX7_costLessForSetsOf, 4, none)
theorem ckX7_costLessForSetsOf : Cond.code yX7_costLessForSetsOf cX7_costLessForSetsOf 4 (none) ∈ big := big_in (List.mem_of_getElem? (i := 582) (by decide +kernel)) rfl
abbrev mX11_throwsNew : zM := (yX11_throwsNew, cX11_throwsNew, 6, some .int)
theorem ckX11_throwsNew : Cond.code yX11_throwsNew cX11_throwsNew 6 (some .int) ∈ big := big_in (List.mem_of_getElem? (i := 586) (by decide +kernel)) rfl
abbrev mX5_think : zM := (yX5_think, cX5_think, 3, some .int)
theorem ckX5_think : Cond.code yX5_think cX5_think 3 (some .int) ∈ big := big_in (List.mem_of_getElem? (i := 591) (by decide +kernel)) rfl
abbrev mX11_isBridged : zM := (yX11_isBridged, cX11_isBridged, 5, some .boolean)
theorem ckX11_isBridged : Cond.code yX11_isBridged cX11_isBridged 5 (some .boolean) ∈ big := big_in (List.mem_of_getElem? (i := 595) (by decide +kernel)) rfl
abbrev mX11_helps : zM := (yX11_helps, cX11_helps, 8, some .int)
theorem ckX11_helps : Cond.code yX11_helps cX11_helps 8 (some .int) ∈ big := big_in (List.mem_of_getElem? (i := 599) (by decide +kernel)) rfl
abbrev mX7_findChains : zM := (yX7_findChains, cX7_findChains, 3, none)
theorem ckX7_findChains : Cond.code yX7_findChains cX7_findChains 3 (none) ∈ big := big_in (List.mem_of_getElem? (i := 603) (by decide +kernel)) rfl
abbrev mX7_lengthenInward : zM := (yX7_lengthenInward, cX7_lengthenInward, 3, none)
theorem ckX7_lengthenInward : Cond.code yX7_lengthenInward cX7_lengthenInward 3 (none) ∈ big := big_in (List.mem_of_getElem? (i := 607) (by decide +kernel)) rfl
abbrev mX7_lengthenOutward : zM := (yX7_lengthenOutward, cX7_lengthenOutward, 3, none)
theorem ckX7_lengthenOutward : Cond.code yX7_lengthenOutward cX7_lengthenOutward 3 (none) ∈ big := big_in (List.mem_of_getElem? (i := 612) (by decide +kernel)) rfl
abbrev mX7_longestWith : zM := (yX7_longestWith, cX7_longestWith, 7, some .int)
theorem ckX7_longestWith : Cond.code yX7_longestWith cX7_longestWith 7 (some .int) ∈ big := big_in (List.mem_of_getElem? (i := 616) (by decide +kernel)) rfl
abbrev mX11_out : zM := (yX11_out, cX11_out, 7, some .int)
theorem ckX11_out : Cond.code yX11_out cX11_out 7 (some .int) ∈ big := big_in (List.mem_of_getElem? (i := 620) (by decide +kernel)) rfl
abbrev mX11_firstMisplaced : zM := (yX11_firstMisplaced, cX11_firstMisplaced, 5, some .int)
theorem ckX11_firstMisplaced : Cond.code yX11_firstMisplaced cX11_firstMisplaced 5 (some .int) ∈ big := big_in (List.mem_of_getElem? (i := 624) (by decide +kernel)) rfl
abbrev mX11_judge : zM := (yX11_judge, cX11_judge, 4, some .int)
theorem ckX11_judge : Cond.code yX11_judge cX11_judge 4 (some .int) ∈ big := big_in (List.mem_of_getElem? (i := 629) (by decide +kernel)) rfl
abbrev mX11_rowRefusal : zM := (yX11_rowRefusal, cX11_rowRefusal, 2, some .int)
theorem ckX11_rowRefusal : Cond.code yX11_rowRefusal cX11_rowRefusal 2 (some .int) ∈ big := big_in (List.mem_of_getElem? (i := 633) (by decide +kernel)) rfl
abbrev mX11_spans : zM := (yX11_spans, cX11_spans, 4, some .int)
theorem ckX11_spans : Cond.code yX11_spans cX11_spans 4 (some .int) ∈ big := big_in (List.mem_of_getElem? (i := 637) (by decide +kernel)) rfl
abbrev mX5_spanned : zM := (yX5_spanned, cX5_spanned, 9, some .int)
theorem ckX5_spanned : Cond.code yX5_spanned cX5_spanned 9 (some .int) ∈ big := big_in (List.mem_of_getElem? (i := 641) (by decide +kernel)) rfl
abbrev mX11_next : zM := (yX11_next, cX11_next, 7, some .int)
theorem ckX11_next : Cond.code yX11_next cX11_next 7 (some .int) ∈ big := big_in (List.mem_of_getElem? (i := 646) (by decide +kernel)) rfl
abbrev mX11_pairsPerhaps : zM := (yX11_pairsPerhaps, cX11_pairsPerhaps, 8, some .int)
theorem ckX11_pairsPerhaps : Cond.code yX11_pairsPerhaps cX11_pairsPerhaps 8 (some .int) ∈ big := big_in (List.mem_of_getElem? (i := 650) (by decide +kernel)) rfl
abbrev mX11_from : zM := (yX11_from, cX11_from, 7, some .int)
theorem ckX11_from : Cond.code yX11_from cX11_from 7 (some .int) ∈ big := big_in (List.mem_of_getElem? (i := 654) (by decide +kernel)) rfl
abbrev mX11_breaks : zM := (yX11_breaks, cX11_breaks, 5, some .int)
theorem ckX11_breaks : Cond.code yX11_breaks cX11_breaks 5 (some .int) ∈ big := big_in (List.mem_of_getElem? (i := 658) (by decide +kernel)) rfl
abbrev mX11_brokenBy : zM := (yX11_brokenBy, cX11_brokenBy, 7, some .int)
theorem ckX11_brokenBy : Cond.code yX11_brokenBy cX11_brokenBy 7 (some .int) ∈ big := big_in (List.mem_of_getElem? (i := 662) (by decide +kernel)) rfl
abbrev mX11_image : zM := (yX11_image, cX11_image, 1, some .int)
theorem ckX11_image : Cond.code yX11_image cX11_image 1 (some .int) ∈ big := big_in (List.mem_of_getElem? (i := 669) (by decide +kernel)) rfl
abbrev mX11_restore : zM := (yX11_restore, cX11_restore, 1, some .int)
theorem ckX11_restore : Cond.code yX11_restore cX11_restore 1 (some .int) ∈ big := big_in (List.mem_of_getElem? (i := 673) (by decide +kernel)) rfl
abbrev mX11_count : zM := (yX11_count, cX11_count, 2, some .int)
theorem ckX11_count : Cond.code yX11_count cX11_count 2 (some .int) ∈ big := big_in (List.mem_of_getElem? (i := 677) (by decide +kernel)) rfl
abbrev mX5_pairsIn : zM := (yX5_pairsIn, cX5_pairsIn, 4, some .int)
theorem ckX5_pairsIn : Cond.code yX5_pairsIn cX5_pairsIn 4 (some .int) ∈ big := big_in (List.mem_of_getElem? (i := 681) (by decide +kernel)) rfl
abbrev mX5_allDepths : zM := (yX5_allDepths, cX5_allDepths, 3, some .int)
theorem ckX5_allDepths : Cond.code yX5_allDepths cX5_allDepths 3 (some .int) ∈ big := big_in (List.mem_of_getElem? (i := 685) (by decide +kernel)) rfl
abbrev mX11_keep : zM := (yX11_keep, cX11_keep, 5, some .int)
theorem ckX11_keep : Cond.code yX11_keep cX11_keep 5 (some .int) ∈ big := big_in (List.mem_of_getElem? (i := 689) (by decide +kernel)) rfl
abbrev mX10_clear : zM := (yX10_clear, cX10_clear, 1, none)
theorem ckX10_clear : Cond.code yX10_clear cX10_clear 1 (none) ∈ big := big_in (List.mem_of_getElem? (i := 693) (by decide +kernel)) rfl
abbrev mX10_holdBowl : zM := (yX10_holdBowl, cX10_holdBowl, 3, none)
theorem ckX10_holdBowl : Cond.code yX10_holdBowl cX10_holdBowl 3 (none) ∈ big := big_in (List.mem_of_getElem? (i := 697) (by decide +kernel)) rfl
abbrev mX11_row : zM := (yX11_row, cX11_row, 4, some .int)
theorem ckX11_row : Cond.code yX11_row cX11_row 4 (some .int) ∈ big := big_in (List.mem_of_getElem? (i := 701) (by decide +kernel)) rfl
abbrev mX10_holdRow : zM := (yX10_holdRow, cX10_holdRow, 4, none)
theorem ckX10_holdRow : Cond.code yX10_holdRow cX10_holdRow 4 (none) ∈ big := big_in (List.mem_of_getElem? (i := 705) (by decide +kernel)) rfl
abbrev mX11_put : zM := (yX11_put, cX11_put, 5, some .int)
theorem ckX11_put : Cond.code yX11_put cX11_put 5 (some .int) ∈ big := big_in (List.mem_of_getElem? (i := 709) (by decide +kernel)) rfl
abbrev mX10_hasPlace : zM := (yX10_hasPlace, cX10_hasPlace, 2, some .boolean)
theorem ckX10_hasPlace : Cond.code yX10_hasPlace cX10_hasPlace 2 (some .boolean) ∈ big := big_in (List.mem_of_getElem? (i := 713) (by decide +kernel)) rfl
abbrev mX10_set : zM := (yX10_set, cX10_set, 3, none)
theorem ckX10_set : Cond.code yX10_set cX10_set 3 (none) ∈ big := big_in (List.mem_of_getElem? (i := 717) (by decide +kernel)) rfl
abbrev mX11_copy : zM := (yX11_copy, cX11_copy, 8, some .int)
theorem ckX11_copy : Cond.code yX11_copy cX11_copy 8 (some .int) ∈ big := big_in (List.mem_of_getElem? (i := 721) (by decide +kernel)) rfl
abbrev mX10_hasStretch : zM := (yX10_hasStretch, cX10_hasStretch, 3, some .boolean)
theorem ckX10_hasStretch : Cond.code yX10_hasStretch cX10_hasStretch 3 (some .boolean) ∈ big := big_in (List.mem_of_getElem? (i := 725) (by decide +kernel)) rfl
abbrev mX11_price : zM := (yX11_price, cX11_price, 3, some .int)
theorem ckX11_price : Cond.code yX11_price cX11_price 3 (some .int) ∈ big := big_in (List.mem_of_getElem? (i := 730) (by decide +kernel)) rfl
abbrev mX1_cost : zM := (yX1_cost, cX1_cost, 2, some .int)
theorem ckX1_cost : Cond.code yX1_cost cX1_cost 2 (some .int) ∈ big := big_in (List.mem_of_getElem? (i := 737) (by decide +kernel)) rfl
abbrev mX3_cost : zM := (yX3_cost, cX3_cost, 2, some .int)
theorem ckX3_cost : Cond.code yX3_cost cX3_cost 2 (some .int) ∈ big := big_in (List.mem_of_getElem? (i := 740) (by decide +kernel)) rfl
abbrev mX2_cost : zM := (yX2_cost, cX2_cost, 2, some .int)
theorem ckX2_cost : Cond.code yX2_cost cX2_cost 2 (some .int) ∈ big := big_in (List.mem_of_getElem? (i := 744) (by decide +kernel)) rfl
abbrev mX6_cost : zM := (yX6_cost, cX6_cost, 2, some .int)
theorem ckX6_cost : Cond.code yX6_cost cX6_cost 2 (some .int) ∈ big := big_in (List.mem_of_getElem? (i := 747) (by decide +kernel)) rfl
abbrev mX4_cost : zM := (yX4_cost, cX4_cost, 2, some .int)
theorem ckX4_cost : Cond.code yX4_cost cX4_cost 2 (some .int) ∈ big := big_in (List.mem_of_getElem? (i := 752) (by decide +kernel)) rfl
abbrev mX8_cost : zM := (yX8_cost, cX8_cost, 2, some .int)
theorem ckX8_cost : Cond.code yX8_cost cX8_cost 2 (some .int) ∈ big := big_in (List.mem_of_getElem? (i := 757) (by decide +kernel)) rfl
abbrev mX9_cost : zM := (yX9_cost, cX9_cost, 2, some .int)
theorem ckX9_cost : Cond.code yX9_cost cX9_cost 2 (some .int) ∈ big := big_in (List.mem_of_getElem? (i := 761) (by decide +kernel)) rfl
abbrev mX0_cost : zM := (yX0_cost, cX0_cost, 2, some .int)
theorem ckX0_cost : Cond.code yX0_cost cX0_cost 2 (some .int) ∈ big := big_in (List.mem_of_getElem? (i := 763) (by decide +kernel)) rfl
abbrev mX2_fail : zM := (yX2_fail, cX2_fail, 2, none)
theorem ckX2_fail : Cond.code yX2_fail cX2_fail 2 (none) ∈ big := big_in (List.mem_of_getElem? (i := 778) (by decide +kernel)) rfl
abbrev mX4_fail : zM := (yX4_fail, cX4_fail, 2, none)
theorem ckX4_fail : Cond.code yX4_fail cX4_fail 2 (none) ∈ big := big_in (List.mem_of_getElem? (i := 850) (by decide +kernel)) rfl
abbrev mX9_fail : zM := (yX9_fail, cX9_fail, 2, none)
theorem ckX9_fail : Cond.code yX9_fail cX9_fail 2 (none) ∈ big := big_in (List.mem_of_getElem? (i := 871) (by decide +kernel)) rfl
abbrev mX0_fail : zM := (yX0_fail, cX0_fail, 2, none)
theorem ckX0_fail : Cond.code yX0_fail cX0_fail 2 (none) ∈ big := big_in (List.mem_of_getElem? (i := 872) (by decide +kernel)) rfl
abbrev mX11_element : zM := (yX11_element, cX11_element, 3, some .long)
theorem ckX11_element : Cond.code yX11_element cX11_element 3 (some .long) ∈ big := big_in (List.mem_of_getElem? (i := 897) (by decide +kernel)) rfl
abbrev mX12_init : zM := (yX12_init, cX12_init, 1, none)
theorem ckX12_init : Cond.code yX12_init cX12_init 1 (none) ∈ big := big_in (List.mem_of_getElem? (i := 906) (by decide +kernel)) rfl
abbrev mX12_thrown : zM := (yX12_thrown, cX12_thrown, 1, some .int)
theorem ckX12_thrown : Cond.code yX12_thrown cX12_thrown 1 (some .int) ∈ big := big_in (List.mem_of_getElem? (i := 972) (by decide +kernel)) rfl
abbrev mX12_heap : zM := (yX12_heap, cX12_heap, 7, some .int)
theorem ckX12_heap : Cond.code yX12_heap cX12_heap 7 (some .int) ∈ big := big_in (List.mem_of_getElem? (i := 976) (by decide +kernel)) rfl
abbrev mX12_wrongRow : zM := (yX12_wrongRow, cX12_wrongRow, 3, some .int)
theorem ckX12_wrongRow : Cond.code yX12_wrongRow cX12_wrongRow 3 (some .int) ∈ big := big_in (List.mem_of_getElem? (i := 980) (by decide +kernel)) rfl
abbrev mX12_isShelf : zM := (yX12_isShelf, cX12_isShelf, 1, some .boolean)
theorem ckX12_isShelf : Cond.code yX12_isShelf cX12_isShelf 1 (some .boolean) ∈ big := big_in (List.mem_of_getElem? (i := 983) (by decide +kernel)) rfl
abbrev mX12_isIn : zM := (yX12_isIn, cX12_isIn, 6, some .boolean)
theorem ckX12_isIn : Cond.code yX12_isIn cX12_isIn 6 (some .boolean) ∈ big := big_in (List.mem_of_getElem? (i := 987) (by decide +kernel)) rfl
abbrev mX12_readsStatement : zM := (yX12_readsStatement, cX12_readsStatement, 3, some .boolean)
theorem ckX12_readsStatement : Cond.code yX12_readsStatement cX12_readsStatement 3 (some .boolean) ∈ big := big_in (List.mem_of_getElem? (i := 991) (by decide +kernel)) rfl
abbrev mX12_here : zM := (yX12_here, cX12_here, 1, some .int)
theorem ckX12_here : Cond.code yX12_here cX12_here 1 (some .int) ∈ big := big_in (List.mem_of_getElem? (i := 995) (by decide +kernel)) rfl
abbrev mX12_readsNumber : zM := (yX12_readsNumber, cX12_readsNumber, 3, some .boolean)
theorem ckX12_readsNumber : Cond.code yX12_readsNumber cX12_readsNumber 3 (some .boolean) ∈ big := big_in (List.mem_of_getElem? (i := 999) (by decide +kernel)) rfl
abbrev mX12_isDigit : zM := (yX12_isDigit, cX12_isDigit, 1, some .boolean)
theorem ckX12_isDigit : Cond.code yX12_isDigit cX12_isDigit 1 (some .boolean) ∈ big := big_in (List.mem_of_getElem? (i := 1003) (by decide +kernel)) rfl
abbrev mX12_takes : zM := (yX12_takes, cX12_takes, 2, some .boolean)
theorem ckX12_takes : Cond.code yX12_takes cX12_takes 2 (some .boolean) ∈ big := big_in (List.mem_of_getElem? (i := 1009) (by decide +kernel)) rfl
abbrev mX12_lays : zM := (yX12_lays, cX12_lays, 3, none)
theorem ckX12_lays : Cond.code yX12_lays cX12_lays 3 (none) ∈ big := big_in (List.mem_of_getElem? (i := 1012) (by decide +kernel)) rfl
abbrev mX12_comesTold : zM := (yX12_comesTold, cX12_comesTold, 5, some .boolean)
theorem ckX12_comesTold : Cond.code yX12_comesTold cX12_comesTold 5 (some .boolean) ∈ big := big_in (List.mem_of_getElem? (i := 1016) (by decide +kernel)) rfl
abbrev mX12_puts : zM := (yX12_puts, cX12_puts, 4, none)
theorem ckX12_puts : Cond.code yX12_puts cX12_puts 4 (none) ∈ big := big_in (List.mem_of_getElem? (i := 1020) (by decide +kernel)) rfl
abbrev mX12_isBowl : zM := (yX12_isBowl, cX12_isBowl, 2, some .boolean)
theorem ckX12_isBowl : Cond.code yX12_isBowl cX12_isBowl 2 (some .boolean) ∈ big := big_in (List.mem_of_getElem? (i := 1024) (by decide +kernel)) rfl
abbrev mX12_get : zM := (yX12_get, cX12_get, 3, some .int)
theorem ckX12_get : Cond.code yX12_get cX12_get 3 (some .int) ∈ big := big_in (List.mem_of_getElem? (i := 1028) (by decide +kernel)) rfl
abbrev mX12_bowl : zM := (yX12_bowl, cX12_bowl, 3, some .int)
theorem ckX12_bowl : Cond.code yX12_bowl cX12_bowl 3 (some .int) ∈ big := big_in (List.mem_of_getElem? (i := 1032) (by decide +kernel)) rfl
abbrev mX12_outside : zM := (yX12_outside, cX12_outside, 2, some .int)
theorem ckX12_outside : Cond.code yX12_outside cX12_outside 2 (some .int) ∈ big := big_in (List.mem_of_getElem? (i := 1036) (by decide +kernel)) rfl
abbrev mX12_outsideBy : zM := (yX12_outsideBy, cX12_outsideBy, 4, some .int)
theorem ckX12_outsideBy : Cond.code yX12_outsideBy cX12_outsideBy 4 (some .int) ∈ big := big_in (List.mem_of_getElem? (i := 1040) (by decide +kernel)) rfl
abbrev mX12_turned : zM := (yX12_turned, cX12_turned, 2, some .int)
theorem ckX12_turned : Cond.code yX12_turned cX12_turned 2 (some .int) ∈ big := big_in (List.mem_of_getElem? (i := 1044) (by decide +kernel)) rfl
abbrev mX12_inside : zM := (yX12_inside, cX12_inside, 2, some .int)
theorem ckX12_inside : Cond.code yX12_inside cX12_inside 2 (some .int) ∈ big := big_in (List.mem_of_getElem? (i := 1048) (by decide +kernel)) rfl
abbrev mX12_insideBy : zM := (yX12_insideBy, cX12_insideBy, 5, some .int)
theorem ckX12_insideBy : Cond.code yX12_insideBy cX12_insideBy 5 (some .int) ∈ big := big_in (List.mem_of_getElem? (i := 1052) (by decide +kernel)) rfl
abbrev mX12_rise : zM := (yX12_rise, cX12_rise, 2, some .int)
theorem ckX12_rise : Cond.code yX12_rise cX12_rise 2 (some .int) ∈ big := big_in (List.mem_of_getElem? (i := 1056) (by decide +kernel)) rfl
abbrev mX12_comes : zM := (yX12_comes, cX12_comes, 6, some .int)
theorem ckX12_comes : Cond.code yX12_comes cX12_comes 6 (some .int) ∈ big := big_in (List.mem_of_getElem? (i := 1060) (by decide +kernel)) rfl
abbrev mX12_wrongKept : zM := (yX12_wrongKept, cX12_wrongKept, 2, some .int)
theorem ckX12_wrongKept : Cond.code yX12_wrongKept cX12_wrongKept 2 (some .int) ∈ big := big_in (List.mem_of_getElem? (i := 1065) (by decide +kernel)) rfl
abbrev mX12_adds : zM := (yX12_adds, cX12_adds, 6, none)
theorem ckX12_adds : Cond.code yX12_adds cX12_adds 6 (none) ∈ big := big_in (List.mem_of_getElem? (i := 1069) (by decide +kernel)) rfl
abbrev mX12_warm : zM := (yX12_warm, cX12_warm, 3, some .int)
theorem ckX12_warm : Cond.code yX12_warm cX12_warm 3 (some .int) ∈ big := big_in (List.mem_of_getElem? (i := 1073) (by decide +kernel)) rfl
abbrev mX12_turn : zM := (yX12_turn, cX12_turn, 2, some .int)
theorem ckX12_turn : Cond.code yX12_turn cX12_turn 2 (some .int) ∈ big := big_in (List.mem_of_getElem? (i := 1078) (by decide +kernel)) rfl
abbrev mX12_lies : zM := (yX12_lies, cX12_lies, 3, some .int)
theorem ckX12_lies : Cond.code yX12_lies cX12_lies 3 (some .int) ∈ big := big_in (List.mem_of_getElem? (i := 1082) (by decide +kernel)) rfl
abbrev mX12_liesNow : zM := (yX12_liesNow, cX12_liesNow, 3, some .boolean)
theorem ckX12_liesNow : Cond.code yX12_liesNow cX12_liesNow 3 (some .boolean) ∈ big := big_in (List.mem_of_getElem? (i := 1086) (by decide +kernel)) rfl
abbrev mX12_liesAt : zM := (yX12_liesAt, cX12_liesAt, 4, some .boolean)
theorem ckX12_liesAt : Cond.code yX12_liesAt cX12_liesAt 4 (some .boolean) ∈ big := big_in (List.mem_of_getElem? (i := 1090) (by decide +kernel)) rfl
abbrev mX12_fitsBut : zM := (yX12_fitsBut, cX12_fitsBut, 3, some .boolean)
theorem ckX12_fitsBut : Cond.code yX12_fitsBut cX12_fitsBut 3 (some .boolean) ∈ big := big_in (List.mem_of_getElem? (i := 1094) (by decide +kernel)) rfl
abbrev mX12_isOval : zM := (yX12_isOval, cX12_isOval, 2, some .boolean)
theorem ckX12_isOval : Cond.code yX12_isOval cX12_isOval 2 (some .boolean) ∈ big := big_in (List.mem_of_getElem? (i := 1098) (by decide +kernel)) rfl
abbrev mX12_nest : zM := (yX12_nest, cX12_nest, 2, some .int)
theorem ckX12_nest : Cond.code yX12_nest cX12_nest 2 (some .int) ∈ big := big_in (List.mem_of_getElem? (i := 1102) (by decide +kernel)) rfl
abbrev mX12_areBowls : zM := (yX12_areBowls, cX12_areBowls, 2, some .boolean)
theorem ckX12_areBowls : Cond.code yX12_areBowls cX12_areBowls 2 (some .boolean) ∈ big := big_in (List.mem_of_getElem? (i := 1106) (by decide +kernel)) rfl
abbrev mX12_everything : zM := (yX12_everything, cX12_everything, 1, some .int)
theorem ckX12_everything : Cond.code yX12_everything cX12_everything 1 (some .int) ∈ big := big_in (List.mem_of_getElem? (i := 1110) (by decide +kernel)) rfl
abbrev mX12_isNest : zM := (yX12_isNest, cX12_isNest, 5, some .boolean)
theorem ckX12_isNest : Cond.code yX12_isNest cX12_isNest 5 (some .boolean) ∈ big := big_in (List.mem_of_getElem? (i := 1114) (by decide +kernel)) rfl
abbrev mX12_outermost : zM := (yX12_outermost, cX12_outermost, 4, some .int)
theorem ckX12_outermost : Cond.code yX12_outermost cX12_outermost 4 (some .int) ∈ big := big_in (List.mem_of_getElem? (i := 1118) (by decide +kernel)) rfl
abbrev mX12_height : zM := (yX12_height, cX12_height, 2, some .int)
theorem ckX12_height : Cond.code yX12_height cX12_height 2 (some .int) ∈ big := big_in (List.mem_of_getElem? (i := 1122) (by decide +kernel)) rfl
abbrev mX12_heightOf : zM := (yX12_heightOf, cX12_heightOf, 5, some .int)
theorem ckX12_heightOf : Cond.code yX12_heightOf cX12_heightOf 5 (some .int) ∈ big := big_in (List.mem_of_getElem? (i := 1126) (by decide +kernel)) rfl
abbrev mX12_longest : zM := (yX12_longest, cX12_longest, 4, some .int)
theorem ckX12_longest : Cond.code yX12_longest cX12_longest 4 (some .int) ∈ big := big_in (List.mem_of_getElem? (i := 1130) (by decide +kernel)) rfl
abbrev mX12_longestOf : zM := (yX12_longestOf, cX12_longestOf, 4, some .int)
theorem ckX12_longestOf : Cond.code yX12_longestOf cX12_longestOf 4 (some .int) ∈ big := big_in (List.mem_of_getElem? (i := 1134) (by decide +kernel)) rfl
abbrev mX12_bits : zM := (yX12_bits, cX12_bits, 3, some .int)
theorem ckX12_bits : Cond.code yX12_bits cX12_bits 3 (some .int) ∈ big := big_in (List.mem_of_getElem? (i := 1137) (by decide +kernel)) rfl
abbrev mX12_fewest : zM := (yX12_fewest, cX12_fewest, 1, some .int)
theorem ckX12_fewest : Cond.code yX12_fewest cX12_fewest 1 (some .int) ∈ big := big_in (List.mem_of_getElem? (i := 1141) (by decide +kernel)) rfl
abbrev mX12_leastOf : zM := (yX12_leastOf, cX12_leastOf, 7, some .int)
theorem ckX12_leastOf : Cond.code yX12_leastOf cX12_leastOf 7 (some .int) ∈ big := big_in (List.mem_of_getElem? (i := 1145) (by decide +kernel)) rfl
abbrev mX12_counted : zM := (yX12_counted, cX12_counted, 5, some .int)
theorem ckX12_counted : Cond.code yX12_counted cX12_counted 5 (some .int) ∈ big := big_in (List.mem_of_getElem? (i := 1149) (by decide +kernel)) rfl
abbrev mX12_carry : zM := (yX12_carry, cX12_carry, 1, some .int)
theorem ckX12_carry : Cond.code yX12_carry cX12_carry 1 (some .int) ∈ big := big_in (List.mem_of_getElem? (i := 1154) (by decide +kernel)) rfl
abbrev mX12_load : zM := (yX12_load, cX12_load, 3, some .int)
theorem ckX12_load : Cond.code yX12_load cX12_load 3 (some .int) ∈ big := big_in (List.mem_of_getElem? (i := 1158) (by decide +kernel)) rfl
abbrev mX12_apart : zM := (yX12_apart, cX12_apart, 4, some .int)
theorem ckX12_apart : Cond.code yX12_apart cX12_apart 4 (some .int) ∈ big := big_in (List.mem_of_getElem? (i := 1162) (by decide +kernel)) rfl
abbrev mX12_areApart : zM := (yX12_areApart, cX12_areApart, 4, some .boolean)
theorem ckX12_areApart : Cond.code yX12_areApart cX12_areApart 4 (some .boolean) ∈ big := big_in (List.mem_of_getElem? (i := 1166) (by decide +kernel)) rfl
abbrev mX12_whole : zM := (yX12_whole, cX12_whole, 2, some .int)
theorem ckX12_whole : Cond.code yX12_whole cX12_whole 2 (some .int) ∈ big := big_in (List.mem_of_getElem? (i := 1170) (by decide +kernel)) rfl
abbrev mX12_wholeOf : zM := (yX12_wholeOf, cX12_wholeOf, 7, some .int)
theorem ckX12_wholeOf : Cond.code yX12_wholeOf cX12_wholeOf 7 (some .int) ∈ big := big_in (List.mem_of_getElem? (i := 1174) (by decide +kernel)) rfl
abbrev mX12_throwsNew : zM := (yX12_throwsNew, cX12_throwsNew, 5, some .int)
theorem ckX12_throwsNew : Cond.code yX12_throwsNew cX12_throwsNew 5 (some .int) ∈ big := big_in (List.mem_of_getElem? (i := 1178) (by decide +kernel)) rfl
abbrev mX12_canBeBetween : zM := (yX12_canBeBetween, cX12_canBeBetween, 6, some .boolean)
theorem ckX12_canBeBetween : Cond.code yX12_canBeBetween cX12_canBeBetween 6 (some .boolean) ∈ big := big_in (List.mem_of_getElem? (i := 1182) (by decide +kernel)) rfl
abbrev mX12_helps : zM := (yX12_helps, cX12_helps, 7, some .int)
theorem ckX12_helps : Cond.code yX12_helps cX12_helps 7 (some .int) ∈ big := big_in (List.mem_of_getElem? (i := 1186) (by decide +kernel)) rfl
abbrev mX12_longestRow : zM := (yX12_longestRow, cX12_longestRow, 6, some .int)
theorem ckX12_longestRow : Cond.code yX12_longestRow cX12_longestRow 6 (some .int) ∈ big := big_in (List.mem_of_getElem? (i := 1190) (by decide +kernel)) rfl
abbrev mX12_out : zM := (yX12_out, cX12_out, 6, some .int)
theorem ckX12_out : Cond.code yX12_out cX12_out 6 (some .int) ∈ big := big_in (List.mem_of_getElem? (i := 1194) (by decide +kernel)) rfl
abbrev mX12_wrongOut : zM := (yX12_wrongOut, cX12_wrongOut, 3, some .int)
theorem ckX12_wrongOut : Cond.code yX12_wrongOut cX12_wrongOut 3 (some .int) ∈ big := big_in (List.mem_of_getElem? (i := 1198) (by decide +kernel)) rfl
abbrev mX12_wrongAt : zM := (yX12_wrongAt, cX12_wrongAt, 5, some .int)
theorem ckX12_wrongAt : Cond.code yX12_wrongAt cX12_wrongAt 5 (some .int) ∈ big := big_in (List.mem_of_getElem? (i := 1202) (by decide +kernel)) rfl
abbrev mX12_judge : zM := (yX12_judge, cX12_judge, 3, some .int)
theorem ckX12_judge : Cond.code yX12_judge cX12_judge 3 (some .int) ∈ big := big_in (List.mem_of_getElem? (i := 1206) (by decide +kernel)) rfl
abbrev mX12_spans : zM := (yX12_spans, cX12_spans, 4, some .int)
theorem ckX12_spans : Cond.code yX12_spans cX12_spans 4 (some .int) ∈ big := big_in (List.mem_of_getElem? (i := 1210) (by decide +kernel)) rfl
abbrev mX12_spanOf : zM := (yX12_spanOf, cX12_spanOf, 7, some .int)
theorem ckX12_spanOf : Cond.code yX12_spanOf cX12_spanOf 7 (some .int) ∈ big := big_in (List.mem_of_getElem? (i := 1214) (by decide +kernel)) rfl
abbrev mX12_narrow : zM := (yX12_narrow, cX12_narrow, 2, some .int)
theorem ckX12_narrow : Cond.code yX12_narrow cX12_narrow 2 (some .int) ∈ big := big_in (List.mem_of_getElem? (i := 1217) (by decide +kernel)) rfl
abbrev mX12_next : zM := (yX12_next, cX12_next, 7, some .int)
theorem ckX12_next : Cond.code yX12_next cX12_next 7 (some .int) ∈ big := big_in (List.mem_of_getElem? (i := 1221) (by decide +kernel)) rfl
abbrev mX12_perhaps : zM := (yX12_perhaps, cX12_perhaps, 6, some .int)
theorem ckX12_perhaps : Cond.code yX12_perhaps cX12_perhaps 6 (some .int) ∈ big := big_in (List.mem_of_getElem? (i := 1225) (by decide +kernel)) rfl
abbrev mX12_from : zM := (yX12_from, cX12_from, 6, some .int)
theorem ckX12_from : Cond.code yX12_from cX12_from 6 (some .int) ∈ big := big_in (List.mem_of_getElem? (i := 1229) (by decide +kernel)) rfl
abbrev mX12_breaks : zM := (yX12_breaks, cX12_breaks, 6, some .int)
theorem ckX12_breaks : Cond.code yX12_breaks cX12_breaks 6 (some .int) ∈ big := big_in (List.mem_of_getElem? (i := 1233) (by decide +kernel)) rfl
abbrev mX12_drawn : zM := (yX12_drawn, cX12_drawn, 2, some .int)
theorem ckX12_drawn : Cond.code yX12_drawn cX12_drawn 2 (some .int) ∈ big := big_in (List.mem_of_getElem? (i := 1238) (by decide +kernel)) rfl
abbrev mX12_image : zM := (yX12_image, cX12_image, 1, some .int)
theorem ckX12_image : Cond.code yX12_image cX12_image 1 (some .int) ∈ big := big_in (List.mem_of_getElem? (i := 1245) (by decide +kernel)) rfl
abbrev mX12_restore : zM := (yX12_restore, cX12_restore, 1, some .int)
theorem ckX12_restore : Cond.code yX12_restore cX12_restore 1 (some .int) ∈ big := big_in (List.mem_of_getElem? (i := 1249) (by decide +kernel)) rfl
abbrev mX12_count : zM := (yX12_count, cX12_count, 5, some .int)
theorem ckX12_count : Cond.code yX12_count cX12_count 5 (some .int) ∈ big := big_in (List.mem_of_getElem? (i := 1253) (by decide +kernel)) rfl
abbrev mX12_keep : zM := (yX12_keep, cX12_keep, 5, some .int)
theorem ckX12_keep : Cond.code yX12_keep cX12_keep 5 (some .int) ∈ big := big_in (List.mem_of_getElem? (i := 1257) (by decide +kernel)) rfl
abbrev mX12_row : zM := (yX12_row, cX12_row, 5, some .int)
theorem ckX12_row : Cond.code yX12_row cX12_row 5 (some .int) ∈ big := big_in (List.mem_of_getElem? (i := 1261) (by decide +kernel)) rfl
abbrev mX12_put : zM := (yX12_put, cX12_put, 5, some .int)
theorem ckX12_put : Cond.code yX12_put cX12_put 5 (some .int) ∈ big := big_in (List.mem_of_getElem? (i := 1266) (by decide +kernel)) rfl
abbrev mX12_element : zM := (yX12_element, cX12_element, 3, some .long)
theorem ckX12_element : Cond.code yX12_element cX12_element 3 (some .long) ∈ big := big_in (List.mem_of_getElem? (i := 1270) (by decide +kernel)) rfl
abbrev mX12_copy : zM := (yX12_copy, cX12_copy, 8, some .int)
theorem ckX12_copy : Cond.code yX12_copy cX12_copy 8 (some .int) ∈ big := big_in (List.mem_of_getElem? (i := 1274) (by decide +kernel)) rfl
abbrev mX12_price : zM := (yX12_price, cX12_price, 3, some .int)
theorem ckX12_price : Cond.code yX12_price cX12_price 3 (some .int) ∈ big := big_in (List.mem_of_getElem? (i := 1278) (by decide +kernel)) rfl
abbrev mX12_priceBy : zM := (yX12_priceBy, cX12_priceBy, 2, some .int)
theorem ckX12_priceBy : Cond.code yX12_priceBy cX12_priceBy 2 (some .int) ∈ big := big_in (List.mem_of_getElem? (i := 1281) (by decide +kernel)) rfl
abbrev mX12_toss : zM := (yX12_toss, cX12_toss, 5, some .int)
theorem ckX12_toss : Cond.code yX12_toss cX12_toss 5 (some .int) ∈ big := big_in (List.mem_of_getElem? (i := 1285) (by decide +kernel)) rfl
theorem ikRL : Cond.initialized RL ∈ big := big_in (List.mem_of_getElem? (i := 0) (by decide +kernel)) rfl
theorem ikRX11 : Cond.initialized RX11 ∈ big := big_in (List.mem_of_getElem? (i := 1) (by decide +kernel)) rfl
theorem ikRX0 : Cond.initialized RX0 ∈ big := big_in (List.mem_of_getElem? (i := 2) (by decide +kernel)) rfl
theorem ikRX8 : Cond.initialized RX8 ∈ big := big_in (List.mem_of_getElem? (i := 3) (by decide +kernel)) rfl
theorem ikRX6 : Cond.initialized RX6 ∈ big := big_in (List.mem_of_getElem? (i := 4) (by decide +kernel)) rfl
theorem ikRX3 : Cond.initialized RX3 ∈ big := big_in (List.mem_of_getElem? (i := 5) (by decide +kernel)) rfl
theorem ikRX9 : Cond.initialized RX9 ∈ big := big_in (List.mem_of_getElem? (i := 6) (by decide +kernel)) rfl
theorem ikRX4 : Cond.initialized RX4 ∈ big := big_in (List.mem_of_getElem? (i := 7) (by decide +kernel)) rfl
theorem ikRX1 : Cond.initialized RX1 ∈ big := big_in (List.mem_of_getElem? (i := 8) (by decide +kernel)) rfl
theorem ikRX2 : Cond.initialized RX2 ∈ big := big_in (List.mem_of_getElem? (i := 9) (by decide +kernel)) rfl
theorem ikRX5 : Cond.initialized RX5 ∈ big := big_in (List.mem_of_getElem? (i := 10) (by decide +kernel)) rfl
theorem ikRX7 : Cond.initialized RX7 ∈ big := big_in (List.mem_of_getElem? (i := 11) (by decide +kernel)) rfl
theorem ikRX10 : Cond.initialized RX10 ∈ big := big_in (List.mem_of_getElem? (i := 12) (by decide +kernel)) rfl
theorem ikRX12 : Cond.initialized RX12 ∈ big := big_in (List.mem_of_getElem? (i := 13) (by decide +kernel)) rfl
theorem ikRJ10 : Cond.initialized RJ10 ∈ big := big_in (List.mem_of_getElem? (i := 14) (by decide +kernel)) rfl
theorem ikRJ9 : Cond.initialized RJ9 ∈ big := big_in (List.mem_of_getElem? (i := 15) (by decide +kernel)) rfl
theorem ikRJ6 : Cond.initialized RJ6 ∈ big := big_in (List.mem_of_getElem? (i := 16) (by decide +kernel)) rfl
theorem nkX11_init : Cond.instanceMethod yX11_init ∈ big := big_in (List.mem_of_getElem? (i := 26) (by decide +kernel)) rfl
theorem nkX0_init : Cond.instanceMethod yX0_init ∈ big := big_in (List.mem_of_getElem? (i := 35) (by decide +kernel)) rfl
theorem nkX8_init : Cond.instanceMethod yX8_init ∈ big := big_in (List.mem_of_getElem? (i := 42) (by decide +kernel)) rfl
theorem nkX6_init : Cond.instanceMethod yX6_init ∈ big := big_in (List.mem_of_getElem? (i := 49) (by decide +kernel)) rfl
theorem nkX3_init : Cond.instanceMethod yX3_init ∈ big := big_in (List.mem_of_getElem? (i := 56) (by decide +kernel)) rfl
theorem nkX9_init : Cond.instanceMethod yX9_init ∈ big := big_in (List.mem_of_getElem? (i := 63) (by decide +kernel)) rfl
theorem nkX4_init : Cond.instanceMethod yX4_init ∈ big := big_in (List.mem_of_getElem? (i := 70) (by decide +kernel)) rfl
theorem nkX1_init : Cond.instanceMethod yX1_init ∈ big := big_in (List.mem_of_getElem? (i := 77) (by decide +kernel)) rfl
theorem nkX2_init : Cond.instanceMethod yX2_init ∈ big := big_in (List.mem_of_getElem? (i := 84) (by decide +kernel)) rfl
theorem nkX5_init : Cond.instanceMethod yX5_init ∈ big := big_in (List.mem_of_getElem? (i := 91) (by decide +kernel)) rfl
theorem nkX7_init : Cond.instanceMethod yX7_init ∈ big := big_in (List.mem_of_getElem? (i := 138) (by decide +kernel)) rfl
theorem nkX10_init : Cond.instanceMethod yX10_init ∈ big := big_in (List.mem_of_getElem? (i := 179) (by decide +kernel)) rfl
theorem nkX11_heap : Cond.instanceMethod yX11_heap ∈ big := big_in (List.mem_of_getElem? (i := 230) (by decide +kernel)) rfl
theorem nkX11_bytesRefusal : Cond.instanceMethod yX11_bytesRefusal ∈ big := big_in (List.mem_of_getElem? (i := 235) (by decide +kernel)) rfl
theorem nkX11_shelfRefusal : Cond.instanceMethod yX11_shelfRefusal ∈ big := big_in (List.mem_of_getElem? (i := 239) (by decide +kernel)) rfl
theorem nkX10_faultOfForm : Cond.instanceMethod yX10_faultOfForm ∈ big := big_in (List.mem_of_getElem? (i := 248) (by decide +kernel)) rfl
theorem nkX10_statementEnd : Cond.instanceMethod yX10_statementEnd ∈ big := big_in (List.mem_of_getElem? (i := 252) (by decide +kernel)) rfl
theorem nkX10_at : Cond.instanceMethod yX10_at ∈ big := big_in (List.mem_of_getElem? (i := 256) (by decide +kernel)) rfl
theorem nkX10_digitEnd : Cond.instanceMethod yX10_digitEnd ∈ big := big_in (List.mem_of_getElem? (i := 261) (by decide +kernel)) rfl
theorem nkX10_isDigit : Cond.instanceMethod yX10_isDigit ∈ big := big_in (List.mem_of_getElem? (i := 265) (by decide +kernel)) rfl
theorem nkX10_numberEnd : Cond.instanceMethod yX10_numberEnd ∈ big := big_in (List.mem_of_getElem? (i := 269) (by decide +kernel)) rfl
theorem nkX10_signEnd : Cond.instanceMethod yX10_signEnd ∈ big := big_in (List.mem_of_getElem? (i := 273) (by decide +kernel)) rfl
theorem nkX11_tellAll : Cond.instanceMethod yX11_tellAll ∈ big := big_in (List.mem_of_getElem? (i := 277) (by decide +kernel)) rfl
theorem nkX5_become : Cond.instanceMethod yX5_become ∈ big := big_in (List.mem_of_getElem? (i := 280) (by decide +kernel)) rfl
theorem nkX5_tell : Cond.instanceMethod yX5_tell ∈ big := big_in (List.mem_of_getElem? (i := 287) (by decide +kernel)) rfl
theorem nkX5_tellBowl : Cond.instanceMethod yX5_tellBowl ∈ big := big_in (List.mem_of_getElem? (i := 293) (by decide +kernel)) rfl
theorem nkX10_digitAt : Cond.instanceMethod yX10_digitAt ∈ big := big_in (List.mem_of_getElem? (i := 296) (by decide +kernel)) rfl
theorem nkX10_numberAt : Cond.instanceMethod yX10_numberAt ∈ big := big_in (List.mem_of_getElem? (i := 300) (by decide +kernel)) rfl
theorem nkX5_add : Cond.instanceMethod yX5_add ∈ big := big_in (List.mem_of_getElem? (i := 305) (by decide +kernel)) rfl
theorem nkX5_place : Cond.instanceMethod yX5_place ∈ big := big_in (List.mem_of_getElem? (i := 310) (by decide +kernel)) rfl
theorem nkX5_flip : Cond.instanceMethod yX5_flip ∈ big := big_in (List.mem_of_getElem? (i := 313) (by decide +kernel)) rfl
theorem nkX5_has : Cond.instanceMethod yX5_has ∈ big := big_in (List.mem_of_getElem? (i := 317) (by decide +kernel)) rfl
theorem nkX5_dropLatest : Cond.instanceMethod yX5_dropLatest ∈ big := big_in (List.mem_of_getElem? (i := 321) (by decide +kernel)) rfl
theorem nkX11_bowl : Cond.instanceMethod yX11_bowl ∈ big := big_in (List.mem_of_getElem? (i := 326) (by decide +kernel)) rfl
theorem nkX5_outsideAt : Cond.instanceMethod yX5_outsideAt ∈ big := big_in (List.mem_of_getElem? (i := 331) (by decide +kernel)) rfl
theorem nkX0_outside : Cond.instanceMethod yX0_outside ∈ big := big_in (List.mem_of_getElem? (i := 335) (by decide +kernel)) rfl
theorem nkX6_outside : Cond.instanceMethod yX6_outside ∈ big := big_in (List.mem_of_getElem? (i := 340) (by decide +kernel)) rfl
theorem nkX4_outside : Cond.instanceMethod yX4_outside ∈ big := big_in (List.mem_of_getElem? (i := 348) (by decide +kernel)) rfl
theorem nkX8_outside : Cond.instanceMethod yX8_outside ∈ big := big_in (List.mem_of_getElem? (i := 355) (by decide +kernel)) rfl
theorem nkX9_outside : Cond.instanceMethod yX9_outside ∈ big := big_in (List.mem_of_getElem? (i := 359) (by decide +kernel)) rfl
theorem nkX5_insideAt : Cond.instanceMethod yX5_insideAt ∈ big := big_in (List.mem_of_getElem? (i := 364) (by decide +kernel)) rfl
theorem nkX0_inside : Cond.instanceMethod yX0_inside ∈ big := big_in (List.mem_of_getElem? (i := 368) (by decide +kernel)) rfl
theorem nkX3_inside : Cond.instanceMethod yX3_inside ∈ big := big_in (List.mem_of_getElem? (i := 372) (by decide +kernel)) rfl
theorem nkX6_inside : Cond.instanceMethod yX6_inside ∈ big := big_in (List.mem_of_getElem? (i := 376) (by decide +kernel)) rfl
theorem nkX4_inside : Cond.instanceMethod yX4_inside ∈ big := big_in (List.mem_of_getElem? (i := 380) (by decide +kernel)) rfl
theorem nkX8_inside : Cond.instanceMethod yX8_inside ∈ big := big_in (List.mem_of_getElem? (i := 385) (by decide +kernel)) rfl
theorem nkX5_riseOf : Cond.instanceMethod yX5_riseOf ∈ big := big_in (List.mem_of_getElem? (i := 391) (by decide +kernel)) rfl
theorem nkX0_rise : Cond.instanceMethod yX0_rise ∈ big := big_in (List.mem_of_getElem? (i := 395) (by decide +kernel)) rfl
theorem nkX1_rise : Cond.instanceMethod yX1_rise ∈ big := big_in (List.mem_of_getElem? (i := 399) (by decide +kernel)) rfl
theorem nkX3_rise : Cond.instanceMethod yX3_rise ∈ big := big_in (List.mem_of_getElem? (i := 402) (by decide +kernel)) rfl
theorem nkX2_rise : Cond.instanceMethod yX2_rise ∈ big := big_in (List.mem_of_getElem? (i := 406) (by decide +kernel)) rfl
theorem nkX6_rise : Cond.instanceMethod yX6_rise ∈ big := big_in (List.mem_of_getElem? (i := 409) (by decide +kernel)) rfl
theorem nkX11_comes : Cond.instanceMethod yX11_comes ∈ big := big_in (List.mem_of_getElem? (i := 419) (by decide +kernel)) rfl
theorem nkX11_bowlRefusal : Cond.instanceMethod yX11_bowlRefusal ∈ big := big_in (List.mem_of_getElem? (i := 427) (by decide +kernel)) rfl
theorem nkX11_warm : Cond.instanceMethod yX11_warm ∈ big := big_in (List.mem_of_getElem? (i := 431) (by decide +kernel)) rfl
theorem nkX11_turn : Cond.instanceMethod yX11_turn ∈ big := big_in (List.mem_of_getElem? (i := 438) (by decide +kernel)) rfl
theorem nkX11_lies : Cond.instanceMethod yX11_lies ∈ big := big_in (List.mem_of_getElem? (i := 443) (by decide +kernel)) rfl
theorem nkX11_arePair : Cond.instanceMethod yX11_arePair ∈ big := big_in (List.mem_of_getElem? (i := 448) (by decide +kernel)) rfl
theorem nkX5_isIn : Cond.instanceMethod yX5_isIn ∈ big := big_in (List.mem_of_getElem? (i := 451) (by decide +kernel)) rfl
theorem nkX5_agree : Cond.instanceMethod yX5_agree ∈ big := big_in (List.mem_of_getElem? (i := 456) (by decide +kernel)) rfl
theorem nkX0_minds : Cond.instanceMethod yX0_minds ∈ big := big_in (List.mem_of_getElem? (i := 459) (by decide +kernel)) rfl
theorem nkX8_minds : Cond.instanceMethod yX8_minds ∈ big := big_in (List.mem_of_getElem? (i := 468) (by decide +kernel)) rfl
theorem nkX11_nest : Cond.instanceMethod yX11_nest ∈ big := big_in (List.mem_of_getElem? (i := 475) (by decide +kernel)) rfl
theorem nkX11_areBowls : Cond.instanceMethod yX11_areBowls ∈ big := big_in (List.mem_of_getElem? (i := 480) (by decide +kernel)) rfl
theorem nkX5_all : Cond.instanceMethod yX5_all ∈ big := big_in (List.mem_of_getElem? (i := 483) (by decide +kernel)) rfl
theorem nkX5_heightOf : Cond.instanceMethod yX5_heightOf ∈ big := big_in (List.mem_of_getElem? (i := 487) (by decide +kernel)) rfl
theorem nkX5_arrange : Cond.instanceMethod yX5_arrange ∈ big := big_in (List.mem_of_getElem? (i := 491) (by decide +kernel)) rfl
theorem nkX11_height : Cond.instanceMethod yX11_height ∈ big := big_in (List.mem_of_getElem? (i := 497) (by decide +kernel)) rfl
theorem nkX11_longest : Cond.instanceMethod yX11_longest ∈ big := big_in (List.mem_of_getElem? (i := 501) (by decide +kernel)) rfl
theorem nkX7_findAll : Cond.instanceMethod yX7_findAll ∈ big := big_in (List.mem_of_getElem? (i := 505) (by decide +kernel)) rfl
theorem nkX7_growBy : Cond.instanceMethod yX7_growBy ∈ big := big_in (List.mem_of_getElem? (i := 515) (by decide +kernel)) rfl
theorem nkX7_note : Cond.instanceMethod yX7_note ∈ big := big_in (List.mem_of_getElem? (i := 520) (by decide +kernel)) rfl
theorem nkX7_longestOf : Cond.instanceMethod yX7_longestOf ∈ big := big_in (List.mem_of_getElem? (i := 523) (by decide +kernel)) rfl
theorem nkX7_isLonger : Cond.instanceMethod yX7_isLonger ∈ big := big_in (List.mem_of_getElem? (i := 528) (by decide +kernel)) rfl
theorem nkX11_fewest : Cond.instanceMethod yX11_fewest ∈ big := big_in (List.mem_of_getElem? (i := 538) (by decide +kernel)) rfl
theorem nkX7_costOneEach : Cond.instanceMethod yX7_costOneEach ∈ big := big_in (List.mem_of_getElem? (i := 543) (by decide +kernel)) rfl
theorem nkX7_leastSum : Cond.instanceMethod yX7_leastSum ∈ big := big_in (List.mem_of_getElem? (i := 548) (by decide +kernel)) rfl
theorem nkX11_apart : Cond.instanceMethod yX11_apart ∈ big := big_in (List.mem_of_getElem? (i := 552) (by decide +kernel)) rfl
theorem nkX7_mostApart : Cond.instanceMethod yX7_mostApart ∈ big := big_in (List.mem_of_getElem? (i := 556) (by decide +kernel)) rfl
theorem nkX7_isApart : Cond.instanceMethod yX7_isApart ∈ big := big_in (List.mem_of_getElem? (i := 561) (by decide +kernel)) rfl
theorem nkX11_carry : Cond.instanceMethod yX11_carry ∈ big := big_in (List.mem_of_getElem? (i := 564) (by decide +kernel)) rfl
theorem nkX7_costHeights : Cond.instanceMethod yX7_costHeights ∈ big := big_in (List.mem_of_getElem? (i := 568) (by decide +kernel)) rfl
theorem nkX11_load : Cond.instanceMethod yX11_load ∈ big := big_in (List.mem_of_getElem? (i := 572) (by decide +kernel)) rfl
theorem nkX11_whole : Cond.instanceMethod yX11_whole ∈ big := big_in (List.mem_of_getElem? (i := 576) (by decide +kernel)) rfl
theorem nkX7_costLessForSetsOf : Cond.instanceMethod yX7_costLessForSetsOf ∈ big := big_in (List.mem_of_getElem? (i := 580) (by decide +kernel)) rfl
theorem nkX11_throwsNew : Cond.instanceMethod yX11_throwsNew ∈ big := big_in (List.mem_of_getElem? (i := 584) (by decide +kernel)) rfl
theorem nkX5_think : Cond.instanceMethod yX5_think ∈ big := big_in (List.mem_of_getElem? (i := 589) (by decide +kernel)) rfl
theorem nkX11_isBridged : Cond.instanceMethod yX11_isBridged ∈ big := big_in (List.mem_of_getElem? (i := 594) (by decide +kernel)) rfl
theorem nkX11_helps : Cond.instanceMethod yX11_helps ∈ big := big_in (List.mem_of_getElem? (i := 597) (by decide +kernel)) rfl
theorem nkX7_findChains : Cond.instanceMethod yX7_findChains ∈ big := big_in (List.mem_of_getElem? (i := 601) (by decide +kernel)) rfl
theorem nkX7_lengthenInward : Cond.instanceMethod yX7_lengthenInward ∈ big := big_in (List.mem_of_getElem? (i := 606) (by decide +kernel)) rfl
theorem nkX7_lengthenOutward : Cond.instanceMethod yX7_lengthenOutward ∈ big := big_in (List.mem_of_getElem? (i := 611) (by decide +kernel)) rfl
theorem nkX7_longestWith : Cond.instanceMethod yX7_longestWith ∈ big := big_in (List.mem_of_getElem? (i := 614) (by decide +kernel)) rfl
theorem nkX11_out : Cond.instanceMethod yX11_out ∈ big := big_in (List.mem_of_getElem? (i := 618) (by decide +kernel)) rfl
theorem nkX11_firstMisplaced : Cond.instanceMethod yX11_firstMisplaced ∈ big := big_in (List.mem_of_getElem? (i := 623) (by decide +kernel)) rfl
theorem nkX11_judge : Cond.instanceMethod yX11_judge ∈ big := big_in (List.mem_of_getElem? (i := 627) (by decide +kernel)) rfl
theorem nkX11_rowRefusal : Cond.instanceMethod yX11_rowRefusal ∈ big := big_in (List.mem_of_getElem? (i := 632) (by decide +kernel)) rfl
theorem nkX11_spans : Cond.instanceMethod yX11_spans ∈ big := big_in (List.mem_of_getElem? (i := 635) (by decide +kernel)) rfl
theorem nkX5_spanned : Cond.instanceMethod yX5_spanned ∈ big := big_in (List.mem_of_getElem? (i := 639) (by decide +kernel)) rfl
theorem nkX11_next : Cond.instanceMethod yX11_next ∈ big := big_in (List.mem_of_getElem? (i := 644) (by decide +kernel)) rfl
theorem nkX11_pairsPerhaps : Cond.instanceMethod yX11_pairsPerhaps ∈ big := big_in (List.mem_of_getElem? (i := 649) (by decide +kernel)) rfl
theorem nkX11_from : Cond.instanceMethod yX11_from ∈ big := big_in (List.mem_of_getElem? (i := 652) (by decide +kernel)) rfl
theorem nkX11_breaks : Cond.instanceMethod yX11_breaks ∈ big := big_in (List.mem_of_getElem? (i := 656) (by decide +kernel)) rfl
theorem nkX11_brokenBy : Cond.instanceMethod yX11_brokenBy ∈ big := big_in (List.mem_of_getElem? (i := 661) (by decide +kernel)) rfl
theorem nkX11_image : Cond.instanceMethod yX11_image ∈ big := big_in (List.mem_of_getElem? (i := 667) (by decide +kernel)) rfl
theorem nkX11_restore : Cond.instanceMethod yX11_restore ∈ big := big_in (List.mem_of_getElem? (i := 671) (by decide +kernel)) rfl
theorem nkX11_count : Cond.instanceMethod yX11_count ∈ big := big_in (List.mem_of_getElem? (i := 675) (by decide +kernel)) rfl
theorem nkX5_pairsIn : Cond.instanceMethod yX5_pairsIn ∈ big := big_in (List.mem_of_getElem? (i := 679) (by decide +kernel)) rfl
theorem nkX5_allDepths : Cond.instanceMethod yX5_allDepths ∈ big := big_in (List.mem_of_getElem? (i := 683) (by decide +kernel)) rfl
theorem nkX11_keep : Cond.instanceMethod yX11_keep ∈ big := big_in (List.mem_of_getElem? (i := 687) (by decide +kernel)) rfl
theorem nkX10_clear : Cond.instanceMethod yX10_clear ∈ big := big_in (List.mem_of_getElem? (i := 691) (by decide +kernel)) rfl
theorem nkX10_holdBowl : Cond.instanceMethod yX10_holdBowl ∈ big := big_in (List.mem_of_getElem? (i := 695) (by decide +kernel)) rfl
theorem nkX11_row : Cond.instanceMethod yX11_row ∈ big := big_in (List.mem_of_getElem? (i := 699) (by decide +kernel)) rfl
theorem nkX10_holdRow : Cond.instanceMethod yX10_holdRow ∈ big := big_in (List.mem_of_getElem? (i := 703) (by decide +kernel)) rfl
theorem nkX11_put : Cond.instanceMethod yX11_put ∈ big := big_in (List.mem_of_getElem? (i := 707) (by decide +kernel)) rfl
theorem nkX10_hasPlace : Cond.instanceMethod yX10_hasPlace ∈ big := big_in (List.mem_of_getElem? (i := 711) (by decide +kernel)) rfl
theorem nkX10_set : Cond.instanceMethod yX10_set ∈ big := big_in (List.mem_of_getElem? (i := 715) (by decide +kernel)) rfl
theorem nkX11_copy : Cond.instanceMethod yX11_copy ∈ big := big_in (List.mem_of_getElem? (i := 719) (by decide +kernel)) rfl
theorem nkX10_hasStretch : Cond.instanceMethod yX10_hasStretch ∈ big := big_in (List.mem_of_getElem? (i := 723) (by decide +kernel)) rfl
theorem nkX11_price : Cond.instanceMethod yX11_price ∈ big := big_in (List.mem_of_getElem? (i := 728) (by decide +kernel)) rfl
theorem nkX0_cost : Cond.instanceMethod yX0_cost ∈ big := big_in (List.mem_of_getElem? (i := 732) (by decide +kernel)) rfl
theorem nkX1_cost : Cond.instanceMethod yX1_cost ∈ big := big_in (List.mem_of_getElem? (i := 736) (by decide +kernel)) rfl
theorem nkX3_cost : Cond.instanceMethod yX3_cost ∈ big := big_in (List.mem_of_getElem? (i := 739) (by decide +kernel)) rfl
theorem nkX2_cost : Cond.instanceMethod yX2_cost ∈ big := big_in (List.mem_of_getElem? (i := 743) (by decide +kernel)) rfl
theorem nkX6_cost : Cond.instanceMethod yX6_cost ∈ big := big_in (List.mem_of_getElem? (i := 746) (by decide +kernel)) rfl
theorem nkX4_cost : Cond.instanceMethod yX4_cost ∈ big := big_in (List.mem_of_getElem? (i := 751) (by decide +kernel)) rfl
theorem nkX8_cost : Cond.instanceMethod yX8_cost ∈ big := big_in (List.mem_of_getElem? (i := 756) (by decide +kernel)) rfl
theorem nkX9_cost : Cond.instanceMethod yX9_cost ∈ big := big_in (List.mem_of_getElem? (i := 760) (by decide +kernel)) rfl
theorem nkX11_toss : Cond.instanceMethod yX11_toss ∈ big := big_in (List.mem_of_getElem? (i := 765) (by decide +kernel)) rfl
theorem nkX0_fail : Cond.instanceMethod yX0_fail ∈ big := big_in (List.mem_of_getElem? (i := 772) (by decide +kernel)) rfl
theorem nkX2_fail : Cond.instanceMethod yX2_fail ∈ big := big_in (List.mem_of_getElem? (i := 777) (by decide +kernel)) rfl
theorem nkX4_fail : Cond.instanceMethod yX4_fail ∈ big := big_in (List.mem_of_getElem? (i := 849) (by decide +kernel)) rfl
theorem nkX9_fail : Cond.instanceMethod yX9_fail ∈ big := big_in (List.mem_of_getElem? (i := 870) (by decide +kernel)) rfl
theorem nkX11_element : Cond.instanceMethod yX11_element ∈ big := big_in (List.mem_of_getElem? (i := 895) (by decide +kernel)) rfl
theorem nkX12_init : Cond.instanceMethod yX12_init ∈ big := big_in (List.mem_of_getElem? (i := 905) (by decide +kernel)) rfl
theorem nkX12_thrown : Cond.instanceMethod yX12_thrown ∈ big := big_in (List.mem_of_getElem? (i := 970) (by decide +kernel)) rfl
theorem nkX12_heap : Cond.instanceMethod yX12_heap ∈ big := big_in (List.mem_of_getElem? (i := 974) (by decide +kernel)) rfl
theorem nkX12_wrongRow : Cond.instanceMethod yX12_wrongRow ∈ big := big_in (List.mem_of_getElem? (i := 979) (by decide +kernel)) rfl
theorem nkX12_readsStatement : Cond.instanceMethod yX12_readsStatement ∈ big := big_in (List.mem_of_getElem? (i := 990) (by decide +kernel)) rfl
theorem nkX12_here : Cond.instanceMethod yX12_here ∈ big := big_in (List.mem_of_getElem? (i := 994) (by decide +kernel)) rfl
theorem nkX12_readsNumber : Cond.instanceMethod yX12_readsNumber ∈ big := big_in (List.mem_of_getElem? (i := 998) (by decide +kernel)) rfl
theorem nkX12_isDigit : Cond.instanceMethod yX12_isDigit ∈ big := big_in (List.mem_of_getElem? (i := 1002) (by decide +kernel)) rfl
theorem nkX12_takes : Cond.instanceMethod yX12_takes ∈ big := big_in (List.mem_of_getElem? (i := 1008) (by decide +kernel)) rfl
theorem nkX12_comesTold : Cond.instanceMethod yX12_comesTold ∈ big := big_in (List.mem_of_getElem? (i := 1015) (by decide +kernel)) rfl
theorem nkX12_puts : Cond.instanceMethod yX12_puts ∈ big := big_in (List.mem_of_getElem? (i := 1019) (by decide +kernel)) rfl
theorem nkX12_isBowl : Cond.instanceMethod yX12_isBowl ∈ big := big_in (List.mem_of_getElem? (i := 1023) (by decide +kernel)) rfl
theorem nkX12_get : Cond.instanceMethod yX12_get ∈ big := big_in (List.mem_of_getElem? (i := 1027) (by decide +kernel)) rfl
theorem nkX12_bowl : Cond.instanceMethod yX12_bowl ∈ big := big_in (List.mem_of_getElem? (i := 1030) (by decide +kernel)) rfl
theorem nkX12_outside : Cond.instanceMethod yX12_outside ∈ big := big_in (List.mem_of_getElem? (i := 1035) (by decide +kernel)) rfl
theorem nkX12_outsideBy : Cond.instanceMethod yX12_outsideBy ∈ big := big_in (List.mem_of_getElem? (i := 1039) (by decide +kernel)) rfl
theorem nkX12_turned : Cond.instanceMethod yX12_turned ∈ big := big_in (List.mem_of_getElem? (i := 1043) (by decide +kernel)) rfl
theorem nkX12_inside : Cond.instanceMethod yX12_inside ∈ big := big_in (List.mem_of_getElem? (i := 1047) (by decide +kernel)) rfl
theorem nkX12_insideBy : Cond.instanceMethod yX12_insideBy ∈ big := big_in (List.mem_of_getElem? (i := 1051) (by decide +kernel)) rfl
theorem nkX12_rise : Cond.instanceMethod yX12_rise ∈ big := big_in (List.mem_of_getElem? (i := 1055) (by decide +kernel)) rfl
theorem nkX12_comes : Cond.instanceMethod yX12_comes ∈ big := big_in (List.mem_of_getElem? (i := 1058) (by decide +kernel)) rfl
theorem nkX12_wrongKept : Cond.instanceMethod yX12_wrongKept ∈ big := big_in (List.mem_of_getElem? (i := 1064) (by decide +kernel)) rfl
theorem nkX12_adds : Cond.instanceMethod yX12_adds ∈ big := big_in (List.mem_of_getElem? (i := 1068) (by decide +kernel)) rfl
theorem nkX12_warm : Cond.instanceMethod yX12_warm ∈ big := big_in (List.mem_of_getElem? (i := 1071) (by decide +kernel)) rfl
theorem nkX12_turn : Cond.instanceMethod yX12_turn ∈ big := big_in (List.mem_of_getElem? (i := 1076) (by decide +kernel)) rfl
theorem nkX12_lies : Cond.instanceMethod yX12_lies ∈ big := big_in (List.mem_of_getElem? (i := 1080) (by decide +kernel)) rfl
theorem nkX12_liesNow : Cond.instanceMethod yX12_liesNow ∈ big := big_in (List.mem_of_getElem? (i := 1085) (by decide +kernel)) rfl
theorem nkX12_liesAt : Cond.instanceMethod yX12_liesAt ∈ big := big_in (List.mem_of_getElem? (i := 1089) (by decide +kernel)) rfl
theorem nkX12_fitsBut : Cond.instanceMethod yX12_fitsBut ∈ big := big_in (List.mem_of_getElem? (i := 1093) (by decide +kernel)) rfl
theorem nkX12_isOval : Cond.instanceMethod yX12_isOval ∈ big := big_in (List.mem_of_getElem? (i := 1097) (by decide +kernel)) rfl
theorem nkX12_nest : Cond.instanceMethod yX12_nest ∈ big := big_in (List.mem_of_getElem? (i := 1100) (by decide +kernel)) rfl
theorem nkX12_areBowls : Cond.instanceMethod yX12_areBowls ∈ big := big_in (List.mem_of_getElem? (i := 1105) (by decide +kernel)) rfl
theorem nkX12_everything : Cond.instanceMethod yX12_everything ∈ big := big_in (List.mem_of_getElem? (i := 1109) (by decide +kernel)) rfl
theorem nkX12_isNest : Cond.instanceMethod yX12_isNest ∈ big := big_in (List.mem_of_getElem? (i := 1113) (by decide +kernel)) rfl
theorem nkX12_outermost : Cond.instanceMethod yX12_outermost ∈ big := big_in (List.mem_of_getElem? (i := 1117) (by decide +kernel)) rfl
theorem nkX12_height : Cond.instanceMethod yX12_height ∈ big := big_in (List.mem_of_getElem? (i := 1120) (by decide +kernel)) rfl
theorem nkX12_heightOf : Cond.instanceMethod yX12_heightOf ∈ big := big_in (List.mem_of_getElem? (i := 1125) (by decide +kernel)) rfl
theorem nkX12_longest : Cond.instanceMethod yX12_longest ∈ big := big_in (List.mem_of_getElem? (i := 1128) (by decide +kernel)) rfl
theorem nkX12_longestOf : Cond.instanceMethod yX12_longestOf ∈ big := big_in (List.mem_of_getElem? (i := 1133) (by decide +kernel)) rfl
theorem nkX12_fewest : Cond.instanceMethod yX12_fewest ∈ big := big_in (List.mem_of_getElem? (i := 1139) (by decide +kernel)) rfl
theorem nkX12_leastOf : Cond.instanceMethod yX12_leastOf ∈ big := big_in (List.mem_of_getElem? (i := 1144) (by decide +kernel)) rfl
theorem nkX12_counted : Cond.instanceMethod yX12_counted ∈ big := big_in (List.mem_of_getElem? (i := 1148) (by decide +kernel)) rfl
theorem nkX12_carry : Cond.instanceMethod yX12_carry ∈ big := big_in (List.mem_of_getElem? (i := 1152) (by decide +kernel)) rfl
theorem nkX12_load : Cond.instanceMethod yX12_load ∈ big := big_in (List.mem_of_getElem? (i := 1156) (by decide +kernel)) rfl
theorem nkX12_apart : Cond.instanceMethod yX12_apart ∈ big := big_in (List.mem_of_getElem? (i := 1160) (by decide +kernel)) rfl
theorem nkX12_areApart : Cond.instanceMethod yX12_areApart ∈ big := big_in (List.mem_of_getElem? (i := 1165) (by decide +kernel)) rfl
theorem nkX12_whole : Cond.instanceMethod yX12_whole ∈ big := big_in (List.mem_of_getElem? (i := 1168) (by decide +kernel)) rfl
theorem nkX12_wholeOf : Cond.instanceMethod yX12_wholeOf ∈ big := big_in (List.mem_of_getElem? (i := 1173) (by decide +kernel)) rfl
theorem nkX12_throwsNew : Cond.instanceMethod yX12_throwsNew ∈ big := big_in (List.mem_of_getElem? (i := 1176) (by decide +kernel)) rfl
theorem nkX12_canBeBetween : Cond.instanceMethod yX12_canBeBetween ∈ big := big_in (List.mem_of_getElem? (i := 1181) (by decide +kernel)) rfl
theorem nkX12_helps : Cond.instanceMethod yX12_helps ∈ big := big_in (List.mem_of_getElem? (i := 1184) (by decide +kernel)) rfl
theorem nkX12_longestRow : Cond.instanceMethod yX12_longestRow ∈ big := big_in (List.mem_of_getElem? (i := 1189) (by decide +kernel)) rfl
theorem nkX12_out : Cond.instanceMethod yX12_out ∈ big := big_in (List.mem_of_getElem? (i := 1192) (by decide +kernel)) rfl
theorem nkX12_wrongOut : Cond.instanceMethod yX12_wrongOut ∈ big := big_in (List.mem_of_getElem? (i := 1197) (by decide +kernel)) rfl
theorem nkX12_wrongAt : Cond.instanceMethod yX12_wrongAt ∈ big := big_in (List.mem_of_getElem? (i := 1201) (by decide +kernel)) rfl
theorem nkX12_judge : Cond.instanceMethod yX12_judge ∈ big := big_in (List.mem_of_getElem? (i := 1204) (by decide +kernel)) rfl
theorem nkX12_spans : Cond.instanceMethod yX12_spans ∈ big := big_in (List.mem_of_getElem? (i := 1208) (by decide +kernel)) rfl
theorem nkX12_spanOf : Cond.instanceMethod yX12_spanOf ∈ big := big_in (List.mem_of_getElem? (i := 1213) (by decide +kernel)) rfl
theorem nkX12_next : Cond.instanceMethod yX12_next ∈ big := big_in (List.mem_of_getElem? (i := 1219) (by decide +kernel)) rfl
theorem nkX12_perhaps : Cond.instanceMethod yX12_perhaps ∈ big := big_in (List.mem_of_getElem? (i := 1224) (by decide +kernel)) rfl
theorem nkX12_from : Cond.instanceMethod yX12_from ∈ big := big_in (List.mem_of_getElem? (i := 1227) (by decide +kernel)) rfl
theorem nkX12_breaks : Cond.instanceMethod yX12_breaks ∈ big := big_in (List.mem_of_getElem? (i := 1231) (by decide +kernel)) rfl
theorem nkX12_drawn : Cond.instanceMethod yX12_drawn ∈ big := big_in (List.mem_of_getElem? (i := 1237) (by decide +kernel)) rfl
theorem nkX12_image : Cond.instanceMethod yX12_image ∈ big := big_in (List.mem_of_getElem? (i := 1243) (by decide +kernel)) rfl
theorem nkX12_restore : Cond.instanceMethod yX12_restore ∈ big := big_in (List.mem_of_getElem? (i := 1247) (by decide +kernel)) rfl
theorem nkX12_count : Cond.instanceMethod yX12_count ∈ big := big_in (List.mem_of_getElem? (i := 1251) (by decide +kernel)) rfl
theorem nkX12_keep : Cond.instanceMethod yX12_keep ∈ big := big_in (List.mem_of_getElem? (i := 1255) (by decide +kernel)) rfl
theorem nkX12_row : Cond.instanceMethod yX12_row ∈ big := big_in (List.mem_of_getElem? (i := 1259) (by decide +kernel)) rfl
theorem nkX12_put : Cond.instanceMethod yX12_put ∈ big := big_in (List.mem_of_getElem? (i := 1264) (by decide +kernel)) rfl
theorem nkX12_element : Cond.instanceMethod yX12_element ∈ big := big_in (List.mem_of_getElem? (i := 1268) (by decide +kernel)) rfl
theorem nkX12_copy : Cond.instanceMethod yX12_copy ∈ big := big_in (List.mem_of_getElem? (i := 1272) (by decide +kernel)) rfl
theorem nkX12_price : Cond.instanceMethod yX12_price ∈ big := big_in (List.mem_of_getElem? (i := 1276) (by decide +kernel)) rfl
theorem nkX12_toss : Cond.instanceMethod yX12_toss ∈ big := big_in (List.mem_of_getElem? (i := 1283) (by decide +kernel)) rfl
theorem skX11_isShelf : Cond.static yX11_isShelf ∈ big := big_in (List.mem_of_getElem? (i := 242) (by decide +kernel)) rfl
theorem skX11_isWithin : Cond.static yX11_isWithin ∈ big := big_in (List.mem_of_getElem? (i := 245) (by decide +kernel)) rfl
theorem skJ9_max_7cf53 : Cond.static yJ9_max_7cf53 ∈ big := big_in (List.mem_of_getElem? (i := 344) (by decide +kernel)) rfl
theorem skX11_areHairs : Cond.static yX11_areHairs ∈ big := big_in (List.mem_of_getElem? (i := 423) (by decide +kernel)) rfl
theorem skX11_isWarmth : Cond.static yX11_isWarmth ∈ big := big_in (List.mem_of_getElem? (i := 435) (by decide +kernel)) rfl
theorem skJ9_min_7cf53 : Cond.static yJ9_min_7cf53 ∈ big := big_in (List.mem_of_getElem? (i := 509) (by decide +kernel)) rfl
theorem skJ6_bitCount_0f7a4 : Cond.static yJ6_bitCount_0f7a4 ∈ big := big_in (List.mem_of_getElem? (i := 531) (by decide +kernel)) rfl
theorem skL_element : Cond.static yL_element ∈ big := big_in (List.mem_of_getElem? (i := 890) (by decide +kernel)) rfl
theorem skX12_isShelf : Cond.static yX12_isShelf ∈ big := big_in (List.mem_of_getElem? (i := 982) (by decide +kernel)) rfl
theorem skX12_isIn : Cond.static yX12_isIn ∈ big := big_in (List.mem_of_getElem? (i := 986) (by decide +kernel)) rfl
theorem skX12_lays : Cond.static yX12_lays ∈ big := big_in (List.mem_of_getElem? (i := 1011) (by decide +kernel)) rfl
theorem skX12_bits : Cond.static yX12_bits ∈ big := big_in (List.mem_of_getElem? (i := 1136) (by decide +kernel)) rfl
theorem skX12_narrow : Cond.static yX12_narrow ∈ big := big_in (List.mem_of_getElem? (i := 1216) (by decide +kernel)) rfl
theorem skX12_priceBy : Cond.static yX12_priceBy ∈ big := big_in (List.mem_of_getElem? (i := 1280) (by decide +kernel)) rfl
theorem vkX0_cost : Cond.selects yX0_cost.cls yX0_cost yX0_cost ∈ big := big_in (List.mem_of_getElem? (i := 733) (by decide +kernel)) rfl
theorem vkX11_fewest : Cond.selects yX11_fewest.cls yX11_fewest yX11_fewest ∈ big := big_in (List.mem_of_getElem? (i := 539) (by decide +kernel)) rfl
theorem vkX11_load : Cond.selects yX11_load.cls yX11_load yX11_load ∈ big := big_in (List.mem_of_getElem? (i := 573) (by decide +kernel)) rfl
theorem vkX12_next : Cond.selects yX12_next.cls yX12_next yX12_next ∈ big := big_in (List.mem_of_getElem? (i := 1220) (by decide +kernel)) rfl
theorem vkX11_nest : Cond.selects yX11_nest.cls yX11_nest yX11_nest ∈ big := big_in (List.mem_of_getElem? (i := 476) (by decide +kernel)) rfl
theorem vkX7_mostApart : Cond.selects yX7_mostApart.cls yX7_mostApart yX7_mostApart ∈ big := big_in (List.mem_of_getElem? (i := 557) (by decide +kernel)) rfl
theorem vkX12_longest : Cond.selects yX12_longest.cls yX12_longest yX12_longest ∈ big := big_in (List.mem_of_getElem? (i := 1129) (by decide +kernel)) rfl
theorem vkX11_tellAll : Cond.selects yX11_tellAll.cls yX11_tellAll yX11_tellAll ∈ big := big_sel (q := (yX11_tellAll, 7)) (List.mem_of_getElem? (i := 6) (by decide +kernel))
theorem vkX11_throwsNew : Cond.selects yX11_throwsNew.cls yX11_throwsNew yX11_throwsNew ∈ big := big_in (List.mem_of_getElem? (i := 585) (by decide +kernel)) rfl
theorem vkX11_pairsPerhaps : Cond.selects yX11_pairsPerhaps.cls yX11_pairsPerhaps yX11_pairsPerhaps ∈ big := big_sel (q := (yX11_pairsPerhaps, 7)) (List.mem_of_getElem? (i := 22) (by decide +kernel))
theorem vkX11_bowl : Cond.selects yX11_bowl.cls yX11_bowl yX11_bowl ∈ big := big_in (List.mem_of_getElem? (i := 327) (by decide +kernel)) rfl
theorem vkX11_bowlRefusal : Cond.selects yX11_bowlRefusal.cls yX11_bowlRefusal yX11_bowlRefusal ∈ big := big_sel (q := (yX11_bowlRefusal, 7)) (List.mem_of_getElem? (i := 9) (by decide +kernel))
theorem vkX5_tell : Cond.selects yX5_tell.cls yX5_tell yX5_tell ∈ big := big_in (List.mem_of_getElem? (i := 288) (by decide +kernel)) rfl
theorem vkX12_fewest : Cond.selects yX12_fewest.cls yX12_fewest yX12_fewest ∈ big := big_in (List.mem_of_getElem? (i := 1140) (by decide +kernel)) rfl
theorem vkX12_whole : Cond.selects yX12_whole.cls yX12_whole yX12_whole ∈ big := big_in (List.mem_of_getElem? (i := 1169) (by decide +kernel)) rfl
theorem vkX7_findChains : Cond.selects yX7_findChains.cls yX7_findChains yX7_findChains ∈ big := big_in (List.mem_of_getElem? (i := 602) (by decide +kernel)) rfl
theorem vkX11_helps : Cond.selects yX11_helps.cls yX11_helps yX11_helps ∈ big := big_in (List.mem_of_getElem? (i := 598) (by decide +kernel)) rfl
-- no selects: X6_outside
theorem vkX12_lies : Cond.selects yX12_lies.cls yX12_lies yX12_lies ∈ big := big_in (List.mem_of_getElem? (i := 1081) (by decide +kernel)) rfl
theorem vkX12_price : Cond.selects yX12_price.cls yX12_price yX12_price ∈ big := big_in (List.mem_of_getElem? (i := 1277) (by decide +kernel)) rfl
theorem vkX12_rise : Cond.selects yX12_rise.cls yX12_rise yX12_rise ∈ big := big_sel (q := (yX12_rise, 20)) (List.mem_of_getElem? (i := 40) (by decide +kernel))
theorem vkX7_costHeights : Cond.selects yX7_costHeights.cls yX7_costHeights yX7_costHeights ∈ big := big_in (List.mem_of_getElem? (i := 569) (by decide +kernel)) rfl
theorem vkX12_everything : Cond.selects yX12_everything.cls yX12_everything yX12_everything ∈ big := big_sel (q := (yX12_everything, 20)) (List.mem_of_getElem? (i := 48) (by decide +kernel))
-- no selects: X2_fail
theorem vkX12_warm : Cond.selects yX12_warm.cls yX12_warm yX12_warm ∈ big := big_in (List.mem_of_getElem? (i := 1072) (by decide +kernel)) rfl
theorem vkX5_arrange : Cond.selects yX5_arrange.cls yX5_arrange yX5_arrange ∈ big := big_in (List.mem_of_getElem? (i := 492) (by decide +kernel)) rfl
theorem vkX12_out : Cond.selects yX12_out.cls yX12_out yX12_out ∈ big := big_in (List.mem_of_getElem? (i := 1193) (by decide +kernel)) rfl
theorem vkX11_spans : Cond.selects yX11_spans.cls yX11_spans yX11_spans ∈ big := big_in (List.mem_of_getElem? (i := 636) (by decide +kernel)) rfl
theorem vkX12_from : Cond.selects yX12_from.cls yX12_from yX12_from ∈ big := big_in (List.mem_of_getElem? (i := 1228) (by decide +kernel)) rfl
theorem vkX7_isLonger : Cond.selects yX7_isLonger.cls yX7_isLonger yX7_isLonger ∈ big := big_sel (q := (yX7_isLonger, 11)) (List.mem_of_getElem? (i := 15) (by decide +kernel))
theorem vkX7_findAll : Cond.selects yX7_findAll.cls yX7_findAll yX7_findAll ∈ big := big_in (List.mem_of_getElem? (i := 506) (by decide +kernel)) rfl
theorem vkX10_holdBowl : Cond.selects yX10_holdBowl.cls yX10_holdBowl yX10_holdBowl ∈ big := big_in (List.mem_of_getElem? (i := 696) (by decide +kernel)) rfl
-- no selects: X1_rise
theorem vkX12_longestOf : Cond.selects yX12_longestOf.cls yX12_longestOf yX12_longestOf ∈ big := big_sel (q := (yX12_longestOf, 20)) (List.mem_of_getElem? (i := 52) (by decide +kernel))
theorem vkX0_inside : Cond.selects yX0_inside.cls yX0_inside yX0_inside ∈ big := big_in (List.mem_of_getElem? (i := 369) (by decide +kernel)) rfl
theorem vkX12_isBowl : Cond.selects yX12_isBowl.cls yX12_isBowl yX12_isBowl ∈ big := big_sel (q := (yX12_isBowl, 20)) (List.mem_of_getElem? (i := 33) (by decide +kernel))
theorem vkX12_counted : Cond.selects yX12_counted.cls yX12_counted yX12_counted ∈ big := big_sel (q := (yX12_counted, 20)) (List.mem_of_getElem? (i := 54) (by decide +kernel))
theorem vkX11_heap : Cond.selects yX11_heap.cls yX11_heap yX11_heap ∈ big := big_in (List.mem_of_getElem? (i := 231) (by decide +kernel)) rfl
theorem vkX12_isNest : Cond.selects yX12_isNest.cls yX12_isNest yX12_isNest ∈ big := big_sel (q := (yX12_isNest, 20)) (List.mem_of_getElem? (i := 49) (by decide +kernel))
theorem vkX12_toss : Cond.selects yX12_toss.cls yX12_toss yX12_toss ∈ big := big_in (List.mem_of_getElem? (i := 1284) (by decide +kernel)) rfl
theorem vkX11_breaks : Cond.selects yX11_breaks.cls yX11_breaks yX11_breaks ∈ big := big_in (List.mem_of_getElem? (i := 657) (by decide +kernel)) rfl
theorem vkX7_growBy : Cond.selects yX7_growBy.cls yX7_growBy yX7_growBy ∈ big := big_sel (q := (yX7_growBy, 11)) (List.mem_of_getElem? (i := 13) (by decide +kernel))
theorem vkX12_takes : Cond.selects yX12_takes.cls yX12_takes yX12_takes ∈ big := big_sel (q := (yX12_takes, 20)) (List.mem_of_getElem? (i := 30) (by decide +kernel))
theorem vkX11_isBridged : Cond.selects yX11_isBridged.cls yX11_isBridged yX11_isBridged ∈ big := big_sel (q := (yX11_isBridged, 7)) (List.mem_of_getElem? (i := 17) (by decide +kernel))
theorem vkX11_copy : Cond.selects yX11_copy.cls yX11_copy yX11_copy ∈ big := big_in (List.mem_of_getElem? (i := 720) (by decide +kernel)) rfl
theorem vkX11_whole : Cond.selects yX11_whole.cls yX11_whole yX11_whole ∈ big := big_in (List.mem_of_getElem? (i := 577) (by decide +kernel)) rfl
theorem vkX5_pairsIn : Cond.selects yX5_pairsIn.cls yX5_pairsIn yX5_pairsIn ∈ big := big_in (List.mem_of_getElem? (i := 680) (by decide +kernel)) rfl
-- no selects: X8_inside
theorem vkX11_put : Cond.selects yX11_put.cls yX11_put yX11_put ∈ big := big_in (List.mem_of_getElem? (i := 708) (by decide +kernel)) rfl
theorem vkX11_image : Cond.selects yX11_image.cls yX11_image yX11_image ∈ big := big_in (List.mem_of_getElem? (i := 668) (by decide +kernel)) rfl
-- no selects: X8_cost
theorem vkX12_judge : Cond.selects yX12_judge.cls yX12_judge yX12_judge ∈ big := big_in (List.mem_of_getElem? (i := 1205) (by decide +kernel)) rfl
theorem vkX12_get : Cond.selects yX12_get.cls yX12_get yX12_get ∈ big := big_sel (q := (yX12_get, 20)) (List.mem_of_getElem? (i := 34) (by decide +kernel))
-- no selects: X9_outside
theorem vkX7_longestOf : Cond.selects yX7_longestOf.cls yX7_longestOf yX7_longestOf ∈ big := big_in (List.mem_of_getElem? (i := 524) (by decide +kernel)) rfl
theorem vkX0_rise : Cond.selects yX0_rise.cls yX0_rise yX0_rise ∈ big := big_in (List.mem_of_getElem? (i := 396) (by decide +kernel)) rfl
theorem vkX12_nest : Cond.selects yX12_nest.cls yX12_nest yX12_nest ∈ big := big_in (List.mem_of_getElem? (i := 1101) (by decide +kernel)) rfl
theorem vkX12_copy : Cond.selects yX12_copy.cls yX12_copy yX12_copy ∈ big := big_in (List.mem_of_getElem? (i := 1273) (by decide +kernel)) rfl
theorem vkX12_throwsNew : Cond.selects yX12_throwsNew.cls yX12_throwsNew yX12_throwsNew ∈ big := big_in (List.mem_of_getElem? (i := 1177) (by decide +kernel)) rfl
theorem vkX12_bowl : Cond.selects yX12_bowl.cls yX12_bowl yX12_bowl ∈ big := big_in (List.mem_of_getElem? (i := 1031) (by decide +kernel)) rfl
theorem vkX12_turned : Cond.selects yX12_turned.cls yX12_turned yX12_turned ∈ big := big_sel (q := (yX12_turned, 20)) (List.mem_of_getElem? (i := 37) (by decide +kernel))
theorem vkX10_digitEnd : Cond.selects yX10_digitEnd.cls yX10_digitEnd yX10_digitEnd ∈ big := big_sel (q := (yX10_digitEnd, 6)) (List.mem_of_getElem? (i := 2) (by decide +kernel))
theorem vkX12_liesNow : Cond.selects yX12_liesNow.cls yX12_liesNow yX12_liesNow ∈ big := big_sel (q := (yX12_liesNow, 20)) (List.mem_of_getElem? (i := 43) (by decide +kernel))
theorem vkX12_outermost : Cond.selects yX12_outermost.cls yX12_outermost yX12_outermost ∈ big := big_sel (q := (yX12_outermost, 20)) (List.mem_of_getElem? (i := 50) (by decide +kernel))
theorem vkX11_apart : Cond.selects yX11_apart.cls yX11_apart yX11_apart ∈ big := big_in (List.mem_of_getElem? (i := 553) (by decide +kernel)) rfl
theorem vkX11_from : Cond.selects yX11_from.cls yX11_from yX11_from ∈ big := big_in (List.mem_of_getElem? (i := 653) (by decide +kernel)) rfl
theorem vkX7_isApart : Cond.selects yX7_isApart.cls yX7_isApart yX7_isApart ∈ big := big_sel (q := (yX7_isApart, 11)) (List.mem_of_getElem? (i := 16) (by decide +kernel))
theorem vkX12_wrongKept : Cond.selects yX12_wrongKept.cls yX12_wrongKept yX12_wrongKept ∈ big := big_sel (q := (yX12_wrongKept, 20)) (List.mem_of_getElem? (i := 41) (by decide +kernel))
theorem vkX10_hasStretch : Cond.selects yX10_hasStretch.cls yX10_hasStretch yX10_hasStretch ∈ big := big_in (List.mem_of_getElem? (i := 724) (by decide +kernel)) rfl
theorem vkX12_perhaps : Cond.selects yX12_perhaps.cls yX12_perhaps yX12_perhaps ∈ big := big_sel (q := (yX12_perhaps, 20)) (List.mem_of_getElem? (i := 62) (by decide +kernel))
theorem vkX12_isDigit : Cond.selects yX12_isDigit.cls yX12_isDigit yX12_isDigit ∈ big := big_sel (q := (yX12_isDigit, 20)) (List.mem_of_getElem? (i := 29) (by decide +kernel))
-- no selects: X9_fail
theorem vkX12_helps : Cond.selects yX12_helps.cls yX12_helps yX12_helps ∈ big := big_in (List.mem_of_getElem? (i := 1185) (by decide +kernel)) rfl
theorem vkX12_longestRow : Cond.selects yX12_longestRow.cls yX12_longestRow yX12_longestRow ∈ big := big_sel (q := (yX12_longestRow, 20)) (List.mem_of_getElem? (i := 58) (by decide +kernel))
theorem vkX12_areBowls : Cond.selects yX12_areBowls.cls yX12_areBowls yX12_areBowls ∈ big := big_sel (q := (yX12_areBowls, 20)) (List.mem_of_getElem? (i := 47) (by decide +kernel))
theorem vkX10_faultOfForm : Cond.selects yX10_faultOfForm.cls yX10_faultOfForm yX10_faultOfForm ∈ big := big_in (List.mem_of_getElem? (i := 249) (by decide +kernel)) rfl
theorem vkX10_numberAt : Cond.selects yX10_numberAt.cls yX10_numberAt yX10_numberAt ∈ big := big_in (List.mem_of_getElem? (i := 301) (by decide +kernel)) rfl
theorem vkX12_readsNumber : Cond.selects yX12_readsNumber.cls yX12_readsNumber yX12_readsNumber ∈ big := big_sel (q := (yX12_readsNumber, 20)) (List.mem_of_getElem? (i := 28) (by decide +kernel))
theorem vkX11_arePair : Cond.selects yX11_arePair.cls yX11_arePair yX11_arePair ∈ big := big_sel (q := (yX11_arePair, 7)) (List.mem_of_getElem? (i := 10) (by decide +kernel))
theorem vkX12_insideBy : Cond.selects yX12_insideBy.cls yX12_insideBy yX12_insideBy ∈ big := big_sel (q := (yX12_insideBy, 20)) (List.mem_of_getElem? (i := 39) (by decide +kernel))
theorem vkX7_costOneEach : Cond.selects yX7_costOneEach.cls yX7_costOneEach yX7_costOneEach ∈ big := big_in (List.mem_of_getElem? (i := 544) (by decide +kernel)) rfl
theorem vkX5_spanned : Cond.selects yX5_spanned.cls yX5_spanned yX5_spanned ∈ big := big_in (List.mem_of_getElem? (i := 640) (by decide +kernel)) rfl
theorem vkX12_fitsBut : Cond.selects yX12_fitsBut.cls yX12_fitsBut yX12_fitsBut ∈ big := big_sel (q := (yX12_fitsBut, 20)) (List.mem_of_getElem? (i := 45) (by decide +kernel))
theorem vkX12_wrongOut : Cond.selects yX12_wrongOut.cls yX12_wrongOut yX12_wrongOut ∈ big := big_sel (q := (yX12_wrongOut, 20)) (List.mem_of_getElem? (i := 59) (by decide +kernel))
theorem vkX11_count : Cond.selects yX11_count.cls yX11_count yX11_count ∈ big := big_in (List.mem_of_getElem? (i := 676) (by decide +kernel)) rfl
theorem vkX12_adds : Cond.selects yX12_adds.cls yX12_adds yX12_adds ∈ big := big_sel (q := (yX12_adds, 20)) (List.mem_of_getElem? (i := 42) (by decide +kernel))
theorem vkX11_comes : Cond.selects yX11_comes.cls yX11_comes yX11_comes ∈ big := big_in (List.mem_of_getElem? (i := 420) (by decide +kernel)) rfl
theorem vkX12_spans : Cond.selects yX12_spans.cls yX12_spans yX12_spans ∈ big := big_in (List.mem_of_getElem? (i := 1209) (by decide +kernel)) rfl
-- no selects: X2_cost
theorem vkX12_turn : Cond.selects yX12_turn.cls yX12_turn yX12_turn ∈ big := big_in (List.mem_of_getElem? (i := 1077) (by decide +kernel)) rfl
theorem vkX5_flip : Cond.selects yX5_flip.cls yX5_flip yX5_flip ∈ big := big_in (List.mem_of_getElem? (i := 314) (by decide +kernel)) rfl
theorem vkX11_firstMisplaced : Cond.selects yX11_firstMisplaced.cls yX11_firstMisplaced yX11_firstMisplaced ∈ big := big_sel (q := (yX11_firstMisplaced, 7)) (List.mem_of_getElem? (i := 20) (by decide +kernel))
theorem vkX12_heap : Cond.selects yX12_heap.cls yX12_heap yX12_heap ∈ big := big_in (List.mem_of_getElem? (i := 975) (by decide +kernel)) rfl
theorem vkX11_lies : Cond.selects yX11_lies.cls yX11_lies yX11_lies ∈ big := big_in (List.mem_of_getElem? (i := 444) (by decide +kernel)) rfl
theorem vkX12_keep : Cond.selects yX12_keep.cls yX12_keep yX12_keep ∈ big := big_in (List.mem_of_getElem? (i := 1256) (by decide +kernel)) rfl
theorem vkX5_has : Cond.selects yX5_has.cls yX5_has yX5_has ∈ big := big_in (List.mem_of_getElem? (i := 318) (by decide +kernel)) rfl
theorem vkX11_height : Cond.selects yX11_height.cls yX11_height yX11_height ∈ big := big_in (List.mem_of_getElem? (i := 498) (by decide +kernel)) rfl
theorem vkX5_think : Cond.selects yX5_think.cls yX5_think yX5_think ∈ big := big_in (List.mem_of_getElem? (i := 590) (by decide +kernel)) rfl
-- no selects: X4_outside
-- no selects: X2_rise
theorem vkX5_riseOf : Cond.selects yX5_riseOf.cls yX5_riseOf yX5_riseOf ∈ big := big_in (List.mem_of_getElem? (i := 392) (by decide +kernel)) rfl
theorem vkX12_wrongAt : Cond.selects yX12_wrongAt.cls yX12_wrongAt yX12_wrongAt ∈ big := big_sel (q := (yX12_wrongAt, 20)) (List.mem_of_getElem? (i := 60) (by decide +kernel))
theorem vkX12_image : Cond.selects yX12_image.cls yX12_image yX12_image ∈ big := big_in (List.mem_of_getElem? (i := 1244) (by decide +kernel)) rfl
theorem vkX5_tellBowl : Cond.selects yX5_tellBowl.cls yX5_tellBowl yX5_tellBowl ∈ big := big_sel (q := (yX5_tellBowl, 9)) (List.mem_of_getElem? (i := 7) (by decide +kernel))
theorem vkX12_comesTold : Cond.selects yX12_comesTold.cls yX12_comesTold yX12_comesTold ∈ big := big_sel (q := (yX12_comesTold, 20)) (List.mem_of_getElem? (i := 31) (by decide +kernel))
theorem vkX7_longestWith : Cond.selects yX7_longestWith.cls yX7_longestWith yX7_longestWith ∈ big := big_in (List.mem_of_getElem? (i := 615) (by decide +kernel)) rfl
theorem vkX12_spanOf : Cond.selects yX12_spanOf.cls yX12_spanOf yX12_spanOf ∈ big := big_sel (q := (yX12_spanOf, 20)) (List.mem_of_getElem? (i := 61) (by decide +kernel))
theorem vkX11_restore : Cond.selects yX11_restore.cls yX11_restore yX11_restore ∈ big := big_in (List.mem_of_getElem? (i := 672) (by decide +kernel)) rfl
theorem vkX10_hasPlace : Cond.selects yX10_hasPlace.cls yX10_hasPlace yX10_hasPlace ∈ big := big_in (List.mem_of_getElem? (i := 712) (by decide +kernel)) rfl
theorem vkX12_outside : Cond.selects yX12_outside.cls yX12_outside yX12_outside ∈ big := big_sel (q := (yX12_outside, 20)) (List.mem_of_getElem? (i := 35) (by decide +kernel))
theorem vkX12_load : Cond.selects yX12_load.cls yX12_load yX12_load ∈ big := big_in (List.mem_of_getElem? (i := 1157) (by decide +kernel)) rfl
theorem vkX12_height : Cond.selects yX12_height.cls yX12_height yX12_height ∈ big := big_in (List.mem_of_getElem? (i := 1121) (by decide +kernel)) rfl
theorem vkX11_price : Cond.selects yX11_price.cls yX11_price yX11_price ∈ big := big_in (List.mem_of_getElem? (i := 729) (by decide +kernel)) rfl
theorem vkX12_put : Cond.selects yX12_put.cls yX12_put yX12_put ∈ big := big_in (List.mem_of_getElem? (i := 1265) (by decide +kernel)) rfl
theorem vkX10_signEnd : Cond.selects yX10_signEnd.cls yX10_signEnd yX10_signEnd ∈ big := big_sel (q := (yX10_signEnd, 6)) (List.mem_of_getElem? (i := 5) (by decide +kernel))
theorem vkX0_outside : Cond.selects yX0_outside.cls yX0_outside yX0_outside ∈ big := big_in (List.mem_of_getElem? (i := 336) (by decide +kernel)) rfl
theorem vkX10_statementEnd : Cond.selects yX10_statementEnd.cls yX10_statementEnd yX10_statementEnd ∈ big := big_in (List.mem_of_getElem? (i := 253) (by decide +kernel)) rfl
theorem vkX12_liesAt : Cond.selects yX12_liesAt.cls yX12_liesAt yX12_liesAt ∈ big := big_sel (q := (yX12_liesAt, 20)) (List.mem_of_getElem? (i := 44) (by decide +kernel))
theorem vkX12_restore : Cond.selects yX12_restore.cls yX12_restore yX12_restore ∈ big := big_in (List.mem_of_getElem? (i := 1248) (by decide +kernel)) rfl
theorem vkX12_row : Cond.selects yX12_row.cls yX12_row yX12_row ∈ big := big_in (List.mem_of_getElem? (i := 1260) (by decide +kernel)) rfl
theorem vkX12_thrown : Cond.selects yX12_thrown.cls yX12_thrown yX12_thrown ∈ big := big_in (List.mem_of_getElem? (i := 971) (by decide +kernel)) rfl
theorem vkX12_apart : Cond.selects yX12_apart.cls yX12_apart yX12_apart ∈ big := big_in (List.mem_of_getElem? (i := 1161) (by decide +kernel)) rfl
theorem vkX10_digitAt : Cond.selects yX10_digitAt.cls yX10_digitAt yX10_digitAt ∈ big := big_in (List.mem_of_getElem? (i := 297) (by decide +kernel)) rfl
-- no selects: X8_outside
theorem vkX5_isIn : Cond.selects yX5_isIn.cls yX5_isIn yX5_isIn ∈ big := big_in (List.mem_of_getElem? (i := 452) (by decide +kernel)) rfl
theorem vkX5_outsideAt : Cond.selects yX5_outsideAt.cls yX5_outsideAt yX5_outsideAt ∈ big := big_in (List.mem_of_getElem? (i := 332) (by decide +kernel)) rfl
theorem vkX11_turn : Cond.selects yX11_turn.cls yX11_turn yX11_turn ∈ big := big_in (List.mem_of_getElem? (i := 439) (by decide +kernel)) rfl
theorem vkX0_minds : Cond.selects yX0_minds.cls yX0_minds yX0_minds ∈ big := big_in (List.mem_of_getElem? (i := 460) (by decide +kernel)) rfl
theorem vkX5_heightOf : Cond.selects yX5_heightOf.cls yX5_heightOf yX5_heightOf ∈ big := big_in (List.mem_of_getElem? (i := 488) (by decide +kernel)) rfl
theorem vkX11_judge : Cond.selects yX11_judge.cls yX11_judge yX11_judge ∈ big := big_in (List.mem_of_getElem? (i := 628) (by decide +kernel)) rfl
theorem vkX12_heightOf : Cond.selects yX12_heightOf.cls yX12_heightOf yX12_heightOf ∈ big := big_sel (q := (yX12_heightOf, 20)) (List.mem_of_getElem? (i := 51) (by decide +kernel))
-- no selects: X9_cost
-- no selects: X3_inside
theorem vkX12_here : Cond.selects yX12_here.cls yX12_here yX12_here ∈ big := big_sel (q := (yX12_here, 20)) (List.mem_of_getElem? (i := 27) (by decide +kernel))
theorem vkX10_clear : Cond.selects yX10_clear.cls yX10_clear yX10_clear ∈ big := big_in (List.mem_of_getElem? (i := 692) (by decide +kernel)) rfl
-- no selects: X8_minds
theorem vkX11_carry : Cond.selects yX11_carry.cls yX11_carry yX11_carry ∈ big := big_in (List.mem_of_getElem? (i := 565) (by decide +kernel)) rfl
-- no selects: X6_inside
theorem vkX5_agree : Cond.selects yX5_agree.cls yX5_agree yX5_agree ∈ big := big_sel (q := (yX5_agree, 9)) (List.mem_of_getElem? (i := 11) (by decide +kernel))
theorem vkX5_place : Cond.selects yX5_place.cls yX5_place yX5_place ∈ big := big_sel (q := (yX5_place, 9)) (List.mem_of_getElem? (i := 8) (by decide +kernel))
theorem vkX0_fail : Cond.selects yX0_fail.cls yX0_fail yX0_fail ∈ big := big_in (List.mem_of_getElem? (i := 773) (by decide +kernel)) rfl
theorem vkX5_add : Cond.selects yX5_add.cls yX5_add yX5_add ∈ big := big_in (List.mem_of_getElem? (i := 306) (by decide +kernel)) rfl
theorem vkX11_bytesRefusal : Cond.selects yX11_bytesRefusal.cls yX11_bytesRefusal yX11_bytesRefusal ∈ big := big_sel (q := (yX11_bytesRefusal, 7)) (List.mem_of_getElem? (i := 0) (by decide +kernel))
theorem vkX12_wrongRow : Cond.selects yX12_wrongRow.cls yX12_wrongRow yX12_wrongRow ∈ big := big_sel (q := (yX12_wrongRow, 20)) (List.mem_of_getElem? (i := 25) (by decide +kernel))
theorem vkX7_leastSum : Cond.selects yX7_leastSum.cls yX7_leastSum yX7_leastSum ∈ big := big_in (List.mem_of_getElem? (i := 549) (by decide +kernel)) rfl
theorem vkX11_next : Cond.selects yX11_next.cls yX11_next yX11_next ∈ big := big_in (List.mem_of_getElem? (i := 645) (by decide +kernel)) rfl
theorem vkX12_comes : Cond.selects yX12_comes.cls yX12_comes yX12_comes ∈ big := big_in (List.mem_of_getElem? (i := 1059) (by decide +kernel)) rfl
theorem vkX11_longest : Cond.selects yX11_longest.cls yX11_longest yX11_longest ∈ big := big_in (List.mem_of_getElem? (i := 502) (by decide +kernel)) rfl
-- no selects: X3_rise
theorem vkX12_inside : Cond.selects yX12_inside.cls yX12_inside yX12_inside ∈ big := big_sel (q := (yX12_inside, 20)) (List.mem_of_getElem? (i := 38) (by decide +kernel))
theorem vkX12_carry : Cond.selects yX12_carry.cls yX12_carry yX12_carry ∈ big := big_in (List.mem_of_getElem? (i := 1153) (by decide +kernel)) rfl
theorem vkX12_breaks : Cond.selects yX12_breaks.cls yX12_breaks yX12_breaks ∈ big := big_in (List.mem_of_getElem? (i := 1232) (by decide +kernel)) rfl
theorem vkX10_set : Cond.selects yX10_set.cls yX10_set yX10_set ∈ big := big_in (List.mem_of_getElem? (i := 716) (by decide +kernel)) rfl
theorem vkX5_insideAt : Cond.selects yX5_insideAt.cls yX5_insideAt yX5_insideAt ∈ big := big_in (List.mem_of_getElem? (i := 365) (by decide +kernel)) rfl
-- no selects: X6_cost
-- no selects: X6_rise
theorem vkX12_count : Cond.selects yX12_count.cls yX12_count yX12_count ∈ big := big_in (List.mem_of_getElem? (i := 1252) (by decide +kernel)) rfl
theorem vkX5_become : Cond.selects yX5_become.cls yX5_become yX5_become ∈ big := big_in (List.mem_of_getElem? (i := 281) (by decide +kernel)) rfl
theorem vkX11_rowRefusal : Cond.selects yX11_rowRefusal.cls yX11_rowRefusal yX11_rowRefusal ∈ big := big_sel (q := (yX11_rowRefusal, 7)) (List.mem_of_getElem? (i := 21) (by decide +kernel))
theorem vkX11_row : Cond.selects yX11_row.cls yX11_row yX11_row ∈ big := big_in (List.mem_of_getElem? (i := 700) (by decide +kernel)) rfl
theorem vkX10_numberEnd : Cond.selects yX10_numberEnd.cls yX10_numberEnd yX10_numberEnd ∈ big := big_sel (q := (yX10_numberEnd, 6)) (List.mem_of_getElem? (i := 4) (by decide +kernel))
theorem vkX12_outsideBy : Cond.selects yX12_outsideBy.cls yX12_outsideBy yX12_outsideBy ∈ big := big_sel (q := (yX12_outsideBy, 20)) (List.mem_of_getElem? (i := 36) (by decide +kernel))
theorem vkX10_isDigit : Cond.selects yX10_isDigit.cls yX10_isDigit yX10_isDigit ∈ big := big_sel (q := (yX10_isDigit, 6)) (List.mem_of_getElem? (i := 3) (by decide +kernel))
theorem vkX10_at : Cond.selects yX10_at.cls yX10_at yX10_at ∈ big := big_in (List.mem_of_getElem? (i := 257) (by decide +kernel)) rfl
theorem vkX11_warm : Cond.selects yX11_warm.cls yX11_warm yX11_warm ∈ big := big_in (List.mem_of_getElem? (i := 432) (by decide +kernel)) rfl
theorem vkX11_element : Cond.selects yX11_element.cls yX11_element yX11_element ∈ big := big_in (List.mem_of_getElem? (i := 896) (by decide +kernel)) rfl
theorem vkX12_leastOf : Cond.selects yX12_leastOf.cls yX12_leastOf yX12_leastOf ∈ big := big_sel (q := (yX12_leastOf, 20)) (List.mem_of_getElem? (i := 53) (by decide +kernel))
theorem vkX12_areApart : Cond.selects yX12_areApart.cls yX12_areApart yX12_areApart ∈ big := big_sel (q := (yX12_areApart, 20)) (List.mem_of_getElem? (i := 55) (by decide +kernel))
theorem vkX11_out : Cond.selects yX11_out.cls yX11_out yX11_out ∈ big := big_in (List.mem_of_getElem? (i := 619) (by decide +kernel)) rfl
theorem vkX7_lengthenOutward : Cond.selects yX7_lengthenOutward.cls yX7_lengthenOutward yX7_lengthenOutward ∈ big := big_sel (q := (yX7_lengthenOutward, 11)) (List.mem_of_getElem? (i := 19) (by decide +kernel))
-- no selects: X4_inside
-- no selects: X4_cost
theorem vkX11_areBowls : Cond.selects yX11_areBowls.cls yX11_areBowls yX11_areBowls ∈ big := big_sel (q := (yX11_areBowls, 7)) (List.mem_of_getElem? (i := 12) (by decide +kernel))
theorem vkX7_lengthenInward : Cond.selects yX7_lengthenInward.cls yX7_lengthenInward yX7_lengthenInward ∈ big := big_sel (q := (yX7_lengthenInward, 11)) (List.mem_of_getElem? (i := 18) (by decide +kernel))
theorem vkX10_holdRow : Cond.selects yX10_holdRow.cls yX10_holdRow yX10_holdRow ∈ big := big_in (List.mem_of_getElem? (i := 704) (by decide +kernel)) rfl
theorem vkX12_element : Cond.selects yX12_element.cls yX12_element yX12_element ∈ big := big_in (List.mem_of_getElem? (i := 1269) (by decide +kernel)) rfl
theorem vkX11_keep : Cond.selects yX11_keep.cls yX11_keep yX11_keep ∈ big := big_in (List.mem_of_getElem? (i := 688) (by decide +kernel)) rfl
-- no selects: X1_cost
theorem vkX12_wholeOf : Cond.selects yX12_wholeOf.cls yX12_wholeOf yX12_wholeOf ∈ big := big_sel (q := (yX12_wholeOf, 20)) (List.mem_of_getElem? (i := 56) (by decide +kernel))
-- no selects: X4_fail
theorem vkX5_dropLatest : Cond.selects yX5_dropLatest.cls yX5_dropLatest yX5_dropLatest ∈ big := big_in (List.mem_of_getElem? (i := 322) (by decide +kernel)) rfl
theorem vkX12_drawn : Cond.selects yX12_drawn.cls yX12_drawn yX12_drawn ∈ big := big_sel (q := (yX12_drawn, 20)) (List.mem_of_getElem? (i := 63) (by decide +kernel))
theorem vkX12_puts : Cond.selects yX12_puts.cls yX12_puts yX12_puts ∈ big := big_sel (q := (yX12_puts, 20)) (List.mem_of_getElem? (i := 32) (by decide +kernel))
theorem vkX12_canBeBetween : Cond.selects yX12_canBeBetween.cls yX12_canBeBetween yX12_canBeBetween ∈ big := big_sel (q := (yX12_canBeBetween, 20)) (List.mem_of_getElem? (i := 57) (by decide +kernel))
theorem vkX12_isOval : Cond.selects yX12_isOval.cls yX12_isOval yX12_isOval ∈ big := big_sel (q := (yX12_isOval, 20)) (List.mem_of_getElem? (i := 46) (by decide +kernel))
theorem vkX5_all : Cond.selects yX5_all.cls yX5_all yX5_all ∈ big := big_in (List.mem_of_getElem? (i := 484) (by decide +kernel)) rfl
-- no selects: X3_cost
theorem vkX7_note : Cond.selects yX7_note.cls yX7_note yX7_note ∈ big := big_sel (q := (yX7_note, 11)) (List.mem_of_getElem? (i := 14) (by decide +kernel))
theorem vkX11_shelfRefusal : Cond.selects yX11_shelfRefusal.cls yX11_shelfRefusal yX11_shelfRefusal ∈ big := big_sel (q := (yX11_shelfRefusal, 7)) (List.mem_of_getElem? (i := 1) (by decide +kernel))
theorem vkX11_brokenBy : Cond.selects yX11_brokenBy.cls yX11_brokenBy yX11_brokenBy ∈ big := big_sel (q := (yX11_brokenBy, 7)) (List.mem_of_getElem? (i := 23) (by decide +kernel))
theorem vkX12_readsStatement : Cond.selects yX12_readsStatement.cls yX12_readsStatement yX12_readsStatement ∈ big := big_sel (q := (yX12_readsStatement, 20)) (List.mem_of_getElem? (i := 26) (by decide +kernel))
theorem vkX5_allDepths : Cond.selects yX5_allDepths.cls yX5_allDepths yX5_allDepths ∈ big := big_in (List.mem_of_getElem? (i := 684) (by decide +kernel)) rfl
theorem vkX7_costLessForSetsOf : Cond.selects yX7_costLessForSetsOf.cls yX7_costLessForSetsOf yX7_costLessForSetsOf ∈ big := big_in (List.mem_of_getElem? (i := 581) (by decide +kernel)) rfl
theorem dkX0_cost : yX0_cost.cls ≠ "java/lang/invoke/MethodHandle" ∧ yX0_cost.cls ≠ "java/lang/invoke/VarHandle" ∧ (parseMethodDescriptor yX0_cost.desc).map (fun d => d.parameters.length) = some 1 := by decide +kernel
theorem dkX11_fewest : yX11_fewest.cls ≠ "java/lang/invoke/MethodHandle" ∧ yX11_fewest.cls ≠ "java/lang/invoke/VarHandle" ∧ (parseMethodDescriptor yX11_fewest.desc).map (fun d => d.parameters.length) = some 0 := by decide +kernel
theorem dkX11_load : yX11_load.cls ≠ "java/lang/invoke/MethodHandle" ∧ yX11_load.cls ≠ "java/lang/invoke/VarHandle" ∧ (parseMethodDescriptor yX11_load.desc).map (fun d => d.parameters.length) = some 1 := by decide +kernel
theorem dkX12_next : yX12_next.cls ≠ "java/lang/invoke/MethodHandle" ∧ yX12_next.cls ≠ "java/lang/invoke/VarHandle" ∧ (parseMethodDescriptor yX12_next.desc).map (fun d => d.parameters.length) = some 2 := by decide +kernel
theorem dkX11_nest : yX11_nest.cls ≠ "java/lang/invoke/MethodHandle" ∧ yX11_nest.cls ≠ "java/lang/invoke/VarHandle" ∧ (parseMethodDescriptor yX11_nest.desc).map (fun d => d.parameters.length) = some 1 := by decide +kernel
theorem dkX7_mostApart : yX7_mostApart.cls ≠ "java/lang/invoke/MethodHandle" ∧ yX7_mostApart.cls ≠ "java/lang/invoke/VarHandle" ∧ (parseMethodDescriptor yX7_mostApart.desc).map (fun d => d.parameters.length) = some 0 := by decide +kernel
theorem dkX12_longest : yX12_longest.cls ≠ "java/lang/invoke/MethodHandle" ∧ yX12_longest.cls ≠ "java/lang/invoke/VarHandle" ∧ (parseMethodDescriptor yX12_longest.desc).map (fun d => d.parameters.length) = some 2 := by decide +kernel
theorem dkX11_tellAll : yX11_tellAll.cls ≠ "java/lang/invoke/MethodHandle" ∧ yX11_tellAll.cls ≠ "java/lang/invoke/VarHandle" ∧ (parseMethodDescriptor yX11_tellAll.desc).map (fun d => d.parameters.length) = some 1 := by decide +kernel
theorem dkX11_throwsNew : yX11_throwsNew.cls ≠ "java/lang/invoke/MethodHandle" ∧ yX11_throwsNew.cls ≠ "java/lang/invoke/VarHandle" ∧ (parseMethodDescriptor yX11_throwsNew.desc).map (fun d => d.parameters.length) = some 0 := by decide +kernel
theorem dkX1_init : yX1_init.cls ≠ "java/lang/invoke/MethodHandle" ∧ yX1_init.cls ≠ "java/lang/invoke/VarHandle" ∧ (parseMethodDescriptor yX1_init.desc).map (fun d => d.parameters.length) = some 0 := by decide +kernel
theorem dkX4_init : yX4_init.cls ≠ "java/lang/invoke/MethodHandle" ∧ yX4_init.cls ≠ "java/lang/invoke/VarHandle" ∧ (parseMethodDescriptor yX4_init.desc).map (fun d => d.parameters.length) = some 0 := by decide +kernel
theorem dkX11_pairsPerhaps : yX11_pairsPerhaps.cls ≠ "java/lang/invoke/MethodHandle" ∧ yX11_pairsPerhaps.cls ≠ "java/lang/invoke/VarHandle" ∧ (parseMethodDescriptor yX11_pairsPerhaps.desc).map (fun d => d.parameters.length) = some 2 := by decide +kernel
theorem dkX11_bowl : yX11_bowl.cls ≠ "java/lang/invoke/MethodHandle" ∧ yX11_bowl.cls ≠ "java/lang/invoke/VarHandle" ∧ (parseMethodDescriptor yX11_bowl.desc).map (fun d => d.parameters.length) = some 2 := by decide +kernel
theorem dkX11_bowlRefusal : yX11_bowlRefusal.cls ≠ "java/lang/invoke/MethodHandle" ∧ yX11_bowlRefusal.cls ≠ "java/lang/invoke/VarHandle" ∧ (parseMethodDescriptor yX11_bowlRefusal.desc).map (fun d => d.parameters.length) = some 1 := by decide +kernel
theorem dkX5_tell : yX5_tell.cls ≠ "java/lang/invoke/MethodHandle" ∧ yX5_tell.cls ≠ "java/lang/invoke/VarHandle" ∧ (parseMethodDescriptor yX5_tell.desc).map (fun d => d.parameters.length) = some 2 := by decide +kernel
theorem dkX9_init : yX9_init.cls ≠ "java/lang/invoke/MethodHandle" ∧ yX9_init.cls ≠ "java/lang/invoke/VarHandle" ∧ (parseMethodDescriptor yX9_init.desc).map (fun d => d.parameters.length) = some 0 := by decide +kernel
theorem dkX12_fewest : yX12_fewest.cls ≠ "java/lang/invoke/MethodHandle" ∧ yX12_fewest.cls ≠ "java/lang/invoke/VarHandle" ∧ (parseMethodDescriptor yX12_fewest.desc).map (fun d => d.parameters.length) = some 0 := by decide +kernel
theorem dkX12_whole : yX12_whole.cls ≠ "java/lang/invoke/MethodHandle" ∧ yX12_whole.cls ≠ "java/lang/invoke/VarHandle" ∧ (parseMethodDescriptor yX12_whole.desc).map (fun d => d.parameters.length) = some 1 := by decide +kernel
theorem dkX7_findChains : yX7_findChains.cls ≠ "java/lang/invoke/MethodHandle" ∧ yX7_findChains.cls ≠ "java/lang/invoke/VarHandle" ∧ (parseMethodDescriptor yX7_findChains.desc).map (fun d => d.parameters.length) = some 1 := by decide +kernel
theorem dkX11_helps : yX11_helps.cls ≠ "java/lang/invoke/MethodHandle" ∧ yX11_helps.cls ≠ "java/lang/invoke/VarHandle" ∧ (parseMethodDescriptor yX11_helps.desc).map (fun d => d.parameters.length) = some 2 := by decide +kernel
theorem dkX6_outside : yX6_outside.cls ≠ "java/lang/invoke/MethodHandle" ∧ yX6_outside.cls ≠ "java/lang/invoke/VarHandle" ∧ (parseMethodDescriptor yX6_outside.desc).map (fun d => d.parameters.length) = some 3 := by decide +kernel
theorem dkX12_lies : yX12_lies.cls ≠ "java/lang/invoke/MethodHandle" ∧ yX12_lies.cls ≠ "java/lang/invoke/VarHandle" ∧ (parseMethodDescriptor yX12_lies.desc).map (fun d => d.parameters.length) = some 2 := by decide +kernel
theorem dkX7_init : yX7_init.cls ≠ "java/lang/invoke/MethodHandle" ∧ yX7_init.cls ≠ "java/lang/invoke/VarHandle" ∧ (parseMethodDescriptor yX7_init.desc).map (fun d => d.parameters.length) = some 0 := by decide +kernel
theorem dkX0_init : yX0_init.cls ≠ "java/lang/invoke/MethodHandle" ∧ yX0_init.cls ≠ "java/lang/invoke/VarHandle" ∧ (parseMethodDescriptor yX0_init.desc).map (fun d => d.parameters.length) = some 0 := by decide +kernel
theorem dkX12_price : yX12_price.cls ≠ "java/lang/invoke/MethodHandle" ∧ yX12_price.cls ≠ "java/lang/invoke/VarHandle" ∧ (parseMethodDescriptor yX12_price.desc).map (fun d => d.parameters.length) = some 1 := by decide +kernel
theorem dkX12_rise : yX12_rise.cls ≠ "java/lang/invoke/MethodHandle" ∧ yX12_rise.cls ≠ "java/lang/invoke/VarHandle" ∧ (parseMethodDescriptor yX12_rise.desc).map (fun d => d.parameters.length) = some 1 := by decide +kernel
theorem dkX3_init : yX3_init.cls ≠ "java/lang/invoke/MethodHandle" ∧ yX3_init.cls ≠ "java/lang/invoke/VarHandle" ∧ (parseMethodDescriptor yX3_init.desc).map (fun d => d.parameters.length) = some 0 := by decide +kernel
theorem dkX7_costHeights : yX7_costHeights.cls ≠ "java/lang/invoke/MethodHandle" ∧ yX7_costHeights.cls ≠ "java/lang/invoke/VarHandle" ∧ (parseMethodDescriptor yX7_costHeights.desc).map (fun d => d.parameters.length) = some 0 := by decide +kernel
theorem dkX12_everything : yX12_everything.cls ≠ "java/lang/invoke/MethodHandle" ∧ yX12_everything.cls ≠ "java/lang/invoke/VarHandle" ∧ (parseMethodDescriptor yX12_everything.desc).map (fun d => d.parameters.length) = some 0 := by decide +kernel
theorem dkX2_fail : yX2_fail.cls ≠ "java/lang/invoke/MethodHandle" ∧ yX2_fail.cls ≠ "java/lang/invoke/VarHandle" ∧ (parseMethodDescriptor yX2_fail.desc).map (fun d => d.parameters.length) = some 1 := by decide +kernel
theorem dkX12_warm : yX12_warm.cls ≠ "java/lang/invoke/MethodHandle" ∧ yX12_warm.cls ≠ "java/lang/invoke/VarHandle" ∧ (parseMethodDescriptor yX12_warm.desc).map (fun d => d.parameters.length) = some 1 := by decide +kernel
theorem dkX5_arrange : yX5_arrange.cls ≠ "java/lang/invoke/MethodHandle" ∧ yX5_arrange.cls ≠ "java/lang/invoke/VarHandle" ∧ (parseMethodDescriptor yX5_arrange.desc).map (fun d => d.parameters.length) = some 0 := by decide +kernel
theorem dkX12_out : yX12_out.cls ≠ "java/lang/invoke/MethodHandle" ∧ yX12_out.cls ≠ "java/lang/invoke/VarHandle" ∧ (parseMethodDescriptor yX12_out.desc).map (fun d => d.parameters.length) = some 2 := by decide +kernel
theorem dkX11_spans : yX11_spans.cls ≠ "java/lang/invoke/MethodHandle" ∧ yX11_spans.cls ≠ "java/lang/invoke/VarHandle" ∧ (parseMethodDescriptor yX11_spans.desc).map (fun d => d.parameters.length) = some 3 := by decide +kernel
theorem dkX12_from : yX12_from.cls ≠ "java/lang/invoke/MethodHandle" ∧ yX12_from.cls ≠ "java/lang/invoke/VarHandle" ∧ (parseMethodDescriptor yX12_from.desc).map (fun d => d.parameters.length) = some 4 := by decide +kernel
theorem dkX7_isLonger : yX7_isLonger.cls ≠ "java/lang/invoke/MethodHandle" ∧ yX7_isLonger.cls ≠ "java/lang/invoke/VarHandle" ∧ (parseMethodDescriptor yX7_isLonger.desc).map (fun d => d.parameters.length) = some 2 := by decide +kernel
theorem dkX7_findAll : yX7_findAll.cls ≠ "java/lang/invoke/MethodHandle" ∧ yX7_findAll.cls ≠ "java/lang/invoke/VarHandle" ∧ (parseMethodDescriptor yX7_findAll.desc).map (fun d => d.parameters.length) = some 1 := by decide +kernel
theorem dkX10_holdBowl : yX10_holdBowl.cls ≠ "java/lang/invoke/MethodHandle" ∧ yX10_holdBowl.cls ≠ "java/lang/invoke/VarHandle" ∧ (parseMethodDescriptor yX10_holdBowl.desc).map (fun d => d.parameters.length) = some 2 := by decide +kernel
theorem dkX1_rise : yX1_rise.cls ≠ "java/lang/invoke/MethodHandle" ∧ yX1_rise.cls ≠ "java/lang/invoke/VarHandle" ∧ (parseMethodDescriptor yX1_rise.desc).map (fun d => d.parameters.length) = some 1 := by decide +kernel
theorem dkX12_longestOf : yX12_longestOf.cls ≠ "java/lang/invoke/MethodHandle" ∧ yX12_longestOf.cls ≠ "java/lang/invoke/VarHandle" ∧ (parseMethodDescriptor yX12_longestOf.desc).map (fun d => d.parameters.length) = some 1 := by decide +kernel
theorem dkX0_inside : yX0_inside.cls ≠ "java/lang/invoke/MethodHandle" ∧ yX0_inside.cls ≠ "java/lang/invoke/VarHandle" ∧ (parseMethodDescriptor yX0_inside.desc).map (fun d => d.parameters.length) = some 4 := by decide +kernel
theorem dkX12_isBowl : yX12_isBowl.cls ≠ "java/lang/invoke/MethodHandle" ∧ yX12_isBowl.cls ≠ "java/lang/invoke/VarHandle" ∧ (parseMethodDescriptor yX12_isBowl.desc).map (fun d => d.parameters.length) = some 1 := by decide +kernel
theorem dkX12_counted : yX12_counted.cls ≠ "java/lang/invoke/MethodHandle" ∧ yX12_counted.cls ≠ "java/lang/invoke/VarHandle" ∧ (parseMethodDescriptor yX12_counted.desc).map (fun d => d.parameters.length) = some 3 := by decide +kernel
theorem dkX11_heap : yX11_heap.cls ≠ "java/lang/invoke/MethodHandle" ∧ yX11_heap.cls ≠ "java/lang/invoke/VarHandle" ∧ (parseMethodDescriptor yX11_heap.desc).map (fun d => d.parameters.length) = some 1 := by decide +kernel
theorem dkX12_isNest : yX12_isNest.cls ≠ "java/lang/invoke/MethodHandle" ∧ yX12_isNest.cls ≠ "java/lang/invoke/VarHandle" ∧ (parseMethodDescriptor yX12_isNest.desc).map (fun d => d.parameters.length) = some 1 := by decide +kernel
theorem dkX12_toss : yX12_toss.cls ≠ "java/lang/invoke/MethodHandle" ∧ yX12_toss.cls ≠ "java/lang/invoke/VarHandle" ∧ (parseMethodDescriptor yX12_toss.desc).map (fun d => d.parameters.length) = some 1 := by decide +kernel
theorem dkX11_breaks : yX11_breaks.cls ≠ "java/lang/invoke/MethodHandle" ∧ yX11_breaks.cls ≠ "java/lang/invoke/VarHandle" ∧ (parseMethodDescriptor yX11_breaks.desc).map (fun d => d.parameters.length) = some 3 := by decide +kernel
theorem dkX7_growBy : yX7_growBy.cls ≠ "java/lang/invoke/MethodHandle" ∧ yX7_growBy.cls ≠ "java/lang/invoke/VarHandle" ∧ (parseMethodDescriptor yX7_growBy.desc).map (fun d => d.parameters.length) = some 2 := by decide +kernel
theorem dkX12_narrow : yX12_narrow.cls ≠ "java/lang/invoke/MethodHandle" ∧ yX12_narrow.cls ≠ "java/lang/invoke/VarHandle" ∧ (parseMethodDescriptor yX12_narrow.desc).map (fun d => d.parameters.length) = some 2 := by decide +kernel
theorem dkX12_takes : yX12_takes.cls ≠ "java/lang/invoke/MethodHandle" ∧ yX12_takes.cls ≠ "java/lang/invoke/VarHandle" ∧ (parseMethodDescriptor yX12_takes.desc).map (fun d => d.parameters.length) = some 1 := by decide +kernel
theorem dkX11_isBridged : yX11_isBridged.cls ≠ "java/lang/invoke/MethodHandle" ∧ yX11_isBridged.cls ≠ "java/lang/invoke/VarHandle" ∧ (parseMethodDescriptor yX11_isBridged.desc).map (fun d => d.parameters.length) = some 3 := by decide +kernel
theorem dkX11_copy : yX11_copy.cls ≠ "java/lang/invoke/MethodHandle" ∧ yX11_copy.cls ≠ "java/lang/invoke/VarHandle" ∧ (parseMethodDescriptor yX11_copy.desc).map (fun d => d.parameters.length) = some 5 := by decide +kernel
theorem dkX12_init : yX12_init.cls ≠ "java/lang/invoke/MethodHandle" ∧ yX12_init.cls ≠ "java/lang/invoke/VarHandle" ∧ (parseMethodDescriptor yX12_init.desc).map (fun d => d.parameters.length) = some 0 := by decide +kernel
theorem dkX11_whole : yX11_whole.cls ≠ "java/lang/invoke/MethodHandle" ∧ yX11_whole.cls ≠ "java/lang/invoke/VarHandle" ∧ (parseMethodDescriptor yX11_whole.desc).map (fun d => d.parameters.length) = some 1 := by decide +kernel
theorem dkX5_pairsIn : yX5_pairsIn.cls ≠ "java/lang/invoke/MethodHandle" ∧ yX5_pairsIn.cls ≠ "java/lang/invoke/VarHandle" ∧ (parseMethodDescriptor yX5_pairsIn.desc).map (fun d => d.parameters.length) = some 0 := by decide +kernel
theorem dkX8_inside : yX8_inside.cls ≠ "java/lang/invoke/MethodHandle" ∧ yX8_inside.cls ≠ "java/lang/invoke/VarHandle" ∧ (parseMethodDescriptor yX8_inside.desc).map (fun d => d.parameters.length) = some 4 := by decide +kernel
theorem dkX11_put : yX11_put.cls ≠ "java/lang/invoke/MethodHandle" ∧ yX11_put.cls ≠ "java/lang/invoke/VarHandle" ∧ (parseMethodDescriptor yX11_put.desc).map (fun d => d.parameters.length) = some 3 := by decide +kernel
theorem dkX11_image : yX11_image.cls ≠ "java/lang/invoke/MethodHandle" ∧ yX11_image.cls ≠ "java/lang/invoke/VarHandle" ∧ (parseMethodDescriptor yX11_image.desc).map (fun d => d.parameters.length) = some 0 := by decide +kernel
theorem dkX8_cost : yX8_cost.cls ≠ "java/lang/invoke/MethodHandle" ∧ yX8_cost.cls ≠ "java/lang/invoke/VarHandle" ∧ (parseMethodDescriptor yX8_cost.desc).map (fun d => d.parameters.length) = some 1 := by decide +kernel
theorem dkX12_judge : yX12_judge.cls ≠ "java/lang/invoke/MethodHandle" ∧ yX12_judge.cls ≠ "java/lang/invoke/VarHandle" ∧ (parseMethodDescriptor yX12_judge.desc).map (fun d => d.parameters.length) = some 1 := by decide +kernel
theorem dkX12_get : yX12_get.cls ≠ "java/lang/invoke/MethodHandle" ∧ yX12_get.cls ≠ "java/lang/invoke/VarHandle" ∧ (parseMethodDescriptor yX12_get.desc).map (fun d => d.parameters.length) = some 2 := by decide +kernel
theorem dkX9_outside : yX9_outside.cls ≠ "java/lang/invoke/MethodHandle" ∧ yX9_outside.cls ≠ "java/lang/invoke/VarHandle" ∧ (parseMethodDescriptor yX9_outside.desc).map (fun d => d.parameters.length) = some 3 := by decide +kernel
theorem dkX7_longestOf : yX7_longestOf.cls ≠ "java/lang/invoke/MethodHandle" ∧ yX7_longestOf.cls ≠ "java/lang/invoke/VarHandle" ∧ (parseMethodDescriptor yX7_longestOf.desc).map (fun d => d.parameters.length) = some 1 := by decide +kernel
theorem dkX0_rise : yX0_rise.cls ≠ "java/lang/invoke/MethodHandle" ∧ yX0_rise.cls ≠ "java/lang/invoke/VarHandle" ∧ (parseMethodDescriptor yX0_rise.desc).map (fun d => d.parameters.length) = some 1 := by decide +kernel
theorem dkX12_nest : yX12_nest.cls ≠ "java/lang/invoke/MethodHandle" ∧ yX12_nest.cls ≠ "java/lang/invoke/VarHandle" ∧ (parseMethodDescriptor yX12_nest.desc).map (fun d => d.parameters.length) = some 1 := by decide +kernel
theorem dkX12_copy : yX12_copy.cls ≠ "java/lang/invoke/MethodHandle" ∧ yX12_copy.cls ≠ "java/lang/invoke/VarHandle" ∧ (parseMethodDescriptor yX12_copy.desc).map (fun d => d.parameters.length) = some 5 := by decide +kernel
theorem dkX12_throwsNew : yX12_throwsNew.cls ≠ "java/lang/invoke/MethodHandle" ∧ yX12_throwsNew.cls ≠ "java/lang/invoke/VarHandle" ∧ (parseMethodDescriptor yX12_throwsNew.desc).map (fun d => d.parameters.length) = some 0 := by decide +kernel
theorem dkX12_bowl : yX12_bowl.cls ≠ "java/lang/invoke/MethodHandle" ∧ yX12_bowl.cls ≠ "java/lang/invoke/VarHandle" ∧ (parseMethodDescriptor yX12_bowl.desc).map (fun d => d.parameters.length) = some 2 := by decide +kernel
theorem dkX12_turned : yX12_turned.cls ≠ "java/lang/invoke/MethodHandle" ∧ yX12_turned.cls ≠ "java/lang/invoke/VarHandle" ∧ (parseMethodDescriptor yX12_turned.desc).map (fun d => d.parameters.length) = some 1 := by decide +kernel
theorem dkX10_digitEnd : yX10_digitEnd.cls ≠ "java/lang/invoke/MethodHandle" ∧ yX10_digitEnd.cls ≠ "java/lang/invoke/VarHandle" ∧ (parseMethodDescriptor yX10_digitEnd.desc).map (fun d => d.parameters.length) = some 1 := by decide +kernel
theorem dkX12_liesNow : yX12_liesNow.cls ≠ "java/lang/invoke/MethodHandle" ∧ yX12_liesNow.cls ≠ "java/lang/invoke/VarHandle" ∧ (parseMethodDescriptor yX12_liesNow.desc).map (fun d => d.parameters.length) = some 2 := by decide +kernel
theorem dkX12_outermost : yX12_outermost.cls ≠ "java/lang/invoke/MethodHandle" ∧ yX12_outermost.cls ≠ "java/lang/invoke/VarHandle" ∧ (parseMethodDescriptor yX12_outermost.desc).map (fun d => d.parameters.length) = some 1 := by decide +kernel
theorem dkX11_apart : yX11_apart.cls ≠ "java/lang/invoke/MethodHandle" ∧ yX11_apart.cls ≠ "java/lang/invoke/VarHandle" ∧ (parseMethodDescriptor yX11_apart.desc).map (fun d => d.parameters.length) = some 1 := by decide +kernel
theorem dkX2_init : yX2_init.cls ≠ "java/lang/invoke/MethodHandle" ∧ yX2_init.cls ≠ "java/lang/invoke/VarHandle" ∧ (parseMethodDescriptor yX2_init.desc).map (fun d => d.parameters.length) = some 0 := by decide +kernel
theorem dkX11_from : yX11_from.cls ≠ "java/lang/invoke/MethodHandle" ∧ yX11_from.cls ≠ "java/lang/invoke/VarHandle" ∧ (parseMethodDescriptor yX11_from.desc).map (fun d => d.parameters.length) = some 4 := by decide +kernel
theorem dkX7_isApart : yX7_isApart.cls ≠ "java/lang/invoke/MethodHandle" ∧ yX7_isApart.cls ≠ "java/lang/invoke/VarHandle" ∧ (parseMethodDescriptor yX7_isApart.desc).map (fun d => d.parameters.length) = some 1 := by decide +kernel
theorem dkX12_wrongKept : yX12_wrongKept.cls ≠ "java/lang/invoke/MethodHandle" ∧ yX12_wrongKept.cls ≠ "java/lang/invoke/VarHandle" ∧ (parseMethodDescriptor yX12_wrongKept.desc).map (fun d => d.parameters.length) = some 1 := by decide +kernel
theorem dkX10_hasStretch : yX10_hasStretch.cls ≠ "java/lang/invoke/MethodHandle" ∧ yX10_hasStretch.cls ≠ "java/lang/invoke/VarHandle" ∧ (parseMethodDescriptor yX10_hasStretch.desc).map (fun d => d.parameters.length) = some 2 := by decide +kernel
theorem dkX12_perhaps : yX12_perhaps.cls ≠ "java/lang/invoke/MethodHandle" ∧ yX12_perhaps.cls ≠ "java/lang/invoke/VarHandle" ∧ (parseMethodDescriptor yX12_perhaps.desc).map (fun d => d.parameters.length) = some 2 := by decide +kernel
theorem dkX12_isDigit : yX12_isDigit.cls ≠ "java/lang/invoke/MethodHandle" ∧ yX12_isDigit.cls ≠ "java/lang/invoke/VarHandle" ∧ (parseMethodDescriptor yX12_isDigit.desc).map (fun d => d.parameters.length) = some 0 := by decide +kernel
theorem dkX9_fail : yX9_fail.cls ≠ "java/lang/invoke/MethodHandle" ∧ yX9_fail.cls ≠ "java/lang/invoke/VarHandle" ∧ (parseMethodDescriptor yX9_fail.desc).map (fun d => d.parameters.length) = some 1 := by decide +kernel
theorem dkX12_helps : yX12_helps.cls ≠ "java/lang/invoke/MethodHandle" ∧ yX12_helps.cls ≠ "java/lang/invoke/VarHandle" ∧ (parseMethodDescriptor yX12_helps.desc).map (fun d => d.parameters.length) = some 2 := by decide +kernel
theorem dkX12_longestRow : yX12_longestRow.cls ≠ "java/lang/invoke/MethodHandle" ∧ yX12_longestRow.cls ≠ "java/lang/invoke/VarHandle" ∧ (parseMethodDescriptor yX12_longestRow.desc).map (fun d => d.parameters.length) = some 1 := by decide +kernel
theorem dkX8_init : yX8_init.cls ≠ "java/lang/invoke/MethodHandle" ∧ yX8_init.cls ≠ "java/lang/invoke/VarHandle" ∧ (parseMethodDescriptor yX8_init.desc).map (fun d => d.parameters.length) = some 0 := by decide +kernel
theorem dkX12_isIn : yX12_isIn.cls ≠ "java/lang/invoke/MethodHandle" ∧ yX12_isIn.cls ≠ "java/lang/invoke/VarHandle" ∧ (parseMethodDescriptor yX12_isIn.desc).map (fun d => d.parameters.length) = some 3 := by decide +kernel
theorem dkX12_areBowls : yX12_areBowls.cls ≠ "java/lang/invoke/MethodHandle" ∧ yX12_areBowls.cls ≠ "java/lang/invoke/VarHandle" ∧ (parseMethodDescriptor yX12_areBowls.desc).map (fun d => d.parameters.length) = some 1 := by decide +kernel
theorem dkJ9_min_7cf53 : yJ9_min_7cf53.cls ≠ "java/lang/invoke/MethodHandle" ∧ yJ9_min_7cf53.cls ≠ "java/lang/invoke/VarHandle" ∧ (parseMethodDescriptor yJ9_min_7cf53.desc).map (fun d => d.parameters.length) = some 2 := by decide +kernel
theorem dkX10_faultOfForm : yX10_faultOfForm.cls ≠ "java/lang/invoke/MethodHandle" ∧ yX10_faultOfForm.cls ≠ "java/lang/invoke/VarHandle" ∧ (parseMethodDescriptor yX10_faultOfForm.desc).map (fun d => d.parameters.length) = some 0 := by decide +kernel
theorem dkX10_numberAt : yX10_numberAt.cls ≠ "java/lang/invoke/MethodHandle" ∧ yX10_numberAt.cls ≠ "java/lang/invoke/VarHandle" ∧ (parseMethodDescriptor yX10_numberAt.desc).map (fun d => d.parameters.length) = some 1 := by decide +kernel
theorem dkX12_readsNumber : yX12_readsNumber.cls ≠ "java/lang/invoke/MethodHandle" ∧ yX12_readsNumber.cls ≠ "java/lang/invoke/VarHandle" ∧ (parseMethodDescriptor yX12_readsNumber.desc).map (fun d => d.parameters.length) = some 1 := by decide +kernel
theorem dkX11_arePair : yX11_arePair.cls ≠ "java/lang/invoke/MethodHandle" ∧ yX11_arePair.cls ≠ "java/lang/invoke/VarHandle" ∧ (parseMethodDescriptor yX11_arePair.desc).map (fun d => d.parameters.length) = some 2 := by decide +kernel
theorem dkX12_insideBy : yX12_insideBy.cls ≠ "java/lang/invoke/MethodHandle" ∧ yX12_insideBy.cls ≠ "java/lang/invoke/VarHandle" ∧ (parseMethodDescriptor yX12_insideBy.desc).map (fun d => d.parameters.length) = some 3 := by decide +kernel
theorem dkX7_costOneEach : yX7_costOneEach.cls ≠ "java/lang/invoke/MethodHandle" ∧ yX7_costOneEach.cls ≠ "java/lang/invoke/VarHandle" ∧ (parseMethodDescriptor yX7_costOneEach.desc).map (fun d => d.parameters.length) = some 1 := by decide +kernel
theorem dkX5_spanned : yX5_spanned.cls ≠ "java/lang/invoke/MethodHandle" ∧ yX5_spanned.cls ≠ "java/lang/invoke/VarHandle" ∧ (parseMethodDescriptor yX5_spanned.desc).map (fun d => d.parameters.length) = some 4 := by decide +kernel
theorem dkX12_fitsBut : yX12_fitsBut.cls ≠ "java/lang/invoke/MethodHandle" ∧ yX12_fitsBut.cls ≠ "java/lang/invoke/VarHandle" ∧ (parseMethodDescriptor yX12_fitsBut.desc).map (fun d => d.parameters.length) = some 2 := by decide +kernel
theorem dkX12_wrongOut : yX12_wrongOut.cls ≠ "java/lang/invoke/MethodHandle" ∧ yX12_wrongOut.cls ≠ "java/lang/invoke/VarHandle" ∧ (parseMethodDescriptor yX12_wrongOut.desc).map (fun d => d.parameters.length) = some 1 := by decide +kernel
theorem dkX11_areHairs : yX11_areHairs.cls ≠ "java/lang/invoke/MethodHandle" ∧ yX11_areHairs.cls ≠ "java/lang/invoke/VarHandle" ∧ (parseMethodDescriptor yX11_areHairs.desc).map (fun d => d.parameters.length) = some 1 := by decide +kernel
theorem dkX11_count : yX11_count.cls ≠ "java/lang/invoke/MethodHandle" ∧ yX11_count.cls ≠ "java/lang/invoke/VarHandle" ∧ (parseMethodDescriptor yX11_count.desc).map (fun d => d.parameters.length) = some 1 := by decide +kernel
theorem dkX12_adds : yX12_adds.cls ≠ "java/lang/invoke/MethodHandle" ∧ yX12_adds.cls ≠ "java/lang/invoke/VarHandle" ∧ (parseMethodDescriptor yX12_adds.desc).map (fun d => d.parameters.length) = some 5 := by decide +kernel
theorem dkX11_comes : yX11_comes.cls ≠ "java/lang/invoke/MethodHandle" ∧ yX11_comes.cls ≠ "java/lang/invoke/VarHandle" ∧ (parseMethodDescriptor yX11_comes.desc).map (fun d => d.parameters.length) = some 4 := by decide +kernel
theorem dkX12_spans : yX12_spans.cls ≠ "java/lang/invoke/MethodHandle" ∧ yX12_spans.cls ≠ "java/lang/invoke/VarHandle" ∧ (parseMethodDescriptor yX12_spans.desc).map (fun d => d.parameters.length) = some 3 := by decide +kernel
theorem dkX11_isShelf : yX11_isShelf.cls ≠ "java/lang/invoke/MethodHandle" ∧ yX11_isShelf.cls ≠ "java/lang/invoke/VarHandle" ∧ (parseMethodDescriptor yX11_isShelf.desc).map (fun d => d.parameters.length) = some 1 := by decide +kernel
theorem dkX2_cost : yX2_cost.cls ≠ "java/lang/invoke/MethodHandle" ∧ yX2_cost.cls ≠ "java/lang/invoke/VarHandle" ∧ (parseMethodDescriptor yX2_cost.desc).map (fun d => d.parameters.length) = some 1 := by decide +kernel
theorem dkX12_turn : yX12_turn.cls ≠ "java/lang/invoke/MethodHandle" ∧ yX12_turn.cls ≠ "java/lang/invoke/VarHandle" ∧ (parseMethodDescriptor yX12_turn.desc).map (fun d => d.parameters.length) = some 1 := by decide +kernel
theorem dkX5_flip : yX5_flip.cls ≠ "java/lang/invoke/MethodHandle" ∧ yX5_flip.cls ≠ "java/lang/invoke/VarHandle" ∧ (parseMethodDescriptor yX5_flip.desc).map (fun d => d.parameters.length) = some 1 := by decide +kernel
theorem dkX11_firstMisplaced : yX11_firstMisplaced.cls ≠ "java/lang/invoke/MethodHandle" ∧ yX11_firstMisplaced.cls ≠ "java/lang/invoke/VarHandle" ∧ (parseMethodDescriptor yX11_firstMisplaced.desc).map (fun d => d.parameters.length) = some 1 := by decide +kernel
theorem dkX12_heap : yX12_heap.cls ≠ "java/lang/invoke/MethodHandle" ∧ yX12_heap.cls ≠ "java/lang/invoke/VarHandle" ∧ (parseMethodDescriptor yX12_heap.desc).map (fun d => d.parameters.length) = some 1 := by decide +kernel
theorem dkX11_lies : yX11_lies.cls ≠ "java/lang/invoke/MethodHandle" ∧ yX11_lies.cls ≠ "java/lang/invoke/VarHandle" ∧ (parseMethodDescriptor yX11_lies.desc).map (fun d => d.parameters.length) = some 2 := by decide +kernel
theorem dkX12_keep : yX12_keep.cls ≠ "java/lang/invoke/MethodHandle" ∧ yX12_keep.cls ≠ "java/lang/invoke/VarHandle" ∧ (parseMethodDescriptor yX12_keep.desc).map (fun d => d.parameters.length) = some 4 := by decide +kernel
theorem dkX5_has : yX5_has.cls ≠ "java/lang/invoke/MethodHandle" ∧ yX5_has.cls ≠ "java/lang/invoke/VarHandle" ∧ (parseMethodDescriptor yX5_has.desc).map (fun d => d.parameters.length) = some 1 := by decide +kernel
theorem dkX11_height : yX11_height.cls ≠ "java/lang/invoke/MethodHandle" ∧ yX11_height.cls ≠ "java/lang/invoke/VarHandle" ∧ (parseMethodDescriptor yX11_height.desc).map (fun d => d.parameters.length) = some 1 := by decide +kernel
theorem dkX5_think : yX5_think.cls ≠ "java/lang/invoke/MethodHandle" ∧ yX5_think.cls ≠ "java/lang/invoke/VarHandle" ∧ (parseMethodDescriptor yX5_think.desc).map (fun d => d.parameters.length) = some 2 := by decide +kernel
theorem dkX4_outside : yX4_outside.cls ≠ "java/lang/invoke/MethodHandle" ∧ yX4_outside.cls ≠ "java/lang/invoke/VarHandle" ∧ (parseMethodDescriptor yX4_outside.desc).map (fun d => d.parameters.length) = some 3 := by decide +kernel
theorem dkX2_rise : yX2_rise.cls ≠ "java/lang/invoke/MethodHandle" ∧ yX2_rise.cls ≠ "java/lang/invoke/VarHandle" ∧ (parseMethodDescriptor yX2_rise.desc).map (fun d => d.parameters.length) = some 1 := by decide +kernel
theorem dkJ9_max_7cf53 : yJ9_max_7cf53.cls ≠ "java/lang/invoke/MethodHandle" ∧ yJ9_max_7cf53.cls ≠ "java/lang/invoke/VarHandle" ∧ (parseMethodDescriptor yJ9_max_7cf53.desc).map (fun d => d.parameters.length) = some 2 := by decide +kernel
theorem dkX5_riseOf : yX5_riseOf.cls ≠ "java/lang/invoke/MethodHandle" ∧ yX5_riseOf.cls ≠ "java/lang/invoke/VarHandle" ∧ (parseMethodDescriptor yX5_riseOf.desc).map (fun d => d.parameters.length) = some 1 := by decide +kernel
theorem dkX12_wrongAt : yX12_wrongAt.cls ≠ "java/lang/invoke/MethodHandle" ∧ yX12_wrongAt.cls ≠ "java/lang/invoke/VarHandle" ∧ (parseMethodDescriptor yX12_wrongAt.desc).map (fun d => d.parameters.length) = some 1 := by decide +kernel
theorem dkX12_image : yX12_image.cls ≠ "java/lang/invoke/MethodHandle" ∧ yX12_image.cls ≠ "java/lang/invoke/VarHandle" ∧ (parseMethodDescriptor yX12_image.desc).map (fun d => d.parameters.length) = some 0 := by decide +kernel
theorem dkX5_tellBowl : yX5_tellBowl.cls ≠ "java/lang/invoke/MethodHandle" ∧ yX5_tellBowl.cls ≠ "java/lang/invoke/VarHandle" ∧ (parseMethodDescriptor yX5_tellBowl.desc).map (fun d => d.parameters.length) = some 2 := by decide +kernel
theorem dkX12_comesTold : yX12_comesTold.cls ≠ "java/lang/invoke/MethodHandle" ∧ yX12_comesTold.cls ≠ "java/lang/invoke/VarHandle" ∧ (parseMethodDescriptor yX12_comesTold.desc).map (fun d => d.parameters.length) = some 1 := by decide +kernel
theorem dkX7_longestWith : yX7_longestWith.cls ≠ "java/lang/invoke/MethodHandle" ∧ yX7_longestWith.cls ≠ "java/lang/invoke/VarHandle" ∧ (parseMethodDescriptor yX7_longestWith.desc).map (fun d => d.parameters.length) = some 2 := by decide +kernel
theorem dkX12_spanOf : yX12_spanOf.cls ≠ "java/lang/invoke/MethodHandle" ∧ yX12_spanOf.cls ≠ "java/lang/invoke/VarHandle" ∧ (parseMethodDescriptor yX12_spanOf.desc).map (fun d => d.parameters.length) = some 4 := by decide +kernel
theorem dkX11_restore : yX11_restore.cls ≠ "java/lang/invoke/MethodHandle" ∧ yX11_restore.cls ≠ "java/lang/invoke/VarHandle" ∧ (parseMethodDescriptor yX11_restore.desc).map (fun d => d.parameters.length) = some 0 := by decide +kernel
theorem dkX10_hasPlace : yX10_hasPlace.cls ≠ "java/lang/invoke/MethodHandle" ∧ yX10_hasPlace.cls ≠ "java/lang/invoke/VarHandle" ∧ (parseMethodDescriptor yX10_hasPlace.desc).map (fun d => d.parameters.length) = some 1 := by decide +kernel
theorem dkX12_outside : yX12_outside.cls ≠ "java/lang/invoke/MethodHandle" ∧ yX12_outside.cls ≠ "java/lang/invoke/VarHandle" ∧ (parseMethodDescriptor yX12_outside.desc).map (fun d => d.parameters.length) = some 1 := by decide +kernel
theorem dkX12_load : yX12_load.cls ≠ "java/lang/invoke/MethodHandle" ∧ yX12_load.cls ≠ "java/lang/invoke/VarHandle" ∧ (parseMethodDescriptor yX12_load.desc).map (fun d => d.parameters.length) = some 1 := by decide +kernel
theorem dkX12_height : yX12_height.cls ≠ "java/lang/invoke/MethodHandle" ∧ yX12_height.cls ≠ "java/lang/invoke/VarHandle" ∧ (parseMethodDescriptor yX12_height.desc).map (fun d => d.parameters.length) = some 1 := by decide +kernel
theorem dkX11_price : yX11_price.cls ≠ "java/lang/invoke/MethodHandle" ∧ yX11_price.cls ≠ "java/lang/invoke/VarHandle" ∧ (parseMethodDescriptor yX11_price.desc).map (fun d => d.parameters.length) = some 1 := by decide +kernel
theorem dkX12_put : yX12_put.cls ≠ "java/lang/invoke/MethodHandle" ∧ yX12_put.cls ≠ "java/lang/invoke/VarHandle" ∧ (parseMethodDescriptor yX12_put.desc).map (fun d => d.parameters.length) = some 3 := by decide +kernel
theorem dkX10_signEnd : yX10_signEnd.cls ≠ "java/lang/invoke/MethodHandle" ∧ yX10_signEnd.cls ≠ "java/lang/invoke/VarHandle" ∧ (parseMethodDescriptor yX10_signEnd.desc).map (fun d => d.parameters.length) = some 2 := by decide +kernel
theorem dkX0_outside : yX0_outside.cls ≠ "java/lang/invoke/MethodHandle" ∧ yX0_outside.cls ≠ "java/lang/invoke/VarHandle" ∧ (parseMethodDescriptor yX0_outside.desc).map (fun d => d.parameters.length) = some 3 := by decide +kernel
theorem dkX12_priceBy : yX12_priceBy.cls ≠ "java/lang/invoke/MethodHandle" ∧ yX12_priceBy.cls ≠ "java/lang/invoke/VarHandle" ∧ (parseMethodDescriptor yX12_priceBy.desc).map (fun d => d.parameters.length) = some 2 := by decide +kernel
theorem dkX10_statementEnd : yX10_statementEnd.cls ≠ "java/lang/invoke/MethodHandle" ∧ yX10_statementEnd.cls ≠ "java/lang/invoke/VarHandle" ∧ (parseMethodDescriptor yX10_statementEnd.desc).map (fun d => d.parameters.length) = some 1 := by decide +kernel
theorem dkX12_liesAt : yX12_liesAt.cls ≠ "java/lang/invoke/MethodHandle" ∧ yX12_liesAt.cls ≠ "java/lang/invoke/VarHandle" ∧ (parseMethodDescriptor yX12_liesAt.desc).map (fun d => d.parameters.length) = some 3 := by decide +kernel
theorem dkX12_restore : yX12_restore.cls ≠ "java/lang/invoke/MethodHandle" ∧ yX12_restore.cls ≠ "java/lang/invoke/VarHandle" ∧ (parseMethodDescriptor yX12_restore.desc).map (fun d => d.parameters.length) = some 0 := by decide +kernel
theorem dkX12_row : yX12_row.cls ≠ "java/lang/invoke/MethodHandle" ∧ yX12_row.cls ≠ "java/lang/invoke/VarHandle" ∧ (parseMethodDescriptor yX12_row.desc).map (fun d => d.parameters.length) = some 3 := by decide +kernel
theorem dkX12_thrown : yX12_thrown.cls ≠ "java/lang/invoke/MethodHandle" ∧ yX12_thrown.cls ≠ "java/lang/invoke/VarHandle" ∧ (parseMethodDescriptor yX12_thrown.desc).map (fun d => d.parameters.length) = some 0 := by decide +kernel
theorem dkX12_apart : yX12_apart.cls ≠ "java/lang/invoke/MethodHandle" ∧ yX12_apart.cls ≠ "java/lang/invoke/VarHandle" ∧ (parseMethodDescriptor yX12_apart.desc).map (fun d => d.parameters.length) = some 1 := by decide +kernel
theorem dkX12_lays : yX12_lays.cls ≠ "java/lang/invoke/MethodHandle" ∧ yX12_lays.cls ≠ "java/lang/invoke/VarHandle" ∧ (parseMethodDescriptor yX12_lays.desc).map (fun d => d.parameters.length) = some 2 := by decide +kernel
theorem dkX10_digitAt : yX10_digitAt.cls ≠ "java/lang/invoke/MethodHandle" ∧ yX10_digitAt.cls ≠ "java/lang/invoke/VarHandle" ∧ (parseMethodDescriptor yX10_digitAt.desc).map (fun d => d.parameters.length) = some 1 := by decide +kernel
theorem dkX8_outside : yX8_outside.cls ≠ "java/lang/invoke/MethodHandle" ∧ yX8_outside.cls ≠ "java/lang/invoke/VarHandle" ∧ (parseMethodDescriptor yX8_outside.desc).map (fun d => d.parameters.length) = some 3 := by decide +kernel
theorem dkX5_isIn : yX5_isIn.cls ≠ "java/lang/invoke/MethodHandle" ∧ yX5_isIn.cls ≠ "java/lang/invoke/VarHandle" ∧ (parseMethodDescriptor yX5_isIn.desc).map (fun d => d.parameters.length) = some 3 := by decide +kernel
theorem dkX5_outsideAt : yX5_outsideAt.cls ≠ "java/lang/invoke/MethodHandle" ∧ yX5_outsideAt.cls ≠ "java/lang/invoke/VarHandle" ∧ (parseMethodDescriptor yX5_outsideAt.desc).map (fun d => d.parameters.length) = some 2 := by decide +kernel
theorem dkX11_turn : yX11_turn.cls ≠ "java/lang/invoke/MethodHandle" ∧ yX11_turn.cls ≠ "java/lang/invoke/VarHandle" ∧ (parseMethodDescriptor yX11_turn.desc).map (fun d => d.parameters.length) = some 1 := by decide +kernel
theorem dkX0_minds : yX0_minds.cls ≠ "java/lang/invoke/MethodHandle" ∧ yX0_minds.cls ≠ "java/lang/invoke/VarHandle" ∧ (parseMethodDescriptor yX0_minds.desc).map (fun d => d.parameters.length) = some 0 := by decide +kernel
theorem dkX5_heightOf : yX5_heightOf.cls ≠ "java/lang/invoke/MethodHandle" ∧ yX5_heightOf.cls ≠ "java/lang/invoke/VarHandle" ∧ (parseMethodDescriptor yX5_heightOf.desc).map (fun d => d.parameters.length) = some 1 := by decide +kernel
theorem dkX11_judge : yX11_judge.cls ≠ "java/lang/invoke/MethodHandle" ∧ yX11_judge.cls ≠ "java/lang/invoke/VarHandle" ∧ (parseMethodDescriptor yX11_judge.desc).map (fun d => d.parameters.length) = some 1 := by decide +kernel
theorem dkX12_heightOf : yX12_heightOf.cls ≠ "java/lang/invoke/MethodHandle" ∧ yX12_heightOf.cls ≠ "java/lang/invoke/VarHandle" ∧ (parseMethodDescriptor yX12_heightOf.desc).map (fun d => d.parameters.length) = some 1 := by decide +kernel
theorem dkJ6_bitCount_0f7a4 : yJ6_bitCount_0f7a4.cls ≠ "java/lang/invoke/MethodHandle" ∧ yJ6_bitCount_0f7a4.cls ≠ "java/lang/invoke/VarHandle" ∧ (parseMethodDescriptor yJ6_bitCount_0f7a4.desc).map (fun d => d.parameters.length) = some 1 := by decide +kernel
theorem dkX9_cost : yX9_cost.cls ≠ "java/lang/invoke/MethodHandle" ∧ yX9_cost.cls ≠ "java/lang/invoke/VarHandle" ∧ (parseMethodDescriptor yX9_cost.desc).map (fun d => d.parameters.length) = some 1 := by decide +kernel
theorem dkX3_inside : yX3_inside.cls ≠ "java/lang/invoke/MethodHandle" ∧ yX3_inside.cls ≠ "java/lang/invoke/VarHandle" ∧ (parseMethodDescriptor yX3_inside.desc).map (fun d => d.parameters.length) = some 4 := by decide +kernel
theorem dkX12_here : yX12_here.cls ≠ "java/lang/invoke/MethodHandle" ∧ yX12_here.cls ≠ "java/lang/invoke/VarHandle" ∧ (parseMethodDescriptor yX12_here.desc).map (fun d => d.parameters.length) = some 0 := by decide +kernel
theorem dkX11_init : yX11_init.cls ≠ "java/lang/invoke/MethodHandle" ∧ yX11_init.cls ≠ "java/lang/invoke/VarHandle" ∧ (parseMethodDescriptor yX11_init.desc).map (fun d => d.parameters.length) = some 0 := by decide +kernel
theorem dkX10_clear : yX10_clear.cls ≠ "java/lang/invoke/MethodHandle" ∧ yX10_clear.cls ≠ "java/lang/invoke/VarHandle" ∧ (parseMethodDescriptor yX10_clear.desc).map (fun d => d.parameters.length) = some 0 := by decide +kernel
theorem dkX8_minds : yX8_minds.cls ≠ "java/lang/invoke/MethodHandle" ∧ yX8_minds.cls ≠ "java/lang/invoke/VarHandle" ∧ (parseMethodDescriptor yX8_minds.desc).map (fun d => d.parameters.length) = some 0 := by decide +kernel
theorem dkX11_carry : yX11_carry.cls ≠ "java/lang/invoke/MethodHandle" ∧ yX11_carry.cls ≠ "java/lang/invoke/VarHandle" ∧ (parseMethodDescriptor yX11_carry.desc).map (fun d => d.parameters.length) = some 0 := by decide +kernel
theorem dkX6_inside : yX6_inside.cls ≠ "java/lang/invoke/MethodHandle" ∧ yX6_inside.cls ≠ "java/lang/invoke/VarHandle" ∧ (parseMethodDescriptor yX6_inside.desc).map (fun d => d.parameters.length) = some 4 := by decide +kernel
theorem dkX5_agree : yX5_agree.cls ≠ "java/lang/invoke/MethodHandle" ∧ yX5_agree.cls ≠ "java/lang/invoke/VarHandle" ∧ (parseMethodDescriptor yX5_agree.desc).map (fun d => d.parameters.length) = some 2 := by decide +kernel
theorem dkX5_place : yX5_place.cls ≠ "java/lang/invoke/MethodHandle" ∧ yX5_place.cls ≠ "java/lang/invoke/VarHandle" ∧ (parseMethodDescriptor yX5_place.desc).map (fun d => d.parameters.length) = some 5 := by decide +kernel
theorem dkX0_fail : yX0_fail.cls ≠ "java/lang/invoke/MethodHandle" ∧ yX0_fail.cls ≠ "java/lang/invoke/VarHandle" ∧ (parseMethodDescriptor yX0_fail.desc).map (fun d => d.parameters.length) = some 1 := by decide +kernel
theorem dkX5_add : yX5_add.cls ≠ "java/lang/invoke/MethodHandle" ∧ yX5_add.cls ≠ "java/lang/invoke/VarHandle" ∧ (parseMethodDescriptor yX5_add.desc).map (fun d => d.parameters.length) = some 5 := by decide +kernel
theorem dkX11_bytesRefusal : yX11_bytesRefusal.cls ≠ "java/lang/invoke/MethodHandle" ∧ yX11_bytesRefusal.cls ≠ "java/lang/invoke/VarHandle" ∧ (parseMethodDescriptor yX11_bytesRefusal.desc).map (fun d => d.parameters.length) = some 1 := by decide +kernel
theorem dkX12_wrongRow : yX12_wrongRow.cls ≠ "java/lang/invoke/MethodHandle" ∧ yX12_wrongRow.cls ≠ "java/lang/invoke/VarHandle" ∧ (parseMethodDescriptor yX12_wrongRow.desc).map (fun d => d.parameters.length) = some 2 := by decide +kernel
theorem dkX7_leastSum : yX7_leastSum.cls ≠ "java/lang/invoke/MethodHandle" ∧ yX7_leastSum.cls ≠ "java/lang/invoke/VarHandle" ∧ (parseMethodDescriptor yX7_leastSum.desc).map (fun d => d.parameters.length) = some 0 := by decide +kernel
theorem dkX11_next : yX11_next.cls ≠ "java/lang/invoke/MethodHandle" ∧ yX11_next.cls ≠ "java/lang/invoke/VarHandle" ∧ (parseMethodDescriptor yX11_next.desc).map (fun d => d.parameters.length) = some 2 := by decide +kernel
theorem dkX12_comes : yX12_comes.cls ≠ "java/lang/invoke/MethodHandle" ∧ yX12_comes.cls ≠ "java/lang/invoke/VarHandle" ∧ (parseMethodDescriptor yX12_comes.desc).map (fun d => d.parameters.length) = some 4 := by decide +kernel
theorem dkX11_isWithin : yX11_isWithin.cls ≠ "java/lang/invoke/MethodHandle" ∧ yX11_isWithin.cls ≠ "java/lang/invoke/VarHandle" ∧ (parseMethodDescriptor yX11_isWithin.desc).map (fun d => d.parameters.length) = some 3 := by decide +kernel
theorem dkX11_longest : yX11_longest.cls ≠ "java/lang/invoke/MethodHandle" ∧ yX11_longest.cls ≠ "java/lang/invoke/VarHandle" ∧ (parseMethodDescriptor yX11_longest.desc).map (fun d => d.parameters.length) = some 2 := by decide +kernel
theorem dkX3_rise : yX3_rise.cls ≠ "java/lang/invoke/MethodHandle" ∧ yX3_rise.cls ≠ "java/lang/invoke/VarHandle" ∧ (parseMethodDescriptor yX3_rise.desc).map (fun d => d.parameters.length) = some 1 := by decide +kernel
theorem dkX12_inside : yX12_inside.cls ≠ "java/lang/invoke/MethodHandle" ∧ yX12_inside.cls ≠ "java/lang/invoke/VarHandle" ∧ (parseMethodDescriptor yX12_inside.desc).map (fun d => d.parameters.length) = some 1 := by decide +kernel
theorem dkX12_carry : yX12_carry.cls ≠ "java/lang/invoke/MethodHandle" ∧ yX12_carry.cls ≠ "java/lang/invoke/VarHandle" ∧ (parseMethodDescriptor yX12_carry.desc).map (fun d => d.parameters.length) = some 0 := by decide +kernel
theorem dkX12_breaks : yX12_breaks.cls ≠ "java/lang/invoke/MethodHandle" ∧ yX12_breaks.cls ≠ "java/lang/invoke/VarHandle" ∧ (parseMethodDescriptor yX12_breaks.desc).map (fun d => d.parameters.length) = some 3 := by decide +kernel
theorem dkX10_set : yX10_set.cls ≠ "java/lang/invoke/MethodHandle" ∧ yX10_set.cls ≠ "java/lang/invoke/VarHandle" ∧ (parseMethodDescriptor yX10_set.desc).map (fun d => d.parameters.length) = some 2 := by decide +kernel
theorem dkX5_insideAt : yX5_insideAt.cls ≠ "java/lang/invoke/MethodHandle" ∧ yX5_insideAt.cls ≠ "java/lang/invoke/VarHandle" ∧ (parseMethodDescriptor yX5_insideAt.desc).map (fun d => d.parameters.length) = some 3 := by decide +kernel
theorem dkX6_cost : yX6_cost.cls ≠ "java/lang/invoke/MethodHandle" ∧ yX6_cost.cls ≠ "java/lang/invoke/VarHandle" ∧ (parseMethodDescriptor yX6_cost.desc).map (fun d => d.parameters.length) = some 1 := by decide +kernel
theorem dkX6_rise : yX6_rise.cls ≠ "java/lang/invoke/MethodHandle" ∧ yX6_rise.cls ≠ "java/lang/invoke/VarHandle" ∧ (parseMethodDescriptor yX6_rise.desc).map (fun d => d.parameters.length) = some 1 := by decide +kernel
theorem dkX12_count : yX12_count.cls ≠ "java/lang/invoke/MethodHandle" ∧ yX12_count.cls ≠ "java/lang/invoke/VarHandle" ∧ (parseMethodDescriptor yX12_count.desc).map (fun d => d.parameters.length) = some 1 := by decide +kernel
theorem dkX5_become : yX5_become.cls ≠ "java/lang/invoke/MethodHandle" ∧ yX5_become.cls ≠ "java/lang/invoke/VarHandle" ∧ (parseMethodDescriptor yX5_become.desc).map (fun d => d.parameters.length) = some 1 := by decide +kernel
theorem dkX11_rowRefusal : yX11_rowRefusal.cls ≠ "java/lang/invoke/MethodHandle" ∧ yX11_rowRefusal.cls ≠ "java/lang/invoke/VarHandle" ∧ (parseMethodDescriptor yX11_rowRefusal.desc).map (fun d => d.parameters.length) = some 1 := by decide +kernel
theorem dkX11_row : yX11_row.cls ≠ "java/lang/invoke/MethodHandle" ∧ yX11_row.cls ≠ "java/lang/invoke/VarHandle" ∧ (parseMethodDescriptor yX11_row.desc).map (fun d => d.parameters.length) = some 3 := by decide +kernel
theorem dkX12_isShelf : yX12_isShelf.cls ≠ "java/lang/invoke/MethodHandle" ∧ yX12_isShelf.cls ≠ "java/lang/invoke/VarHandle" ∧ (parseMethodDescriptor yX12_isShelf.desc).map (fun d => d.parameters.length) = some 1 := by decide +kernel
theorem dkX10_numberEnd : yX10_numberEnd.cls ≠ "java/lang/invoke/MethodHandle" ∧ yX10_numberEnd.cls ≠ "java/lang/invoke/VarHandle" ∧ (parseMethodDescriptor yX10_numberEnd.desc).map (fun d => d.parameters.length) = some 1 := by decide +kernel
theorem dkX12_outsideBy : yX12_outsideBy.cls ≠ "java/lang/invoke/MethodHandle" ∧ yX12_outsideBy.cls ≠ "java/lang/invoke/VarHandle" ∧ (parseMethodDescriptor yX12_outsideBy.desc).map (fun d => d.parameters.length) = some 2 := by decide +kernel
theorem dkX10_isDigit : yX10_isDigit.cls ≠ "java/lang/invoke/MethodHandle" ∧ yX10_isDigit.cls ≠ "java/lang/invoke/VarHandle" ∧ (parseMethodDescriptor yX10_isDigit.desc).map (fun d => d.parameters.length) = some 1 := by decide +kernel
theorem dkX10_at : yX10_at.cls ≠ "java/lang/invoke/MethodHandle" ∧ yX10_at.cls ≠ "java/lang/invoke/VarHandle" ∧ (parseMethodDescriptor yX10_at.desc).map (fun d => d.parameters.length) = some 1 := by decide +kernel
theorem dkX11_warm : yX11_warm.cls ≠ "java/lang/invoke/MethodHandle" ∧ yX11_warm.cls ≠ "java/lang/invoke/VarHandle" ∧ (parseMethodDescriptor yX11_warm.desc).map (fun d => d.parameters.length) = some 1 := by decide +kernel
theorem dkX11_element : yX11_element.cls ≠ "java/lang/invoke/MethodHandle" ∧ yX11_element.cls ≠ "java/lang/invoke/VarHandle" ∧ (parseMethodDescriptor yX11_element.desc).map (fun d => d.parameters.length) = some 2 := by decide +kernel
theorem dkX12_leastOf : yX12_leastOf.cls ≠ "java/lang/invoke/MethodHandle" ∧ yX12_leastOf.cls ≠ "java/lang/invoke/VarHandle" ∧ (parseMethodDescriptor yX12_leastOf.desc).map (fun d => d.parameters.length) = some 2 := by decide +kernel
theorem dkX12_areApart : yX12_areApart.cls ≠ "java/lang/invoke/MethodHandle" ∧ yX12_areApart.cls ≠ "java/lang/invoke/VarHandle" ∧ (parseMethodDescriptor yX12_areApart.desc).map (fun d => d.parameters.length) = some 1 := by decide +kernel
theorem dkX11_out : yX11_out.cls ≠ "java/lang/invoke/MethodHandle" ∧ yX11_out.cls ≠ "java/lang/invoke/VarHandle" ∧ (parseMethodDescriptor yX11_out.desc).map (fun d => d.parameters.length) = some 2 := by decide +kernel
theorem dkX11_isWarmth : yX11_isWarmth.cls ≠ "java/lang/invoke/MethodHandle" ∧ yX11_isWarmth.cls ≠ "java/lang/invoke/VarHandle" ∧ (parseMethodDescriptor yX11_isWarmth.desc).map (fun d => d.parameters.length) = some 1 := by decide +kernel
theorem dkX7_lengthenOutward : yX7_lengthenOutward.cls ≠ "java/lang/invoke/MethodHandle" ∧ yX7_lengthenOutward.cls ≠ "java/lang/invoke/VarHandle" ∧ (parseMethodDescriptor yX7_lengthenOutward.desc).map (fun d => d.parameters.length) = some 1 := by decide +kernel
theorem dkX4_inside : yX4_inside.cls ≠ "java/lang/invoke/MethodHandle" ∧ yX4_inside.cls ≠ "java/lang/invoke/VarHandle" ∧ (parseMethodDescriptor yX4_inside.desc).map (fun d => d.parameters.length) = some 4 := by decide +kernel
theorem dkX4_cost : yX4_cost.cls ≠ "java/lang/invoke/MethodHandle" ∧ yX4_cost.cls ≠ "java/lang/invoke/VarHandle" ∧ (parseMethodDescriptor yX4_cost.desc).map (fun d => d.parameters.length) = some 1 := by decide +kernel
theorem dkX11_areBowls : yX11_areBowls.cls ≠ "java/lang/invoke/MethodHandle" ∧ yX11_areBowls.cls ≠ "java/lang/invoke/VarHandle" ∧ (parseMethodDescriptor yX11_areBowls.desc).map (fun d => d.parameters.length) = some 1 := by decide +kernel
theorem dkX7_lengthenInward : yX7_lengthenInward.cls ≠ "java/lang/invoke/MethodHandle" ∧ yX7_lengthenInward.cls ≠ "java/lang/invoke/VarHandle" ∧ (parseMethodDescriptor yX7_lengthenInward.desc).map (fun d => d.parameters.length) = some 1 := by decide +kernel
theorem dkX10_holdRow : yX10_holdRow.cls ≠ "java/lang/invoke/MethodHandle" ∧ yX10_holdRow.cls ≠ "java/lang/invoke/VarHandle" ∧ (parseMethodDescriptor yX10_holdRow.desc).map (fun d => d.parameters.length) = some 2 := by decide +kernel
theorem dkX12_element : yX12_element.cls ≠ "java/lang/invoke/MethodHandle" ∧ yX12_element.cls ≠ "java/lang/invoke/VarHandle" ∧ (parseMethodDescriptor yX12_element.desc).map (fun d => d.parameters.length) = some 2 := by decide +kernel
theorem dkX6_init : yX6_init.cls ≠ "java/lang/invoke/MethodHandle" ∧ yX6_init.cls ≠ "java/lang/invoke/VarHandle" ∧ (parseMethodDescriptor yX6_init.desc).map (fun d => d.parameters.length) = some 0 := by decide +kernel
theorem dkX11_keep : yX11_keep.cls ≠ "java/lang/invoke/MethodHandle" ∧ yX11_keep.cls ≠ "java/lang/invoke/VarHandle" ∧ (parseMethodDescriptor yX11_keep.desc).map (fun d => d.parameters.length) = some 4 := by decide +kernel
theorem dkX10_init : yX10_init.cls ≠ "java/lang/invoke/MethodHandle" ∧ yX10_init.cls ≠ "java/lang/invoke/VarHandle" ∧ (parseMethodDescriptor yX10_init.desc).map (fun d => d.parameters.length) = some 0 := by decide +kernel
theorem dkX1_cost : yX1_cost.cls ≠ "java/lang/invoke/MethodHandle" ∧ yX1_cost.cls ≠ "java/lang/invoke/VarHandle" ∧ (parseMethodDescriptor yX1_cost.desc).map (fun d => d.parameters.length) = some 1 := by decide +kernel
theorem dkX12_wholeOf : yX12_wholeOf.cls ≠ "java/lang/invoke/MethodHandle" ∧ yX12_wholeOf.cls ≠ "java/lang/invoke/VarHandle" ∧ (parseMethodDescriptor yX12_wholeOf.desc).map (fun d => d.parameters.length) = some 2 := by decide +kernel
theorem dkX12_bits : yX12_bits.cls ≠ "java/lang/invoke/MethodHandle" ∧ yX12_bits.cls ≠ "java/lang/invoke/VarHandle" ∧ (parseMethodDescriptor yX12_bits.desc).map (fun d => d.parameters.length) = some 1 := by decide +kernel
theorem dkX4_fail : yX4_fail.cls ≠ "java/lang/invoke/MethodHandle" ∧ yX4_fail.cls ≠ "java/lang/invoke/VarHandle" ∧ (parseMethodDescriptor yX4_fail.desc).map (fun d => d.parameters.length) = some 1 := by decide +kernel
theorem dkX5_dropLatest : yX5_dropLatest.cls ≠ "java/lang/invoke/MethodHandle" ∧ yX5_dropLatest.cls ≠ "java/lang/invoke/VarHandle" ∧ (parseMethodDescriptor yX5_dropLatest.desc).map (fun d => d.parameters.length) = some 0 := by decide +kernel
theorem dkX12_drawn : yX12_drawn.cls ≠ "java/lang/invoke/MethodHandle" ∧ yX12_drawn.cls ≠ "java/lang/invoke/VarHandle" ∧ (parseMethodDescriptor yX12_drawn.desc).map (fun d => d.parameters.length) = some 1 := by decide +kernel
theorem dkX12_puts : yX12_puts.cls ≠ "java/lang/invoke/MethodHandle" ∧ yX12_puts.cls ≠ "java/lang/invoke/VarHandle" ∧ (parseMethodDescriptor yX12_puts.desc).map (fun d => d.parameters.length) = some 3 := by decide +kernel
theorem dkX12_canBeBetween : yX12_canBeBetween.cls ≠ "java/lang/invoke/MethodHandle" ∧ yX12_canBeBetween.cls ≠ "java/lang/invoke/VarHandle" ∧ (parseMethodDescriptor yX12_canBeBetween.desc).map (fun d => d.parameters.length) = some 2 := by decide +kernel
theorem dkX12_isOval : yX12_isOval.cls ≠ "java/lang/invoke/MethodHandle" ∧ yX12_isOval.cls ≠ "java/lang/invoke/VarHandle" ∧ (parseMethodDescriptor yX12_isOval.desc).map (fun d => d.parameters.length) = some 1 := by decide +kernel
theorem dkX5_all : yX5_all.cls ≠ "java/lang/invoke/MethodHandle" ∧ yX5_all.cls ≠ "java/lang/invoke/VarHandle" ∧ (parseMethodDescriptor yX5_all.desc).map (fun d => d.parameters.length) = some 0 := by decide +kernel
theorem dkX3_cost : yX3_cost.cls ≠ "java/lang/invoke/MethodHandle" ∧ yX3_cost.cls ≠ "java/lang/invoke/VarHandle" ∧ (parseMethodDescriptor yX3_cost.desc).map (fun d => d.parameters.length) = some 1 := by decide +kernel
theorem dkX5_init : yX5_init.cls ≠ "java/lang/invoke/MethodHandle" ∧ yX5_init.cls ≠ "java/lang/invoke/VarHandle" ∧ (parseMethodDescriptor yX5_init.desc).map (fun d => d.parameters.length) = some 1 := by decide +kernel
theorem dkX7_note : yX7_note.cls ≠ "java/lang/invoke/MethodHandle" ∧ yX7_note.cls ≠ "java/lang/invoke/VarHandle" ∧ (parseMethodDescriptor yX7_note.desc).map (fun d => d.parameters.length) = some 3 := by decide +kernel
theorem dkX11_shelfRefusal : yX11_shelfRefusal.cls ≠ "java/lang/invoke/MethodHandle" ∧ yX11_shelfRefusal.cls ≠ "java/lang/invoke/VarHandle" ∧ (parseMethodDescriptor yX11_shelfRefusal.desc).map (fun d => d.parameters.length) = some 2 := by decide +kernel
theorem dkX11_brokenBy : yX11_brokenBy.cls ≠ "java/lang/invoke/MethodHandle" ∧ yX11_brokenBy.cls ≠ "java/lang/invoke/VarHandle" ∧ (parseMethodDescriptor yX11_brokenBy.desc).map (fun d => d.parameters.length) = some 2 := by decide +kernel
theorem dkX12_readsStatement : yX12_readsStatement.cls ≠ "java/lang/invoke/MethodHandle" ∧ yX12_readsStatement.cls ≠ "java/lang/invoke/VarHandle" ∧ (parseMethodDescriptor yX12_readsStatement.desc).map (fun d => d.parameters.length) = some 0 := by decide +kernel
theorem dkX5_allDepths : yX5_allDepths.cls ≠ "java/lang/invoke/MethodHandle" ∧ yX5_allDepths.cls ≠ "java/lang/invoke/VarHandle" ∧ (parseMethodDescriptor yX5_allDepths.desc).map (fun d => d.parameters.length) = some 0 := by decide +kernel
theorem dkX7_costLessForSetsOf : yX7_costLessForSetsOf.cls ≠ "java/lang/invoke/MethodHandle" ∧ yX7_costLessForSetsOf.cls ≠ "java/lang/invoke/VarHandle" ∧ (parseMethodDescriptor yX7_costLessForSetsOf.desc).map (fun d => d.parameters.length) = some 1 := by decide +kernel
theorem lX11_70 : zLv RX11 70 mX11_bytesRefusal 1 := ⟨⟨Or.inl (big_in (List.mem_of_getElem? (i := 233) (by decide +kernel)) rfl), ckX11_bytesRefusal, ikRX11, dkX11_bytesRefusal, by decide⟩, nkX11_bytesRefusal, vkX11_bytesRefusal⟩
theorem lX11_74 : zLv RX11 74 mX10_faultOfForm 0 := ⟨⟨Or.inl (big_in (List.mem_of_getElem? (i := 247) (by decide +kernel)) rfl), ckX10_faultOfForm, ikRX10, dkX10_faultOfForm, by decide⟩, nkX10_faultOfForm, vkX10_faultOfForm⟩
theorem lX11_78 : zLv RX11 78 mX11_tellAll 1 := ⟨⟨Or.inl (big_in (List.mem_of_getElem? (i := 275) (by decide +kernel)) rfl), ckX11_tellAll, ikRX11, dkX11_tellAll, by decide⟩, nkX11_tellAll, vkX11_tellAll⟩
theorem lX11_82 : zLv RX11 82 mX5_has 1 := ⟨⟨Or.inl (big_in (List.mem_of_getElem? (i := 329) (by decide +kernel)) rfl), ckX5_has, ikRX5, dkX5_has, by decide⟩, nkX5_has, vkX5_has⟩
theorem lX11_102 : zLv RX11 102 mX5_outsideAt 2 := ⟨⟨Or.inl (big_in (List.mem_of_getElem? (i := 330) (by decide +kernel)) rfl), ckX5_outsideAt, ikRX5, dkX5_outsideAt, by decide⟩, nkX5_outsideAt, vkX5_outsideAt⟩
theorem lX11_110 : zLv RX11 110 mX5_insideAt 3 := ⟨⟨Or.inl (big_in (List.mem_of_getElem? (i := 363) (by decide +kernel)) rfl), ckX5_insideAt, ikRX5, dkX5_insideAt, by decide⟩, nkX5_insideAt, vkX5_insideAt⟩
theorem lX11_114 : zLv RX11 114 mX5_riseOf 1 := ⟨⟨Or.inl (big_in (List.mem_of_getElem? (i := 390) (by decide +kernel)) rfl), ckX5_riseOf, ikRX5, dkX5_riseOf, by decide⟩, nkX5_riseOf, vkX5_riseOf⟩
theorem lX11_117 : zLs RX11 117 mX11_isShelf 1 := ⟨⟨Or.inl (big_in (List.mem_of_getElem? (i := 241) (by decide +kernel)) rfl), ckX11_isShelf, ikRX11, dkX11_isShelf, by decide⟩, skX11_isShelf⟩
theorem lX11_120 : zLs RX11 120 mX11_areHairs 1 := ⟨⟨Or.inl (big_in (List.mem_of_getElem? (i := 422) (by decide +kernel)) rfl), ckX11_areHairs, ikRX11, dkX11_areHairs, by decide⟩, skX11_areHairs⟩
theorem lX11_123 : zLs RX11 123 mX11_isWithin 3 := ⟨⟨Or.inl (big_in (List.mem_of_getElem? (i := 244) (by decide +kernel)) rfl), ckX11_isWithin, ikRX11, dkX11_isWithin, by decide⟩, skX11_isWithin⟩
theorem lX11_127 : zLv RX11 127 mX11_bowlRefusal 1 := ⟨⟨Or.inl (big_in (List.mem_of_getElem? (i := 425) (by decide +kernel)) rfl), ckX11_bowlRefusal, ikRX11, dkX11_bowlRefusal, by decide⟩, nkX11_bowlRefusal, vkX11_bowlRefusal⟩
theorem lX11_134 : zLv RX11 134 mX5_add 5 := ⟨⟨Or.inl (big_in (List.mem_of_getElem? (i := 429) (by decide +kernel)) rfl), ckX5_add, ikRX5, dkX5_add, by decide⟩, nkX5_add, vkX5_add⟩
theorem lX11_141 : zLs RX11 141 mX11_isWarmth 1 := ⟨⟨Or.inl (big_in (List.mem_of_getElem? (i := 434) (by decide +kernel)) rfl), ckX11_isWarmth, ikRX11, dkX11_isWarmth, by decide⟩, skX11_isWarmth⟩
theorem lX11_144 : zLv RX11 144 mX5_flip 1 := ⟨⟨Or.inl (big_in (List.mem_of_getElem? (i := 441) (by decide +kernel)) rfl), ckX5_flip, ikRX5, dkX5_flip, by decide⟩, nkX5_flip, vkX5_flip⟩
theorem lX11_147 : zLv RX11 147 mX11_arePair 2 := ⟨⟨Or.inl (big_in (List.mem_of_getElem? (i := 446) (by decide +kernel)) rfl), ckX11_arePair, ikRX11, dkX11_arePair, by decide⟩, nkX11_arePair, vkX11_arePair⟩
theorem lX11_151 : zLv RX11 151 mX5_isIn 3 := ⟨⟨Or.inl (big_in (List.mem_of_getElem? (i := 450) (by decide +kernel)) rfl), ckX5_isIn, ikRX5, dkX5_isIn, by decide⟩, nkX5_isIn, vkX5_isIn⟩
theorem lX11_154 : zLv RX11 154 mX11_areBowls 1 := ⟨⟨Or.inl (big_in (List.mem_of_getElem? (i := 478) (by decide +kernel)) rfl), ckX11_areBowls, ikRX11, dkX11_areBowls, by decide⟩, nkX11_areBowls, vkX11_areBowls⟩
theorem lX11_157 : zLv RX11 157 mX5_heightOf 1 := ⟨⟨Or.inl (big_in (List.mem_of_getElem? (i := 486) (by decide +kernel)) rfl), ckX5_heightOf, ikRX5, dkX5_heightOf, by decide⟩, nkX5_heightOf, vkX5_heightOf⟩
theorem lX11_160 : zLv RX11 160 mX7_findAll 1 := ⟨⟨Or.inl (big_in (List.mem_of_getElem? (i := 504) (by decide +kernel)) rfl), ckX7_findAll, ikRX7, dkX7_findAll, by decide⟩, nkX7_findAll, vkX7_findAll⟩
theorem lX11_164 : zLv RX11 164 mX7_longestOf 1 := ⟨⟨Or.inl (big_in (List.mem_of_getElem? (i := 522) (by decide +kernel)) rfl), ckX7_longestOf, ikRX7, dkX7_longestOf, by decide⟩, nkX7_longestOf, vkX7_longestOf⟩
theorem lX11_167 : zLs RX11 167 mJ6_bitCount_0f7a4 1 := ⟨⟨Or.inl (big_in (List.mem_of_getElem? (i := 536) (by decide +kernel)) rfl), ckJ6_bitCount_0f7a4, ikRJ6, dkJ6_bitCount_0f7a4, by decide⟩, skJ6_bitCount_0f7a4⟩
theorem lX11_173 : zLv RX11 173 mX7_costOneEach 1 := ⟨⟨Or.inl (big_in (List.mem_of_getElem? (i := 542) (by decide +kernel)) rfl), ckX7_costOneEach, ikRX7, dkX7_costOneEach, by decide⟩, nkX7_costOneEach, vkX7_costOneEach⟩
theorem lX11_177 : zLv RX11 177 mX7_leastSum 0 := ⟨⟨Or.inl (big_in (List.mem_of_getElem? (i := 547) (by decide +kernel)) rfl), ckX7_leastSum, ikRX7, dkX7_leastSum, by decide⟩, nkX7_leastSum, vkX7_leastSum⟩
theorem lX11_180 : zLv RX11 180 mX7_mostApart 0 := ⟨⟨Or.inl (big_in (List.mem_of_getElem? (i := 555) (by decide +kernel)) rfl), ckX7_mostApart, ikRX7, dkX7_mostApart, by decide⟩, nkX7_mostApart, vkX7_mostApart⟩
theorem lX11_183 : zLv RX11 183 mX7_costHeights 0 := ⟨⟨Or.inl (big_in (List.mem_of_getElem? (i := 567) (by decide +kernel)) rfl), ckX7_costHeights, ikRX7, dkX7_costHeights, by decide⟩, nkX7_costHeights, vkX7_costHeights⟩
theorem lX11_186 : zLv RX11 186 mX7_costLessForSetsOf 1 := ⟨⟨Or.inl (big_in (List.mem_of_getElem? (i := 579) (by decide +kernel)) rfl), ckX7_costLessForSetsOf, ikRX7, dkX7_costLessForSetsOf, by decide⟩, nkX7_costLessForSetsOf, vkX7_costLessForSetsOf⟩
theorem lX11_189 : zLv RX11 189 mX5_arrange 0 := ⟨⟨Or.inl (big_in (List.mem_of_getElem? (i := 587) (by decide +kernel)) rfl), ckX5_arrange, ikRX5, dkX5_arrange, by decide⟩, nkX5_arrange, vkX5_arrange⟩
theorem lX11_192 : zLv RX11 192 mX5_become 1 := ⟨⟨Or.inl (big_in (List.mem_of_getElem? (i := 279) (by decide +kernel)) rfl), ckX5_become, ikRX5, dkX5_become, by decide⟩, nkX5_become, vkX5_become⟩
theorem lX11_195 : zLv RX11 195 mX5_think 2 := ⟨⟨Or.inl (big_in (List.mem_of_getElem? (i := 588) (by decide +kernel)) rfl), ckX5_think, ikRX5, dkX5_think, by decide⟩, nkX5_think, vkX5_think⟩
theorem lX11_201 : zLv RX11 201 mX11_isBridged 3 := ⟨⟨Or.inl (big_in (List.mem_of_getElem? (i := 592) (by decide +kernel)) rfl), ckX11_isBridged, ikRX11, dkX11_isBridged, by decide⟩, nkX11_isBridged, vkX11_isBridged⟩
theorem lX11_204 : zLv RX11 204 mX7_findChains 1 := ⟨⟨Or.inl (big_in (List.mem_of_getElem? (i := 600) (by decide +kernel)) rfl), ckX7_findChains, ikRX7, dkX7_findChains, by decide⟩, nkX7_findChains, vkX7_findChains⟩
theorem lX11_207 : zLv RX11 207 mX7_longestWith 2 := ⟨⟨Or.inl (big_in (List.mem_of_getElem? (i := 613) (by decide +kernel)) rfl), ckX7_longestWith, ikRX7, dkX7_longestWith, by decide⟩, nkX7_longestWith, vkX7_longestWith⟩
theorem lX11_214 : zLv RX11 214 mX11_firstMisplaced 1 := ⟨⟨Or.inl (big_in (List.mem_of_getElem? (i := 621) (by decide +kernel)) rfl), ckX11_firstMisplaced, ikRX11, dkX11_firstMisplaced, by decide⟩, nkX11_firstMisplaced, vkX11_firstMisplaced⟩
theorem lX11_217 : zLv RX11 217 mX10_at 1 := ⟨⟨Or.inl (big_in (List.mem_of_getElem? (i := 625) (by decide +kernel)) rfl), ckX10_at, ikRX10, dkX10_at, by decide⟩, nkX10_at, vkX10_at⟩
theorem lX11_220 : zLv RX11 220 mX11_rowRefusal 1 := ⟨⟨Or.inl (big_in (List.mem_of_getElem? (i := 630) (by decide +kernel)) rfl), ckX11_rowRefusal, ikRX11, dkX11_rowRefusal, by decide⟩, nkX11_rowRefusal, vkX11_rowRefusal⟩
theorem lX11_223 : zLv RX11 223 mX5_spanned 4 := ⟨⟨Or.inl (big_in (List.mem_of_getElem? (i := 638) (by decide +kernel)) rfl), ckX5_spanned, ikRX5, dkX5_spanned, by decide⟩, nkX5_spanned, vkX5_spanned⟩
theorem lX11_227 : zLv RX11 227 mX11_pairsPerhaps 2 := ⟨⟨Or.inl (big_in (List.mem_of_getElem? (i := 647) (by decide +kernel)) rfl), ckX11_pairsPerhaps, ikRX11, dkX11_pairsPerhaps, by decide⟩, nkX11_pairsPerhaps, vkX11_pairsPerhaps⟩
theorem lX11_230 : zLv RX11 230 mX11_brokenBy 2 := ⟨⟨Or.inl (big_in (List.mem_of_getElem? (i := 659) (by decide +kernel)) rfl), ckX11_brokenBy, ikRX11, dkX11_brokenBy, by decide⟩, nkX11_brokenBy, vkX11_brokenBy⟩
theorem lX11_233 : zLv RX11 233 mX5_all 0 := ⟨⟨Or.inl (big_in (List.mem_of_getElem? (i := 482) (by decide +kernel)) rfl), ckX5_all, ikRX5, dkX5_all, by decide⟩, nkX5_all, vkX5_all⟩
theorem lX11_236 : zLv RX11 236 mX5_pairsIn 0 := ⟨⟨Or.inl (big_in (List.mem_of_getElem? (i := 678) (by decide +kernel)) rfl), ckX5_pairsIn, ikRX5, dkX5_pairsIn, by decide⟩, nkX5_pairsIn, vkX5_pairsIn⟩
theorem lX11_239 : zLv RX11 239 mX5_allDepths 0 := ⟨⟨Or.inl (big_in (List.mem_of_getElem? (i := 682) (by decide +kernel)) rfl), ckX5_allDepths, ikRX5, dkX5_allDepths, by decide⟩, nkX5_allDepths, vkX5_allDepths⟩
theorem lX11_242 : zLv RX11 242 mX10_clear 0 := ⟨⟨Or.inl (big_in (List.mem_of_getElem? (i := 690) (by decide +kernel)) rfl), ckX10_clear, ikRX10, dkX10_clear, by decide⟩, nkX10_clear, vkX10_clear⟩
theorem lX11_245 : zLv RX11 245 mX10_holdBowl 2 := ⟨⟨Or.inl (big_in (List.mem_of_getElem? (i := 694) (by decide +kernel)) rfl), ckX10_holdBowl, ikRX10, dkX10_holdBowl, by decide⟩, nkX10_holdBowl, vkX10_holdBowl⟩
theorem lX11_249 : zLv RX11 249 mX10_holdRow 2 := ⟨⟨Or.inl (big_in (List.mem_of_getElem? (i := 702) (by decide +kernel)) rfl), ckX10_holdRow, ikRX10, dkX10_holdRow, by decide⟩, nkX10_holdRow, vkX10_holdRow⟩
theorem lX11_252 : zLv RX11 252 mX10_hasPlace 1 := ⟨⟨Or.inl (big_in (List.mem_of_getElem? (i := 710) (by decide +kernel)) rfl), ckX10_hasPlace, ikRX10, dkX10_hasPlace, by decide⟩, nkX10_hasPlace, vkX10_hasPlace⟩
theorem lX11_255 : zLv RX11 255 mX10_set 2 := ⟨⟨Or.inl (big_in (List.mem_of_getElem? (i := 714) (by decide +kernel)) rfl), ckX10_set, ikRX10, dkX10_set, by decide⟩, nkX10_set, vkX10_set⟩
theorem lX11_276 : zLv RX11 276 mX10_hasStretch 2 := ⟨⟨Or.inl (big_in (List.mem_of_getElem? (i := 722) (by decide +kernel)) rfl), ckX10_hasStretch, ikRX10, dkX10_hasStretch, by decide⟩, nkX10_hasStretch, vkX10_hasStretch⟩
theorem lX11_296 : zLv RX11 296 mX11_shelfRefusal 2 := ⟨⟨Or.inl (big_in (List.mem_of_getElem? (i := 237) (by decide +kernel)) rfl), ckX11_shelfRefusal, ikRX11, dkX11_shelfRefusal, by decide⟩, nkX11_shelfRefusal, vkX11_shelfRefusal⟩
theorem lX11_299 : zLv RX11 299 mX5_tell 2 := ⟨⟨Or.inl (big_in (List.mem_of_getElem? (i := 286) (by decide +kernel)) rfl), ckX5_tell, ikRX5, dkX5_tell, by decide⟩, nkX5_tell, vkX5_tell⟩
theorem lX11_303 : zLv RX11 303 mX10_statementEnd 1 := ⟨⟨Or.inl (big_in (List.mem_of_getElem? (i := 324) (by decide +kernel)) rfl), ckX10_statementEnd, ikRX10, dkX10_statementEnd, by decide⟩, nkX10_statementEnd, vkX10_statementEnd⟩
theorem lX5_47 : zLv RX5 47 mX5_place 5 := ⟨⟨Or.inl (big_in (List.mem_of_getElem? (i := 308) (by decide +kernel)) rfl), ckX5_place, ikRX5, dkX5_place, by decide⟩, nkX5_place, vkX5_place⟩
theorem lX5_51 : zLv RX5 51 mX5_has 1 := ⟨⟨Or.inl (big_in (List.mem_of_getElem? (i := 316) (by decide +kernel)) rfl), ckX5_has, ikRX5, dkX5_has, by decide⟩, nkX5_has, vkX5_has⟩
theorem lX5_55 : zLv RX5 55 mX10_at 1 := ⟨⟨Or.inl (big_in (List.mem_of_getElem? (i := 290) (by decide +kernel)) rfl), ckX10_at, ikRX10, dkX10_at, by decide⟩, nkX10_at, vkX10_at⟩
theorem lX5_61 : zLv RX5 61 mX5_tellBowl 2 := ⟨⟨Or.inl (big_in (List.mem_of_getElem? (i := 291) (by decide +kernel)) rfl), ckX5_tellBowl, ikRX5, dkX5_tellBowl, by decide⟩, nkX5_tellBowl, vkX5_tellBowl⟩
theorem lX5_65 : zLv RX5 65 mX10_digitAt 1 := ⟨⟨Or.inl (big_in (List.mem_of_getElem? (i := 295) (by decide +kernel)) rfl), ckX10_digitAt, ikRX10, dkX10_digitAt, by decide⟩, nkX10_digitAt, vkX10_digitAt⟩
theorem lX5_68 : zLv RX5 68 mX5_flip 1 := ⟨⟨Or.inl (big_in (List.mem_of_getElem? (i := 312) (by decide +kernel)) rfl), ckX5_flip, ikRX5, dkX5_flip, by decide⟩, nkX5_flip, vkX5_flip⟩
theorem lX5_71 : zLv RX5 71 mX5_dropLatest 0 := ⟨⟨Or.inl (big_in (List.mem_of_getElem? (i := 320) (by decide +kernel)) rfl), ckX5_dropLatest, ikRX5, dkX5_dropLatest, by decide⟩, nkX5_dropLatest, vkX5_dropLatest⟩
theorem lX5_75 : zLv RX5 75 mX10_numberAt 1 := ⟨⟨Or.inl (big_in (List.mem_of_getElem? (i := 299) (by decide +kernel)) rfl), ckX10_numberAt, ikRX10, dkX10_numberAt, by decide⟩, nkX10_numberAt, vkX10_numberAt⟩
theorem lX5_78 : zLv RX5 78 mX5_add 5 := ⟨⟨Or.inl (big_in (List.mem_of_getElem? (i := 304) (by decide +kernel)) rfl), ckX5_add, ikRX5, dkX5_add, by decide⟩, nkX5_add, vkX5_add⟩
theorem lX5_95 : zLv RX5 95 mX5_agree 2 := ⟨⟨Or.inl (big_in (List.mem_of_getElem? (i := 454) (by decide +kernel)) rfl), ckX5_agree, ikRX5, dkX5_agree, by decide⟩, nkX5_agree, vkX5_agree⟩
theorem lX5_99 : zLv RX5 99 mX5_outsideAt 2 := ⟨⟨Or.inl (big_in (List.mem_of_getElem? (i := 472) (by decide +kernel)) rfl), ckX5_outsideAt, ikRX5, dkX5_outsideAt, by decide⟩, nkX5_outsideAt, vkX5_outsideAt⟩
theorem lX5_103 : zLv RX5 103 mX5_insideAt 3 := ⟨⟨Or.inl (big_in (List.mem_of_getElem? (i := 473) (by decide +kernel)) rfl), ckX5_insideAt, ikRX5, dkX5_insideAt, by decide⟩, nkX5_insideAt, vkX5_insideAt⟩
theorem lX5_109 : zLs RX5 109 mJ9_max_7cf53 2 := ⟨⟨Or.inl (big_in (List.mem_of_getElem? (i := 642) (by decide +kernel)) rfl), ckJ9_max_7cf53, ikRJ9, dkJ9_max_7cf53, by decide⟩, skJ9_max_7cf53⟩
theorem lX5_114 : zLv RX5 114 mX5_arrange 0 := ⟨⟨Or.inl (big_in (List.mem_of_getElem? (i := 490) (by decide +kernel)) rfl), ckX5_arrange, ikRX5, dkX5_arrange, by decide⟩, nkX5_arrange, vkX5_arrange⟩
theorem lX5_117 : zLv RX5 117 mX5_isIn 3 := ⟨⟨Or.inl (big_in (List.mem_of_getElem? (i := 494) (by decide +kernel)) rfl), ckX5_isIn, ikRX5, dkX5_isIn, by decide⟩, nkX5_isIn, vkX5_isIn⟩
theorem lX5_121 : zLv RX5 121 mX5_riseOf 1 := ⟨⟨Or.inl (big_in (List.mem_of_getElem? (i := 495) (by decide +kernel)) rfl), ckX5_riseOf, ikRX5, dkX5_riseOf, by decide⟩, nkX5_riseOf, vkX5_riseOf⟩
theorem lX6_11 : zLs RX6 11 mJ9_max_7cf53 2 := ⟨⟨Or.inl (big_in (List.mem_of_getElem? (i := 343) (by decide +kernel)) rfl), ckJ9_max_7cf53, ikRJ9, dkJ9_max_7cf53, by decide⟩, skJ9_max_7cf53⟩
theorem lX7_42 : zLs RX7 42 mJ9_min_7cf53 2 := ⟨⟨Or.inl (big_in (List.mem_of_getElem? (i := 508) (by decide +kernel)) rfl), ckJ9_min_7cf53, ikRJ9, dkJ9_min_7cf53, by decide⟩, skJ9_min_7cf53⟩
theorem lX7_57 : zLv RX7 57 mX5_arrange 0 := ⟨⟨Or.inl (big_in (List.mem_of_getElem? (i := 511) (by decide +kernel)) rfl), ckX5_arrange, ikRX5, dkX5_arrange, by decide⟩, nkX5_arrange, vkX5_arrange⟩
theorem lX7_66 : zLv RX7 66 mX5_isIn 3 := ⟨⟨Or.inl (big_in (List.mem_of_getElem? (i := 512) (by decide +kernel)) rfl), ckX5_isIn, ikRX5, dkX5_isIn, by decide⟩, nkX5_isIn, vkX5_isIn⟩
theorem lX7_70 : zLv RX7 70 mX7_growBy 2 := ⟨⟨Or.inl (big_in (List.mem_of_getElem? (i := 513) (by decide +kernel)) rfl), ckX7_growBy, ikRX7, dkX7_growBy, by decide⟩, nkX7_growBy, vkX7_growBy⟩
theorem lX7_74 : zLv RX7 74 mX5_riseOf 1 := ⟨⟨Or.inl (big_in (List.mem_of_getElem? (i := 517) (by decide +kernel)) rfl), ckX5_riseOf, ikRX5, dkX5_riseOf, by decide⟩, nkX5_riseOf, vkX5_riseOf⟩
theorem lX7_81 : zLv RX7 81 mX7_note 3 := ⟨⟨Or.inl (big_in (List.mem_of_getElem? (i := 518) (by decide +kernel)) rfl), ckX7_note, ikRX7, dkX7_note, by decide⟩, nkX7_note, vkX7_note⟩
theorem lX7_85 : zLv RX7 85 mX7_isLonger 2 := ⟨⟨Or.inl (big_in (List.mem_of_getElem? (i := 526) (by decide +kernel)) rfl), ckX7_isLonger, ikRX7, dkX7_isLonger, by decide⟩, nkX7_isLonger, vkX7_isLonger⟩
theorem lX7_89 : zLs RX7 89 mJ6_bitCount_0f7a4 1 := ⟨⟨Or.inl (big_in (List.mem_of_getElem? (i := 530) (by decide +kernel)) rfl), ckJ6_bitCount_0f7a4, ikRJ6, dkJ6_bitCount_0f7a4, by decide⟩, skJ6_bitCount_0f7a4⟩
theorem lX7_94 : zLv RX7 94 mX7_isApart 1 := ⟨⟨Or.inl (big_in (List.mem_of_getElem? (i := 559) (by decide +kernel)) rfl), ckX7_isApart, ikRX7, dkX7_isApart, by decide⟩, nkX7_isApart, vkX7_isApart⟩
theorem lX7_99 : zLv RX7 99 mX7_lengthenInward 1 := ⟨⟨Or.inl (big_in (List.mem_of_getElem? (i := 604) (by decide +kernel)) rfl), ckX7_lengthenInward, ikRX7, dkX7_lengthenInward, by decide⟩, nkX7_lengthenInward, vkX7_lengthenInward⟩
theorem lX7_103 : zLv RX7 103 mX7_lengthenOutward 1 := ⟨⟨Or.inl (big_in (List.mem_of_getElem? (i := 609) (by decide +kernel)) rfl), ckX7_lengthenOutward, ikRX7, dkX7_lengthenOutward, by decide⟩, nkX7_lengthenOutward, vkX7_lengthenOutward⟩
theorem lX7_106 : zLs RX7 106 mJ9_max_7cf53 2 := ⟨⟨Or.inl (big_in (List.mem_of_getElem? (i := 608) (by decide +kernel)) rfl), ckJ9_max_7cf53, ikRJ9, dkJ9_max_7cf53, by decide⟩, skJ9_max_7cf53⟩
theorem lX10_31 : zLv RX10 31 mX10_at 1 := ⟨⟨Or.inl (big_in (List.mem_of_getElem? (i := 255) (by decide +kernel)) rfl), ckX10_at, ikRX10, dkX10_at, by decide⟩, nkX10_at, vkX10_at⟩
theorem lX10_35 : zLv RX10 35 mX10_statementEnd 1 := ⟨⟨Or.inl (big_in (List.mem_of_getElem? (i := 251) (by decide +kernel)) rfl), ckX10_statementEnd, ikRX10, dkX10_statementEnd, by decide⟩, nkX10_statementEnd, vkX10_statementEnd⟩
theorem lX10_38 : zLv RX10 38 mX10_digitEnd 1 := ⟨⟨Or.inl (big_in (List.mem_of_getElem? (i := 259) (by decide +kernel)) rfl), ckX10_digitEnd, ikRX10, dkX10_digitEnd, by decide⟩, nkX10_digitEnd, vkX10_digitEnd⟩
theorem lX10_41 : zLv RX10 41 mX10_numberEnd 1 := ⟨⟨Or.inl (big_in (List.mem_of_getElem? (i := 267) (by decide +kernel)) rfl), ckX10_numberEnd, ikRX10, dkX10_numberEnd, by decide⟩, nkX10_numberEnd, vkX10_numberEnd⟩
theorem lX10_44 : zLv RX10 44 mX10_signEnd 2 := ⟨⟨Or.inl (big_in (List.mem_of_getElem? (i := 271) (by decide +kernel)) rfl), ckX10_signEnd, ikRX10, dkX10_signEnd, by decide⟩, nkX10_signEnd, vkX10_signEnd⟩
theorem lX10_48 : zLv RX10 48 mX10_isDigit 1 := ⟨⟨Or.inl (big_in (List.mem_of_getElem? (i := 263) (by decide +kernel)) rfl), ckX10_isDigit, ikRX10, dkX10_isDigit, by decide⟩, nkX10_isDigit, vkX10_isDigit⟩
theorem lX10_52 : zLv RX10 52 mX10_digitAt 1 := ⟨⟨Or.inl (big_in (List.mem_of_getElem? (i := 303) (by decide +kernel)) rfl), ckX10_digitAt, ikRX10, dkX10_digitAt, by decide⟩, nkX10_digitAt, vkX10_digitAt⟩
theorem lL_7 : zLv RL 7 mX11_element 2 := ⟨⟨Or.inl (big_in (List.mem_of_getElem? (i := 894) (by decide +kernel)) rfl), ckX11_element, ikRX11, dkX11_element, by decide⟩, nkX11_element, vkX11_element⟩
theorem lL_21 : zLv RL 21 mX11_heap 1 := ⟨⟨Or.inl (big_in (List.mem_of_getElem? (i := 229) (by decide +kernel)) rfl), ckX11_heap, ikRX11, dkX11_heap, by decide⟩, nkX11_heap, vkX11_heap⟩
theorem lL_25 : zLv RL 25 mX12_heap 1 := ⟨⟨Or.inl (big_in (List.mem_of_getElem? (i := 973) (by decide +kernel)) rfl), ckX12_heap, ikRX12, dkX12_heap, by decide⟩, nkX12_heap, vkX12_heap⟩
theorem lL_26 : zLv RL 26 mX11_bowl 2 := ⟨⟨Or.inl (big_in (List.mem_of_getElem? (i := 325) (by decide +kernel)) rfl), ckX11_bowl, ikRX11, dkX11_bowl, by decide⟩, nkX11_bowl, vkX11_bowl⟩
theorem lL_30 : zLv RL 30 mX12_bowl 2 := ⟨⟨Or.inl (big_in (List.mem_of_getElem? (i := 1029) (by decide +kernel)) rfl), ckX12_bowl, ikRX12, dkX12_bowl, by decide⟩, nkX12_bowl, vkX12_bowl⟩
theorem lL_31 : zLv RL 31 mX11_comes 4 := ⟨⟨Or.inl (big_in (List.mem_of_getElem? (i := 418) (by decide +kernel)) rfl), ckX11_comes, ikRX11, dkX11_comes, by decide⟩, nkX11_comes, vkX11_comes⟩
theorem lL_35 : zLv RL 35 mX12_comes 4 := ⟨⟨Or.inl (big_in (List.mem_of_getElem? (i := 1057) (by decide +kernel)) rfl), ckX12_comes, ikRX12, dkX12_comes, by decide⟩, nkX12_comes, vkX12_comes⟩
theorem lL_36 : zLv RL 36 mX11_warm 1 := ⟨⟨Or.inl (big_in (List.mem_of_getElem? (i := 430) (by decide +kernel)) rfl), ckX11_warm, ikRX11, dkX11_warm, by decide⟩, nkX11_warm, vkX11_warm⟩
theorem lL_39 : zLv RL 39 mX12_warm 1 := ⟨⟨Or.inl (big_in (List.mem_of_getElem? (i := 1070) (by decide +kernel)) rfl), ckX12_warm, ikRX12, dkX12_warm, by decide⟩, nkX12_warm, vkX12_warm⟩
theorem lL_40 : zLv RL 40 mX11_turn 1 := ⟨⟨Or.inl (big_in (List.mem_of_getElem? (i := 437) (by decide +kernel)) rfl), ckX11_turn, ikRX11, dkX11_turn, by decide⟩, nkX11_turn, vkX11_turn⟩
theorem lL_43 : zLv RL 43 mX12_turn 1 := ⟨⟨Or.inl (big_in (List.mem_of_getElem? (i := 1075) (by decide +kernel)) rfl), ckX12_turn, ikRX12, dkX12_turn, by decide⟩, nkX12_turn, vkX12_turn⟩
theorem lL_44 : zLv RL 44 mX11_lies 2 := ⟨⟨Or.inl (big_in (List.mem_of_getElem? (i := 442) (by decide +kernel)) rfl), ckX11_lies, ikRX11, dkX11_lies, by decide⟩, nkX11_lies, vkX11_lies⟩
theorem lL_47 : zLv RL 47 mX12_lies 2 := ⟨⟨Or.inl (big_in (List.mem_of_getElem? (i := 1079) (by decide +kernel)) rfl), ckX12_lies, ikRX12, dkX12_lies, by decide⟩, nkX12_lies, vkX12_lies⟩
theorem lL_48 : zLv RL 48 mX11_nest 1 := ⟨⟨Or.inl (big_in (List.mem_of_getElem? (i := 474) (by decide +kernel)) rfl), ckX11_nest, ikRX11, dkX11_nest, by decide⟩, nkX11_nest, vkX11_nest⟩
theorem lL_51 : zLv RL 51 mX12_nest 1 := ⟨⟨Or.inl (big_in (List.mem_of_getElem? (i := 1099) (by decide +kernel)) rfl), ckX12_nest, ikRX12, dkX12_nest, by decide⟩, nkX12_nest, vkX12_nest⟩
theorem lL_52 : zLv RL 52 mX11_height 1 := ⟨⟨Or.inl (big_in (List.mem_of_getElem? (i := 496) (by decide +kernel)) rfl), ckX11_height, ikRX11, dkX11_height, by decide⟩, nkX11_height, vkX11_height⟩
theorem lL_55 : zLv RL 55 mX12_height 1 := ⟨⟨Or.inl (big_in (List.mem_of_getElem? (i := 1119) (by decide +kernel)) rfl), ckX12_height, ikRX12, dkX12_height, by decide⟩, nkX12_height, vkX12_height⟩
theorem lL_56 : zLv RL 56 mX11_longest 2 := ⟨⟨Or.inl (big_in (List.mem_of_getElem? (i := 500) (by decide +kernel)) rfl), ckX11_longest, ikRX11, dkX11_longest, by decide⟩, nkX11_longest, vkX11_longest⟩
theorem lL_59 : zLv RL 59 mX12_longest 2 := ⟨⟨Or.inl (big_in (List.mem_of_getElem? (i := 1127) (by decide +kernel)) rfl), ckX12_longest, ikRX12, dkX12_longest, by decide⟩, nkX12_longest, vkX12_longest⟩
theorem lL_60 : zLv RL 60 mX11_fewest 0 := ⟨⟨Or.inl (big_in (List.mem_of_getElem? (i := 537) (by decide +kernel)) rfl), ckX11_fewest, ikRX11, dkX11_fewest, by decide⟩, nkX11_fewest, vkX11_fewest⟩
theorem lL_64 : zLv RL 64 mX12_fewest 0 := ⟨⟨Or.inl (big_in (List.mem_of_getElem? (i := 1138) (by decide +kernel)) rfl), ckX12_fewest, ikRX12, dkX12_fewest, by decide⟩, nkX12_fewest, vkX12_fewest⟩
theorem lL_65 : zLv RL 65 mX11_apart 1 := ⟨⟨Or.inl (big_in (List.mem_of_getElem? (i := 551) (by decide +kernel)) rfl), ckX11_apart, ikRX11, dkX11_apart, by decide⟩, nkX11_apart, vkX11_apart⟩
theorem lL_68 : zLv RL 68 mX12_apart 1 := ⟨⟨Or.inl (big_in (List.mem_of_getElem? (i := 1159) (by decide +kernel)) rfl), ckX12_apart, ikRX12, dkX12_apart, by decide⟩, nkX12_apart, vkX12_apart⟩
theorem lL_69 : zLv RL 69 mX11_carry 0 := ⟨⟨Or.inl (big_in (List.mem_of_getElem? (i := 563) (by decide +kernel)) rfl), ckX11_carry, ikRX11, dkX11_carry, by decide⟩, nkX11_carry, vkX11_carry⟩
theorem lL_72 : zLv RL 72 mX12_carry 0 := ⟨⟨Or.inl (big_in (List.mem_of_getElem? (i := 1151) (by decide +kernel)) rfl), ckX12_carry, ikRX12, dkX12_carry, by decide⟩, nkX12_carry, vkX12_carry⟩
theorem lL_73 : zLv RL 73 mX11_load 1 := ⟨⟨Or.inl (big_in (List.mem_of_getElem? (i := 571) (by decide +kernel)) rfl), ckX11_load, ikRX11, dkX11_load, by decide⟩, nkX11_load, vkX11_load⟩
theorem lL_76 : zLv RL 76 mX12_load 1 := ⟨⟨Or.inl (big_in (List.mem_of_getElem? (i := 1155) (by decide +kernel)) rfl), ckX12_load, ikRX12, dkX12_load, by decide⟩, nkX12_load, vkX12_load⟩
theorem lL_77 : zLv RL 77 mX11_whole 1 := ⟨⟨Or.inl (big_in (List.mem_of_getElem? (i := 575) (by decide +kernel)) rfl), ckX11_whole, ikRX11, dkX11_whole, by decide⟩, nkX11_whole, vkX11_whole⟩
theorem lL_80 : zLv RL 80 mX12_whole 1 := ⟨⟨Or.inl (big_in (List.mem_of_getElem? (i := 1167) (by decide +kernel)) rfl), ckX12_whole, ikRX12, dkX12_whole, by decide⟩, nkX12_whole, vkX12_whole⟩
theorem lL_81 : zLv RL 81 mX11_throwsNew 0 := ⟨⟨Or.inl (big_in (List.mem_of_getElem? (i := 583) (by decide +kernel)) rfl), ckX11_throwsNew, ikRX11, dkX11_throwsNew, by decide⟩, nkX11_throwsNew, vkX11_throwsNew⟩
theorem lL_84 : zLv RL 84 mX12_throwsNew 0 := ⟨⟨Or.inl (big_in (List.mem_of_getElem? (i := 1175) (by decide +kernel)) rfl), ckX12_throwsNew, ikRX12, dkX12_throwsNew, by decide⟩, nkX12_throwsNew, vkX12_throwsNew⟩
theorem lL_85 : zLv RL 85 mX11_helps 2 := ⟨⟨Or.inl (big_in (List.mem_of_getElem? (i := 596) (by decide +kernel)) rfl), ckX11_helps, ikRX11, dkX11_helps, by decide⟩, nkX11_helps, vkX11_helps⟩
theorem lL_88 : zLv RL 88 mX12_helps 2 := ⟨⟨Or.inl (big_in (List.mem_of_getElem? (i := 1183) (by decide +kernel)) rfl), ckX12_helps, ikRX12, dkX12_helps, by decide⟩, nkX12_helps, vkX12_helps⟩
theorem lL_89 : zLv RL 89 mX11_out 2 := ⟨⟨Or.inl (big_in (List.mem_of_getElem? (i := 617) (by decide +kernel)) rfl), ckX11_out, ikRX11, dkX11_out, by decide⟩, nkX11_out, vkX11_out⟩
theorem lL_92 : zLv RL 92 mX12_out 2 := ⟨⟨Or.inl (big_in (List.mem_of_getElem? (i := 1191) (by decide +kernel)) rfl), ckX12_out, ikRX12, dkX12_out, by decide⟩, nkX12_out, vkX12_out⟩
theorem lL_93 : zLv RL 93 mX11_judge 1 := ⟨⟨Or.inl (big_in (List.mem_of_getElem? (i := 626) (by decide +kernel)) rfl), ckX11_judge, ikRX11, dkX11_judge, by decide⟩, nkX11_judge, vkX11_judge⟩
theorem lL_96 : zLv RL 96 mX12_judge 1 := ⟨⟨Or.inl (big_in (List.mem_of_getElem? (i := 1203) (by decide +kernel)) rfl), ckX12_judge, ikRX12, dkX12_judge, by decide⟩, nkX12_judge, vkX12_judge⟩
theorem lL_97 : zLv RL 97 mX11_spans 3 := ⟨⟨Or.inl (big_in (List.mem_of_getElem? (i := 634) (by decide +kernel)) rfl), ckX11_spans, ikRX11, dkX11_spans, by decide⟩, nkX11_spans, vkX11_spans⟩
theorem lL_101 : zLv RL 101 mX12_spans 3 := ⟨⟨Or.inl (big_in (List.mem_of_getElem? (i := 1207) (by decide +kernel)) rfl), ckX12_spans, ikRX12, dkX12_spans, by decide⟩, nkX12_spans, vkX12_spans⟩
theorem lL_102 : zLv RL 102 mX11_next 2 := ⟨⟨Or.inl (big_in (List.mem_of_getElem? (i := 643) (by decide +kernel)) rfl), ckX11_next, ikRX11, dkX11_next, by decide⟩, nkX11_next, vkX11_next⟩
theorem lL_105 : zLv RL 105 mX12_next 2 := ⟨⟨Or.inl (big_in (List.mem_of_getElem? (i := 1218) (by decide +kernel)) rfl), ckX12_next, ikRX12, dkX12_next, by decide⟩, nkX12_next, vkX12_next⟩
theorem lL_106 : zLv RL 106 mX11_from 4 := ⟨⟨Or.inl (big_in (List.mem_of_getElem? (i := 651) (by decide +kernel)) rfl), ckX11_from, ikRX11, dkX11_from, by decide⟩, nkX11_from, vkX11_from⟩
theorem lL_109 : zLv RL 109 mX12_from 4 := ⟨⟨Or.inl (big_in (List.mem_of_getElem? (i := 1226) (by decide +kernel)) rfl), ckX12_from, ikRX12, dkX12_from, by decide⟩, nkX12_from, vkX12_from⟩
theorem lL_110 : zLv RL 110 mX11_breaks 3 := ⟨⟨Or.inl (big_in (List.mem_of_getElem? (i := 655) (by decide +kernel)) rfl), ckX11_breaks, ikRX11, dkX11_breaks, by decide⟩, nkX11_breaks, vkX11_breaks⟩
theorem lL_113 : zLv RL 113 mX12_breaks 3 := ⟨⟨Or.inl (big_in (List.mem_of_getElem? (i := 1230) (by decide +kernel)) rfl), ckX12_breaks, ikRX12, dkX12_breaks, by decide⟩, nkX12_breaks, vkX12_breaks⟩
theorem lL_114 : zLv RL 114 mX11_image 0 := ⟨⟨Or.inl (big_in (List.mem_of_getElem? (i := 666) (by decide +kernel)) rfl), ckX11_image, ikRX11, dkX11_image, by decide⟩, nkX11_image, vkX11_image⟩
theorem lL_117 : zLv RL 117 mX12_image 0 := ⟨⟨Or.inl (big_in (List.mem_of_getElem? (i := 1242) (by decide +kernel)) rfl), ckX12_image, ikRX12, dkX12_image, by decide⟩, nkX12_image, vkX12_image⟩
theorem lL_118 : zLv RL 118 mX11_restore 0 := ⟨⟨Or.inl (big_in (List.mem_of_getElem? (i := 670) (by decide +kernel)) rfl), ckX11_restore, ikRX11, dkX11_restore, by decide⟩, nkX11_restore, vkX11_restore⟩
theorem lL_121 : zLv RL 121 mX12_restore 0 := ⟨⟨Or.inl (big_in (List.mem_of_getElem? (i := 1246) (by decide +kernel)) rfl), ckX12_restore, ikRX12, dkX12_restore, by decide⟩, nkX12_restore, vkX12_restore⟩
theorem lL_122 : zLv RL 122 mX11_count 1 := ⟨⟨Or.inl (big_in (List.mem_of_getElem? (i := 674) (by decide +kernel)) rfl), ckX11_count, ikRX11, dkX11_count, by decide⟩, nkX11_count, vkX11_count⟩
theorem lL_125 : zLv RL 125 mX12_count 1 := ⟨⟨Or.inl (big_in (List.mem_of_getElem? (i := 1250) (by decide +kernel)) rfl), ckX12_count, ikRX12, dkX12_count, by decide⟩, nkX12_count, vkX12_count⟩
theorem lL_126 : zLv RL 126 mX11_keep 4 := ⟨⟨Or.inl (big_in (List.mem_of_getElem? (i := 686) (by decide +kernel)) rfl), ckX11_keep, ikRX11, dkX11_keep, by decide⟩, nkX11_keep, vkX11_keep⟩
theorem lL_129 : zLv RL 129 mX12_keep 4 := ⟨⟨Or.inl (big_in (List.mem_of_getElem? (i := 1254) (by decide +kernel)) rfl), ckX12_keep, ikRX12, dkX12_keep, by decide⟩, nkX12_keep, vkX12_keep⟩
theorem lL_130 : zLv RL 130 mX11_row 3 := ⟨⟨Or.inl (big_in (List.mem_of_getElem? (i := 698) (by decide +kernel)) rfl), ckX11_row, ikRX11, dkX11_row, by decide⟩, nkX11_row, vkX11_row⟩
theorem lL_133 : zLv RL 133 mX12_row 3 := ⟨⟨Or.inl (big_in (List.mem_of_getElem? (i := 1258) (by decide +kernel)) rfl), ckX12_row, ikRX12, dkX12_row, by decide⟩, nkX12_row, vkX12_row⟩
theorem lL_134 : zLv RL 134 mX11_put 3 := ⟨⟨Or.inl (big_in (List.mem_of_getElem? (i := 706) (by decide +kernel)) rfl), ckX11_put, ikRX11, dkX11_put, by decide⟩, nkX11_put, vkX11_put⟩
theorem lL_137 : zLv RL 137 mX12_put 3 := ⟨⟨Or.inl (big_in (List.mem_of_getElem? (i := 1263) (by decide +kernel)) rfl), ckX12_put, ikRX12, dkX12_put, by decide⟩, nkX12_put, vkX12_put⟩
theorem lL_143 : zLv RL 143 mX12_element 2 := ⟨⟨Or.inl (big_in (List.mem_of_getElem? (i := 1267) (by decide +kernel)) rfl), ckX12_element, ikRX12, dkX12_element, by decide⟩, nkX12_element, vkX12_element⟩
theorem lL_144 : zLv RL 144 mX12_thrown 0 := ⟨⟨Or.inl (big_in (List.mem_of_getElem? (i := 969) (by decide +kernel)) rfl), ckX12_thrown, ikRX12, dkX12_thrown, by decide⟩, nkX12_thrown, vkX12_thrown⟩
theorem lL_147 : zLv RL 147 mX11_copy 5 := ⟨⟨Or.inl (big_in (List.mem_of_getElem? (i := 718) (by decide +kernel)) rfl), ckX11_copy, ikRX11, dkX11_copy, by decide⟩, nkX11_copy, vkX11_copy⟩
theorem lL_151 : zLv RL 151 mX12_copy 5 := ⟨⟨Or.inl (big_in (List.mem_of_getElem? (i := 1271) (by decide +kernel)) rfl), ckX12_copy, ikRX12, dkX12_copy, by decide⟩, nkX12_copy, vkX12_copy⟩
theorem lL_152 : zLv RL 152 mX11_price 1 := ⟨⟨Or.inl (big_in (List.mem_of_getElem? (i := 727) (by decide +kernel)) rfl), ckX11_price, ikRX11, dkX11_price, by decide⟩, nkX11_price, vkX11_price⟩
theorem lL_155 : zLv RL 155 mX12_price 1 := ⟨⟨Or.inl (big_in (List.mem_of_getElem? (i := 1275) (by decide +kernel)) rfl), ckX12_price, ikRX12, dkX12_price, by decide⟩, nkX12_price, vkX12_price⟩
theorem lL_159 : zLv RL 159 mX12_toss 1 := ⟨⟨Or.inl (big_in (List.mem_of_getElem? (i := 1282) (by decide +kernel)) rfl), ckX12_toss, ikRX12, dkX12_toss, by decide⟩, nkX12_toss, vkX12_toss⟩
theorem lX12_55 : zLs RX12 55 mX12_isIn 3 := ⟨⟨Or.inl (big_in (List.mem_of_getElem? (i := 985) (by decide +kernel)) rfl), ckX12_isIn, ikRX12, dkX12_isIn, by decide⟩, skX12_isIn⟩
theorem lX12_59 : zLv RX12 59 mX12_everything 0 := ⟨⟨Or.inl (big_in (List.mem_of_getElem? (i := 1107) (by decide +kernel)) rfl), ckX12_everything, ikRX12, dkX12_everything, by decide⟩, nkX12_everything, vkX12_everything⟩
theorem lX12_63 : zLv RX12 63 mX12_get 2 := ⟨⟨Or.inl (big_in (List.mem_of_getElem? (i := 1025) (by decide +kernel)) rfl), ckX12_get, ikRX12, dkX12_get, by decide⟩, nkX12_get, vkX12_get⟩
theorem lX12_67 : zLv RX12 67 mX12_turned 1 := ⟨⟨Or.inl (big_in (List.mem_of_getElem? (i := 1041) (by decide +kernel)) rfl), ckX12_turned, ikRX12, dkX12_turned, by decide⟩, nkX12_turned, vkX12_turned⟩
theorem lX12_71 : zLv RX12 71 mX12_outsideBy 2 := ⟨⟨Or.inl (big_in (List.mem_of_getElem? (i := 1037) (by decide +kernel)) rfl), ckX12_outsideBy, ikRX12, dkX12_outsideBy, by decide⟩, nkX12_outsideBy, vkX12_outsideBy⟩
theorem lX12_74 : zLv RX12 74 mX12_insideBy 3 := ⟨⟨Or.inl (big_in (List.mem_of_getElem? (i := 1049) (by decide +kernel)) rfl), ckX12_insideBy, ikRX12, dkX12_insideBy, by decide⟩, nkX12_insideBy, vkX12_insideBy⟩
theorem lX12_78 : zLv RX12 78 mX12_isOval 1 := ⟨⟨Or.inl (big_in (List.mem_of_getElem? (i := 1095) (by decide +kernel)) rfl), ckX12_isOval, ikRX12, dkX12_isOval, by decide⟩, nkX12_isOval, vkX12_isOval⟩
theorem lX12_82 : zLv RX12 82 mX12_outside 1 := ⟨⟨Or.inl (big_in (List.mem_of_getElem? (i := 1033) (by decide +kernel)) rfl), ckX12_outside, ikRX12, dkX12_outside, by decide⟩, nkX12_outside, vkX12_outside⟩
theorem lX12_85 : zLv RX12 85 mX12_fitsBut 2 := ⟨⟨Or.inl (big_in (List.mem_of_getElem? (i := 1091) (by decide +kernel)) rfl), ckX12_fitsBut, ikRX12, dkX12_fitsBut, by decide⟩, nkX12_fitsBut, vkX12_fitsBut⟩
theorem lX12_89 : zLv RX12 89 mX12_liesAt 3 := ⟨⟨Or.inl (big_in (List.mem_of_getElem? (i := 1087) (by decide +kernel)) rfl), ckX12_liesAt, ikRX12, dkX12_liesAt, by decide⟩, nkX12_liesAt, vkX12_liesAt⟩
theorem lX12_102 : zLv RX12 102 mX12_here 0 := ⟨⟨Or.inl (big_in (List.mem_of_getElem? (i := 992) (by decide +kernel)) rfl), ckX12_here, ikRX12, dkX12_here, by decide⟩, nkX12_here, vkX12_here⟩
theorem lX12_109 : zLv RX12 109 mX12_isDigit 0 := ⟨⟨Or.inl (big_in (List.mem_of_getElem? (i := 1000) (by decide +kernel)) rfl), ckX12_isDigit, ikRX12, dkX12_isDigit, by decide⟩, nkX12_isDigit, vkX12_isDigit⟩
theorem lX12_116 : zLv RX12 116 mX12_readsNumber 1 := ⟨⟨Or.inl (big_in (List.mem_of_getElem? (i := 996) (by decide +kernel)) rfl), ckX12_readsNumber, ikRX12, dkX12_readsNumber, by decide⟩, nkX12_readsNumber, vkX12_readsNumber⟩
theorem lX12_119 : zLv RX12 119 mX12_takes 1 := ⟨⟨Or.inl (big_in (List.mem_of_getElem? (i := 1006) (by decide +kernel)) rfl), ckX12_takes, ikRX12, dkX12_takes, by decide⟩, nkX12_takes, vkX12_takes⟩
theorem lX12_122 : zLv RX12 122 mX12_puts 3 := ⟨⟨Or.inl (big_in (List.mem_of_getElem? (i := 1017) (by decide +kernel)) rfl), ckX12_puts, ikRX12, dkX12_puts, by decide⟩, nkX12_puts, vkX12_puts⟩
theorem lX12_126 : zLv RX12 126 mX12_isBowl 1 := ⟨⟨Or.inl (big_in (List.mem_of_getElem? (i := 1021) (by decide +kernel)) rfl), ckX12_isBowl, ikRX12, dkX12_isBowl, by decide⟩, nkX12_isBowl, vkX12_isBowl⟩
theorem lX12_129 : zLs RX12 129 mX12_isShelf 1 := ⟨⟨Or.inl (big_in (List.mem_of_getElem? (i := 981) (by decide +kernel)) rfl), ckX12_isShelf, ikRX12, dkX12_isShelf, by decide⟩, skX12_isShelf⟩
theorem lX12_132 : zLv RX12 132 mX12_wrongRow 2 := ⟨⟨Or.inl (big_in (List.mem_of_getElem? (i := 977) (by decide +kernel)) rfl), ckX12_wrongRow, ikRX12, dkX12_wrongRow, by decide⟩, nkX12_wrongRow, vkX12_wrongRow⟩
theorem lX12_135 : zLv RX12 135 mX12_readsStatement 0 := ⟨⟨Or.inl (big_in (List.mem_of_getElem? (i := 988) (by decide +kernel)) rfl), ckX12_readsStatement, ikRX12, dkX12_readsStatement, by decide⟩, nkX12_readsStatement, vkX12_readsStatement⟩
theorem lX12_138 : zLs RX12 138 mX12_lays 2 := ⟨⟨Or.inl (big_in (List.mem_of_getElem? (i := 1010) (by decide +kernel)) rfl), ckX12_lays, ikRX12, dkX12_lays, by decide⟩, skX12_lays⟩
theorem lX12_142 : zLv RX12 142 mX12_comesTold 1 := ⟨⟨Or.inl (big_in (List.mem_of_getElem? (i := 1013) (by decide +kernel)) rfl), ckX12_comesTold, ikRX12, dkX12_comesTold, by decide⟩, nkX12_comesTold, vkX12_comesTold⟩
theorem lX12_145 : zLv RX12 145 mX12_inside 1 := ⟨⟨Or.inl (big_in (List.mem_of_getElem? (i := 1045) (by decide +kernel)) rfl), ckX12_inside, ikRX12, dkX12_inside, by decide⟩, nkX12_inside, vkX12_inside⟩
theorem lX12_148 : zLv RX12 148 mX12_rise 1 := ⟨⟨Or.inl (big_in (List.mem_of_getElem? (i := 1053) (by decide +kernel)) rfl), ckX12_rise, ikRX12, dkX12_rise, by decide⟩, nkX12_rise, vkX12_rise⟩
theorem lX12_153 : zLv RX12 153 mX12_wrongKept 1 := ⟨⟨Or.inl (big_in (List.mem_of_getElem? (i := 1062) (by decide +kernel)) rfl), ckX12_wrongKept, ikRX12, dkX12_wrongKept, by decide⟩, nkX12_wrongKept, vkX12_wrongKept⟩
theorem lX12_156 : zLv RX12 156 mX12_adds 5 := ⟨⟨Or.inl (big_in (List.mem_of_getElem? (i := 1066) (by decide +kernel)) rfl), ckX12_adds, ikRX12, dkX12_adds, by decide⟩, nkX12_adds, vkX12_adds⟩
theorem lX12_162 : zLv RX12 162 mX12_liesNow 2 := ⟨⟨Or.inl (big_in (List.mem_of_getElem? (i := 1083) (by decide +kernel)) rfl), ckX12_liesNow, ikRX12, dkX12_liesNow, by decide⟩, nkX12_liesNow, vkX12_liesNow⟩
theorem lX12_165 : zLv RX12 165 mX12_outermost 1 := ⟨⟨Or.inl (big_in (List.mem_of_getElem? (i := 1115) (by decide +kernel)) rfl), ckX12_outermost, ikRX12, dkX12_outermost, by decide⟩, nkX12_outermost, vkX12_outermost⟩
theorem lX12_168 : zLv RX12 168 mX12_areBowls 1 := ⟨⟨Or.inl (big_in (List.mem_of_getElem? (i := 1103) (by decide +kernel)) rfl), ckX12_areBowls, ikRX12, dkX12_areBowls, by decide⟩, nkX12_areBowls, vkX12_areBowls⟩
theorem lX12_171 : zLv RX12 171 mX12_isNest 1 := ⟨⟨Or.inl (big_in (List.mem_of_getElem? (i := 1111) (by decide +kernel)) rfl), ckX12_isNest, ikRX12, dkX12_isNest, by decide⟩, nkX12_isNest, vkX12_isNest⟩
theorem lX12_174 : zLv RX12 174 mX12_heightOf 1 := ⟨⟨Or.inl (big_in (List.mem_of_getElem? (i := 1123) (by decide +kernel)) rfl), ckX12_heightOf, ikRX12, dkX12_heightOf, by decide⟩, nkX12_heightOf, vkX12_heightOf⟩
theorem lX12_177 : zLs RX12 177 mX12_bits 1 := ⟨⟨Or.inl (big_in (List.mem_of_getElem? (i := 1135) (by decide +kernel)) rfl), ckX12_bits, ikRX12, dkX12_bits, by decide⟩, skX12_bits⟩
theorem lX12_180 : zLv RX12 180 mX12_longestOf 1 := ⟨⟨Or.inl (big_in (List.mem_of_getElem? (i := 1131) (by decide +kernel)) rfl), ckX12_longestOf, ikRX12, dkX12_longestOf, by decide⟩, nkX12_longestOf, vkX12_longestOf⟩
theorem lX12_184 : zLv RX12 184 mX12_counted 3 := ⟨⟨Or.inl (big_in (List.mem_of_getElem? (i := 1146) (by decide +kernel)) rfl), ckX12_counted, ikRX12, dkX12_counted, by decide⟩, nkX12_counted, vkX12_counted⟩
theorem lX12_187 : zLv RX12 187 mX12_leastOf 2 := ⟨⟨Or.inl (big_in (List.mem_of_getElem? (i := 1142) (by decide +kernel)) rfl), ckX12_leastOf, ikRX12, dkX12_leastOf, by decide⟩, nkX12_leastOf, vkX12_leastOf⟩
theorem lX12_190 : zLv RX12 190 mX12_areApart 1 := ⟨⟨Or.inl (big_in (List.mem_of_getElem? (i := 1163) (by decide +kernel)) rfl), ckX12_areApart, ikRX12, dkX12_areApart, by decide⟩, nkX12_areApart, vkX12_areApart⟩
theorem lX12_193 : zLv RX12 193 mX12_wholeOf 2 := ⟨⟨Or.inl (big_in (List.mem_of_getElem? (i := 1171) (by decide +kernel)) rfl), ckX12_wholeOf, ikRX12, dkX12_wholeOf, by decide⟩, nkX12_wholeOf, vkX12_wholeOf⟩
theorem lX12_196 : zLv RX12 196 mX12_canBeBetween 2 := ⟨⟨Or.inl (big_in (List.mem_of_getElem? (i := 1179) (by decide +kernel)) rfl), ckX12_canBeBetween, ikRX12, dkX12_canBeBetween, by decide⟩, nkX12_canBeBetween, vkX12_canBeBetween⟩
theorem lX12_199 : zLv RX12 199 mX12_longestRow 1 := ⟨⟨Or.inl (big_in (List.mem_of_getElem? (i := 1187) (by decide +kernel)) rfl), ckX12_longestRow, ikRX12, dkX12_longestRow, by decide⟩, nkX12_longestRow, vkX12_longestRow⟩
theorem lX12_202 : zLv RX12 202 mX12_wrongAt 1 := ⟨⟨Or.inl (big_in (List.mem_of_getElem? (i := 1199) (by decide +kernel)) rfl), ckX12_wrongAt, ikRX12, dkX12_wrongAt, by decide⟩, nkX12_wrongAt, vkX12_wrongAt⟩
theorem lX12_205 : zLv RX12 205 mX12_wrongOut 1 := ⟨⟨Or.inl (big_in (List.mem_of_getElem? (i := 1195) (by decide +kernel)) rfl), ckX12_wrongOut, ikRX12, dkX12_wrongOut, by decide⟩, nkX12_wrongOut, vkX12_wrongOut⟩
theorem lX12_208 : zLs RX12 208 mX12_narrow 2 := ⟨⟨Or.inl (big_in (List.mem_of_getElem? (i := 1215) (by decide +kernel)) rfl), ckX12_narrow, ikRX12, dkX12_narrow, by decide⟩, skX12_narrow⟩
theorem lX12_211 : zLv RX12 211 mX12_spanOf 4 := ⟨⟨Or.inl (big_in (List.mem_of_getElem? (i := 1211) (by decide +kernel)) rfl), ckX12_spanOf, ikRX12, dkX12_spanOf, by decide⟩, nkX12_spanOf, vkX12_spanOf⟩
theorem lX12_215 : zLv RX12 215 mX12_perhaps 2 := ⟨⟨Or.inl (big_in (List.mem_of_getElem? (i := 1222) (by decide +kernel)) rfl), ckX12_perhaps, ikRX12, dkX12_perhaps, by decide⟩, nkX12_perhaps, vkX12_perhaps⟩
theorem lX12_226 : zLv RX12 226 mX12_drawn 1 := ⟨⟨Or.inl (big_in (List.mem_of_getElem? (i := 1235) (by decide +kernel)) rfl), ckX12_drawn, ikRX12, dkX12_drawn, by decide⟩, nkX12_drawn, vkX12_drawn⟩
theorem lX12_235 : zLs RX12 235 mX12_priceBy 2 := ⟨⟨Or.inl (big_in (List.mem_of_getElem? (i := 1279) (by decide +kernel)) rfl), ckX12_priceBy, ikRX12, dkX12_priceBy, by decide⟩, skX12_priceBy⟩
theorem lX11_288_Oval : zLu RX11 288 yX0_cost RX8 mX8_cost 1 := ⟨big_in (List.mem_of_getElem? (i := 731) (by decide +kernel)) rfl, big_in (List.mem_of_getElem? (i := 734) (by decide +kernel)) rfl, nkX0_cost, ⟨_, _, _, ckX0_cost⟩, big_in (List.mem_of_getElem? (i := 755) (by decide +kernel)) rfl, nkX8_cost, ikRX8, ckX8_cost, ⟨dkX0_cost.1, dkX0_cost.2.1⟩, dkX0_cost.2.2, by decide⟩
theorem lX11_288_Lid : zLu RX11 288 yX0_cost RX6 mX6_cost 1 := ⟨big_in (List.mem_of_getElem? (i := 731) (by decide +kernel)) rfl, big_in (List.mem_of_getElem? (i := 734) (by decide +kernel)) rfl, nkX0_cost, ⟨_, _, _, ckX0_cost⟩, big_in (List.mem_of_getElem? (i := 754) (by decide +kernel)) rfl, nkX6_cost, ikRX6, ckX6_cost, ⟨dkX0_cost.1, dkX0_cost.2.1⟩, dkX0_cost.2.2, by decide⟩
theorem lX11_288_Foot : zLu RX11 288 yX0_cost RX3 mX3_cost 1 := ⟨big_in (List.mem_of_getElem? (i := 731) (by decide +kernel)) rfl, big_in (List.mem_of_getElem? (i := 734) (by decide +kernel)) rfl, nkX0_cost, ⟨_, _, _, ckX0_cost⟩, big_in (List.mem_of_getElem? (i := 749) (by decide +kernel)) rfl, nkX3_cost, ikRX3, ckX3_cost, ⟨dkX0_cost.1, dkX0_cost.2.1⟩, dkX0_cost.2.2, by decide⟩
theorem lX11_288_Second : zLu RX11 288 yX0_cost RX9 mX9_cost 1 := ⟨big_in (List.mem_of_getElem? (i := 731) (by decide +kernel)) rfl, big_in (List.mem_of_getElem? (i := 734) (by decide +kernel)) rfl, nkX0_cost, ⟨_, _, _, ckX0_cost⟩, big_in (List.mem_of_getElem? (i := 759) (by decide +kernel)) rfl, nkX9_cost, ikRX9, ckX9_cost, ⟨dkX0_cost.1, dkX0_cost.2.1⟩, dkX0_cost.2.2, by decide⟩
theorem lX11_288_Glued : zLu RX11 288 yX0_cost RX4 mX4_cost 1 := ⟨big_in (List.mem_of_getElem? (i := 731) (by decide +kernel)) rfl, big_in (List.mem_of_getElem? (i := 734) (by decide +kernel)) rfl, nkX0_cost, ⟨_, _, _, ckX0_cost⟩, big_in (List.mem_of_getElem? (i := 750) (by decide +kernel)) rfl, nkX4_cost, ikRX4, ckX4_cost, ⟨dkX0_cost.1, dkX0_cost.2.1⟩, dkX0_cost.2.2, by decide⟩
theorem lX11_288_Deep : zLu RX11 288 yX0_cost RX1 mX1_cost 1 := ⟨big_in (List.mem_of_getElem? (i := 731) (by decide +kernel)) rfl, big_in (List.mem_of_getElem? (i := 734) (by decide +kernel)) rfl, nkX0_cost, ⟨_, _, _, ckX0_cost⟩, big_in (List.mem_of_getElem? (i := 735) (by decide +kernel)) rfl, nkX1_cost, ikRX1, ckX1_cost, ⟨dkX0_cost.1, dkX0_cost.2.1⟩, dkX0_cost.2.2, by decide⟩
theorem lX11_288_Flat : zLu RX11 288 yX0_cost RX2 mX2_cost 1 := ⟨big_in (List.mem_of_getElem? (i := 731) (by decide +kernel)) rfl, big_in (List.mem_of_getElem? (i := 734) (by decide +kernel)) rfl, nkX0_cost, ⟨_, _, _, ckX0_cost⟩, big_in (List.mem_of_getElem? (i := 742) (by decide +kernel)) rfl, nkX2_cost, ikRX2, ckX2_cost, ⟨dkX0_cost.1, dkX0_cost.2.1⟩, dkX0_cost.2.2, by decide⟩
theorem lX11_288_Bowl : zLu RX11 288 yX0_cost RX0 mX0_cost 1 := ⟨big_in (List.mem_of_getElem? (i := 731) (by decide +kernel)) rfl, big_in (List.mem_of_getElem? (i := 734) (by decide +kernel)) rfl, nkX0_cost, ⟨_, _, _, ckX0_cost⟩, big_in (List.mem_of_getElem? (i := 733) (by decide +kernel)) rfl, nkX0_cost, ikRX0, ckX0_cost, ⟨dkX0_cost.1, dkX0_cost.2.1⟩, dkX0_cost.2.2, by decide⟩
theorem lX11_291_Oval : zLu RX11 291 yX0_fail RX8 mX0_fail 1 := ⟨big_in (List.mem_of_getElem? (i := 771) (by decide +kernel)) rfl, big_in (List.mem_of_getElem? (i := 774) (by decide +kernel)) rfl, nkX0_fail, ⟨_, _, _, ckX0_fail⟩, big_in (List.mem_of_getElem? (i := 868) (by decide +kernel)) rfl, nkX0_fail, ikRX0, ckX0_fail, ⟨dkX0_fail.1, dkX0_fail.2.1⟩, dkX0_fail.2.2, by decide⟩
theorem lX11_291_Lid : zLu RX11 291 yX0_fail RX6 mX0_fail 1 := ⟨big_in (List.mem_of_getElem? (i := 771) (by decide +kernel)) rfl, big_in (List.mem_of_getElem? (i := 774) (by decide +kernel)) rfl, nkX0_fail, ⟨_, _, _, ckX0_fail⟩, big_in (List.mem_of_getElem? (i := 867) (by decide +kernel)) rfl, nkX0_fail, ikRX0, ckX0_fail, ⟨dkX0_fail.1, dkX0_fail.2.1⟩, dkX0_fail.2.2, by decide⟩
theorem lX11_291_Foot : zLu RX11 291 yX0_fail RX3 mX0_fail 1 := ⟨big_in (List.mem_of_getElem? (i := 771) (by decide +kernel)) rfl, big_in (List.mem_of_getElem? (i := 774) (by decide +kernel)) rfl, nkX0_fail, ⟨_, _, _, ckX0_fail⟩, big_in (List.mem_of_getElem? (i := 847) (by decide +kernel)) rfl, nkX0_fail, ikRX0, ckX0_fail, ⟨dkX0_fail.1, dkX0_fail.2.1⟩, dkX0_fail.2.2, by decide⟩
theorem lX11_291_Second : zLu RX11 291 yX0_fail RX9 mX9_fail 1 := ⟨big_in (List.mem_of_getElem? (i := 771) (by decide +kernel)) rfl, big_in (List.mem_of_getElem? (i := 774) (by decide +kernel)) rfl, nkX0_fail, ⟨_, _, _, ckX0_fail⟩, big_in (List.mem_of_getElem? (i := 869) (by decide +kernel)) rfl, nkX9_fail, ikRX9, ckX9_fail, ⟨dkX0_fail.1, dkX0_fail.2.1⟩, dkX0_fail.2.2, by decide⟩
theorem lX11_291_Glued : zLu RX11 291 yX0_fail RX4 mX4_fail 1 := ⟨big_in (List.mem_of_getElem? (i := 771) (by decide +kernel)) rfl, big_in (List.mem_of_getElem? (i := 774) (by decide +kernel)) rfl, nkX0_fail, ⟨_, _, _, ckX0_fail⟩, big_in (List.mem_of_getElem? (i := 848) (by decide +kernel)) rfl, nkX4_fail, ikRX4, ckX4_fail, ⟨dkX0_fail.1, dkX0_fail.2.1⟩, dkX0_fail.2.2, by decide⟩
theorem lX11_291_Deep : zLu RX11 291 yX0_fail RX1 mX0_fail 1 := ⟨big_in (List.mem_of_getElem? (i := 771) (by decide +kernel)) rfl, big_in (List.mem_of_getElem? (i := 774) (by decide +kernel)) rfl, nkX0_fail, ⟨_, _, _, ckX0_fail⟩, big_in (List.mem_of_getElem? (i := 775) (by decide +kernel)) rfl, nkX0_fail, ikRX0, ckX0_fail, ⟨dkX0_fail.1, dkX0_fail.2.1⟩, dkX0_fail.2.2, by decide⟩
theorem lX11_291_Flat : zLu RX11 291 yX0_fail RX2 mX2_fail 1 := ⟨big_in (List.mem_of_getElem? (i := 771) (by decide +kernel)) rfl, big_in (List.mem_of_getElem? (i := 774) (by decide +kernel)) rfl, nkX0_fail, ⟨_, _, _, ckX0_fail⟩, big_in (List.mem_of_getElem? (i := 776) (by decide +kernel)) rfl, nkX2_fail, ikRX2, ckX2_fail, ⟨dkX0_fail.1, dkX0_fail.2.1⟩, dkX0_fail.2.2, by decide⟩
theorem lX11_291_Bowl : zLu RX11 291 yX0_fail RX0 mX0_fail 1 := ⟨big_in (List.mem_of_getElem? (i := 771) (by decide +kernel)) rfl, big_in (List.mem_of_getElem? (i := 774) (by decide +kernel)) rfl, nkX0_fail, ⟨_, _, _, ckX0_fail⟩, big_in (List.mem_of_getElem? (i := 773) (by decide +kernel)) rfl, nkX0_fail, ikRX0, ckX0_fail, ⟨dkX0_fail.1, dkX0_fail.2.1⟩, dkX0_fail.2.2, by decide⟩
theorem lX1_7 : zLp RX1 7 ⟨RX3, "rise", "(I)I"⟩ mX3_rise 1 := ⟨big_in (List.mem_of_getElem? (i := 401) (by decide +kernel)) rfl, big_in (List.mem_of_getElem? (i := 1289) (by decide +kernel)) rfl, big_in (List.mem_of_getElem? (i := 80) (by decide +kernel)) rfl, Or.inl rfl, rfl, rfl, nkX3_rise, ikRX3, ckX3_rise, by decide, dkX3_rise.2.2, by decide⟩
theorem lX1_11 : zLp RX1 11 ⟨RX3, "cost", "(I)I"⟩ mX3_cost 1 := ⟨big_in (List.mem_of_getElem? (i := 738) (by decide +kernel)) rfl, big_in (List.mem_of_getElem? (i := 1291) (by decide +kernel)) rfl, big_in (List.mem_of_getElem? (i := 80) (by decide +kernel)) rfl, Or.inl rfl, rfl, rfl, nkX3_cost, ikRX3, ckX3_cost, by decide, dkX3_cost.2.2, by decide⟩
theorem lX2_7 : zLp RX2 7 ⟨RX6, "rise", "(I)I"⟩ mX6_rise 1 := ⟨big_in (List.mem_of_getElem? (i := 408) (by decide +kernel)) rfl, big_in (List.mem_of_getElem? (i := 1290) (by decide +kernel)) rfl, big_in (List.mem_of_getElem? (i := 87) (by decide +kernel)) rfl, Or.inl rfl, rfl, rfl, nkX6_rise, ikRX6, ckX6_rise, by decide, dkX6_rise.2.2, by decide⟩
theorem lX2_11 : zLp RX2 11 ⟨RX6, "cost", "(I)I"⟩ mX6_cost 1 := ⟨big_in (List.mem_of_getElem? (i := 745) (by decide +kernel)) rfl, big_in (List.mem_of_getElem? (i := 1292) (by decide +kernel)) rfl, big_in (List.mem_of_getElem? (i := 87) (by decide +kernel)) rfl, Or.inl rfl, rfl, rfl, nkX6_cost, ikRX6, ckX6_cost, by decide, dkX6_cost.2.2, by decide⟩
theorem lX3_7 : zLp RX3 7 ⟨RX0, "inside", "(IIII)I"⟩ mX0_inside 4 := ⟨big_in (List.mem_of_getElem? (i := 374) (by decide +kernel)) rfl, big_in (List.mem_of_getElem? (i := 370) (by decide +kernel)) rfl, big_in (List.mem_of_getElem? (i := 59) (by decide +kernel)) rfl, Or.inl rfl, rfl, rfl, nkX0_inside, ikRX0, ckX0_inside, by decide, dkX0_inside.2.2, by decide⟩
theorem lX3_11 : zLp RX3 11 ⟨RX0, "rise", "(I)I"⟩ mX0_rise 1 := ⟨big_in (List.mem_of_getElem? (i := 404) (by decide +kernel)) rfl, big_in (List.mem_of_getElem? (i := 397) (by decide +kernel)) rfl, big_in (List.mem_of_getElem? (i := 59) (by decide +kernel)) rfl, Or.inl rfl, rfl, rfl, nkX0_rise, ikRX0, ckX0_rise, by decide, dkX0_rise.2.2, by decide⟩
theorem lX3_15 : zLp RX3 15 ⟨RX0, "cost", "(I)I"⟩ mX0_cost 1 := ⟨big_in (List.mem_of_getElem? (i := 741) (by decide +kernel)) rfl, big_in (List.mem_of_getElem? (i := 734) (by decide +kernel)) rfl, big_in (List.mem_of_getElem? (i := 59) (by decide +kernel)) rfl, Or.inl rfl, rfl, rfl, nkX0_cost, ikRX0, ckX0_cost, by decide, dkX0_cost.2.2, by decide⟩
theorem lX4_7 : zLp RX4 7 ⟨RX3, "outside", "(III)I"⟩ mX0_outside 3 := ⟨big_in (List.mem_of_getElem? (i := 350) (by decide +kernel)) rfl, big_in (List.mem_of_getElem? (i := 351) (by decide +kernel)) rfl, big_in (List.mem_of_getElem? (i := 73) (by decide +kernel)) rfl, Or.inr (big_in (List.mem_of_getElem? (i := 59) (by decide +kernel)) rfl), rfl, rfl, nkX0_outside, ikRX0, ckX0_outside, by decide, dkX0_outside.2.2, by decide⟩
theorem lX4_11 : zLp RX4 11 ⟨RX3, "inside", "(IIII)I"⟩ mX3_inside 4 := ⟨big_in (List.mem_of_getElem? (i := 382) (by decide +kernel)) rfl, big_in (List.mem_of_getElem? (i := 1288) (by decide +kernel)) rfl, big_in (List.mem_of_getElem? (i := 73) (by decide +kernel)) rfl, Or.inl rfl, rfl, rfl, nkX3_inside, ikRX3, ckX3_inside, by decide, dkX3_inside.2.2, by decide⟩
theorem lX4_15 : zLp RX4 15 ⟨RX3, "cost", "(I)I"⟩ mX3_cost 1 := ⟨big_in (List.mem_of_getElem? (i := 753) (by decide +kernel)) rfl, big_in (List.mem_of_getElem? (i := 1291) (by decide +kernel)) rfl, big_in (List.mem_of_getElem? (i := 73) (by decide +kernel)) rfl, Or.inl rfl, rfl, rfl, nkX3_cost, ikRX3, ckX3_cost, by decide, dkX3_cost.2.2, by decide⟩
theorem lX5_82_Oval : zLu RX5 82 yX0_outside RX8 mX8_outside 3 := ⟨big_in (List.mem_of_getElem? (i := 334) (by decide +kernel)) rfl, big_in (List.mem_of_getElem? (i := 337) (by decide +kernel)) rfl, nkX0_outside, ⟨_, _, _, ckX0_outside⟩, big_in (List.mem_of_getElem? (i := 354) (by decide +kernel)) rfl, nkX8_outside, ikRX8, ckX8_outside, ⟨dkX0_outside.1, dkX0_outside.2.1⟩, dkX0_outside.2.2, by decide⟩
theorem lX5_82_Lid : zLu RX5 82 yX0_outside RX6 mX6_outside 3 := ⟨big_in (List.mem_of_getElem? (i := 334) (by decide +kernel)) rfl, big_in (List.mem_of_getElem? (i := 337) (by decide +kernel)) rfl, nkX0_outside, ⟨_, _, _, ckX0_outside⟩, big_in (List.mem_of_getElem? (i := 353) (by decide +kernel)) rfl, nkX6_outside, ikRX6, ckX6_outside, ⟨dkX0_outside.1, dkX0_outside.2.1⟩, dkX0_outside.2.2, by decide⟩
theorem lX5_82_Foot : zLu RX5 82 yX0_outside RX3 mX0_outside 3 := ⟨big_in (List.mem_of_getElem? (i := 334) (by decide +kernel)) rfl, big_in (List.mem_of_getElem? (i := 337) (by decide +kernel)) rfl, nkX0_outside, ⟨_, _, _, ckX0_outside⟩, big_in (List.mem_of_getElem? (i := 346) (by decide +kernel)) rfl, nkX0_outside, ikRX0, ckX0_outside, ⟨dkX0_outside.1, dkX0_outside.2.1⟩, dkX0_outside.2.2, by decide⟩
theorem lX5_82_Second : zLu RX5 82 yX0_outside RX9 mX9_outside 3 := ⟨big_in (List.mem_of_getElem? (i := 334) (by decide +kernel)) rfl, big_in (List.mem_of_getElem? (i := 337) (by decide +kernel)) rfl, nkX0_outside, ⟨_, _, _, ckX0_outside⟩, big_in (List.mem_of_getElem? (i := 358) (by decide +kernel)) rfl, nkX9_outside, ikRX9, ckX9_outside, ⟨dkX0_outside.1, dkX0_outside.2.1⟩, dkX0_outside.2.2, by decide⟩
theorem lX5_82_Glued : zLu RX5 82 yX0_outside RX4 mX4_outside 3 := ⟨big_in (List.mem_of_getElem? (i := 334) (by decide +kernel)) rfl, big_in (List.mem_of_getElem? (i := 337) (by decide +kernel)) rfl, nkX0_outside, ⟨_, _, _, ckX0_outside⟩, big_in (List.mem_of_getElem? (i := 347) (by decide +kernel)) rfl, nkX4_outside, ikRX4, ckX4_outside, ⟨dkX0_outside.1, dkX0_outside.2.1⟩, dkX0_outside.2.2, by decide⟩
theorem lX5_82_Deep : zLu RX5 82 yX0_outside RX1 mX0_outside 3 := ⟨big_in (List.mem_of_getElem? (i := 334) (by decide +kernel)) rfl, big_in (List.mem_of_getElem? (i := 337) (by decide +kernel)) rfl, nkX0_outside, ⟨_, _, _, ckX0_outside⟩, big_in (List.mem_of_getElem? (i := 338) (by decide +kernel)) rfl, nkX0_outside, ikRX0, ckX0_outside, ⟨dkX0_outside.1, dkX0_outside.2.1⟩, dkX0_outside.2.2, by decide⟩
theorem lX5_82_Flat : zLu RX5 82 yX0_outside RX2 mX6_outside 3 := ⟨big_in (List.mem_of_getElem? (i := 334) (by decide +kernel)) rfl, big_in (List.mem_of_getElem? (i := 337) (by decide +kernel)) rfl, nkX0_outside, ⟨_, _, _, ckX0_outside⟩, big_in (List.mem_of_getElem? (i := 339) (by decide +kernel)) rfl, nkX6_outside, ikRX6, ckX6_outside, ⟨dkX0_outside.1, dkX0_outside.2.1⟩, dkX0_outside.2.2, by decide⟩
theorem lX5_82_Bowl : zLu RX5 82 yX0_outside RX0 mX0_outside 3 := ⟨big_in (List.mem_of_getElem? (i := 334) (by decide +kernel)) rfl, big_in (List.mem_of_getElem? (i := 337) (by decide +kernel)) rfl, nkX0_outside, ⟨_, _, _, ckX0_outside⟩, big_in (List.mem_of_getElem? (i := 336) (by decide +kernel)) rfl, nkX0_outside, ikRX0, ckX0_outside, ⟨dkX0_outside.1, dkX0_outside.2.1⟩, dkX0_outside.2.2, by decide⟩
theorem lX5_88_Oval : zLu RX5 88 yX0_inside RX8 mX8_inside 4 := ⟨big_in (List.mem_of_getElem? (i := 367) (by decide +kernel)) rfl, big_in (List.mem_of_getElem? (i := 370) (by decide +kernel)) rfl, nkX0_inside, ⟨_, _, _, ckX0_inside⟩, big_in (List.mem_of_getElem? (i := 384) (by decide +kernel)) rfl, nkX8_inside, ikRX8, ckX8_inside, ⟨dkX0_inside.1, dkX0_inside.2.1⟩, dkX0_inside.2.2, by decide⟩
theorem lX5_88_Lid : zLu RX5 88 yX0_inside RX6 mX6_inside 4 := ⟨big_in (List.mem_of_getElem? (i := 367) (by decide +kernel)) rfl, big_in (List.mem_of_getElem? (i := 370) (by decide +kernel)) rfl, nkX0_inside, ⟨_, _, _, ckX0_inside⟩, big_in (List.mem_of_getElem? (i := 383) (by decide +kernel)) rfl, nkX6_inside, ikRX6, ckX6_inside, ⟨dkX0_inside.1, dkX0_inside.2.1⟩, dkX0_inside.2.2, by decide⟩
theorem lX5_88_Foot : zLu RX5 88 yX0_inside RX3 mX3_inside 4 := ⟨big_in (List.mem_of_getElem? (i := 367) (by decide +kernel)) rfl, big_in (List.mem_of_getElem? (i := 370) (by decide +kernel)) rfl, nkX0_inside, ⟨_, _, _, ckX0_inside⟩, big_in (List.mem_of_getElem? (i := 378) (by decide +kernel)) rfl, nkX3_inside, ikRX3, ckX3_inside, ⟨dkX0_inside.1, dkX0_inside.2.1⟩, dkX0_inside.2.2, by decide⟩
theorem lX5_88_Second : zLu RX5 88 yX0_inside RX9 mX8_inside 4 := ⟨big_in (List.mem_of_getElem? (i := 367) (by decide +kernel)) rfl, big_in (List.mem_of_getElem? (i := 370) (by decide +kernel)) rfl, nkX0_inside, ⟨_, _, _, ckX0_inside⟩, big_in (List.mem_of_getElem? (i := 388) (by decide +kernel)) rfl, nkX8_inside, ikRX8, ckX8_inside, ⟨dkX0_inside.1, dkX0_inside.2.1⟩, dkX0_inside.2.2, by decide⟩
theorem lX5_88_Glued : zLu RX5 88 yX0_inside RX4 mX4_inside 4 := ⟨big_in (List.mem_of_getElem? (i := 367) (by decide +kernel)) rfl, big_in (List.mem_of_getElem? (i := 370) (by decide +kernel)) rfl, nkX0_inside, ⟨_, _, _, ckX0_inside⟩, big_in (List.mem_of_getElem? (i := 379) (by decide +kernel)) rfl, nkX4_inside, ikRX4, ckX4_inside, ⟨dkX0_inside.1, dkX0_inside.2.1⟩, dkX0_inside.2.2, by decide⟩
theorem lX5_88_Deep : zLu RX5 88 yX0_inside RX1 mX3_inside 4 := ⟨big_in (List.mem_of_getElem? (i := 367) (by decide +kernel)) rfl, big_in (List.mem_of_getElem? (i := 370) (by decide +kernel)) rfl, nkX0_inside, ⟨_, _, _, ckX0_inside⟩, big_in (List.mem_of_getElem? (i := 371) (by decide +kernel)) rfl, nkX3_inside, ikRX3, ckX3_inside, ⟨dkX0_inside.1, dkX0_inside.2.1⟩, dkX0_inside.2.2, by decide⟩
theorem lX5_88_Flat : zLu RX5 88 yX0_inside RX2 mX6_inside 4 := ⟨big_in (List.mem_of_getElem? (i := 367) (by decide +kernel)) rfl, big_in (List.mem_of_getElem? (i := 370) (by decide +kernel)) rfl, nkX0_inside, ⟨_, _, _, ckX0_inside⟩, big_in (List.mem_of_getElem? (i := 375) (by decide +kernel)) rfl, nkX6_inside, ikRX6, ckX6_inside, ⟨dkX0_inside.1, dkX0_inside.2.1⟩, dkX0_inside.2.2, by decide⟩
theorem lX5_88_Bowl : zLu RX5 88 yX0_inside RX0 mX0_inside 4 := ⟨big_in (List.mem_of_getElem? (i := 367) (by decide +kernel)) rfl, big_in (List.mem_of_getElem? (i := 370) (by decide +kernel)) rfl, nkX0_inside, ⟨_, _, _, ckX0_inside⟩, big_in (List.mem_of_getElem? (i := 369) (by decide +kernel)) rfl, nkX0_inside, ikRX0, ckX0_inside, ⟨dkX0_inside.1, dkX0_inside.2.1⟩, dkX0_inside.2.2, by decide⟩
theorem lX5_92_Oval : zLu RX5 92 yX0_rise RX8 mX0_rise 1 := ⟨big_in (List.mem_of_getElem? (i := 394) (by decide +kernel)) rfl, big_in (List.mem_of_getElem? (i := 397) (by decide +kernel)) rfl, nkX0_rise, ⟨_, _, _, ckX0_rise⟩, big_in (List.mem_of_getElem? (i := 415) (by decide +kernel)) rfl, nkX0_rise, ikRX0, ckX0_rise, ⟨dkX0_rise.1, dkX0_rise.2.1⟩, dkX0_rise.2.2, by decide⟩
theorem lX5_92_Lid : zLu RX5 92 yX0_rise RX6 mX6_rise 1 := ⟨big_in (List.mem_of_getElem? (i := 394) (by decide +kernel)) rfl, big_in (List.mem_of_getElem? (i := 397) (by decide +kernel)) rfl, nkX0_rise, ⟨_, _, _, ckX0_rise⟩, big_in (List.mem_of_getElem? (i := 414) (by decide +kernel)) rfl, nkX6_rise, ikRX6, ckX6_rise, ⟨dkX0_rise.1, dkX0_rise.2.1⟩, dkX0_rise.2.2, by decide⟩
theorem lX5_92_Foot : zLu RX5 92 yX0_rise RX3 mX3_rise 1 := ⟨big_in (List.mem_of_getElem? (i := 394) (by decide +kernel)) rfl, big_in (List.mem_of_getElem? (i := 397) (by decide +kernel)) rfl, nkX0_rise, ⟨_, _, _, ckX0_rise⟩, big_in (List.mem_of_getElem? (i := 412) (by decide +kernel)) rfl, nkX3_rise, ikRX3, ckX3_rise, ⟨dkX0_rise.1, dkX0_rise.2.1⟩, dkX0_rise.2.2, by decide⟩
theorem lX5_92_Second : zLu RX5 92 yX0_rise RX9 mX0_rise 1 := ⟨big_in (List.mem_of_getElem? (i := 394) (by decide +kernel)) rfl, big_in (List.mem_of_getElem? (i := 397) (by decide +kernel)) rfl, nkX0_rise, ⟨_, _, _, ckX0_rise⟩, big_in (List.mem_of_getElem? (i := 416) (by decide +kernel)) rfl, nkX0_rise, ikRX0, ckX0_rise, ⟨dkX0_rise.1, dkX0_rise.2.1⟩, dkX0_rise.2.2, by decide⟩
theorem lX5_92_Glued : zLu RX5 92 yX0_rise RX4 mX3_rise 1 := ⟨big_in (List.mem_of_getElem? (i := 394) (by decide +kernel)) rfl, big_in (List.mem_of_getElem? (i := 397) (by decide +kernel)) rfl, nkX0_rise, ⟨_, _, _, ckX0_rise⟩, big_in (List.mem_of_getElem? (i := 413) (by decide +kernel)) rfl, nkX3_rise, ikRX3, ckX3_rise, ⟨dkX0_rise.1, dkX0_rise.2.1⟩, dkX0_rise.2.2, by decide⟩
theorem lX5_92_Deep : zLu RX5 92 yX0_rise RX1 mX1_rise 1 := ⟨big_in (List.mem_of_getElem? (i := 394) (by decide +kernel)) rfl, big_in (List.mem_of_getElem? (i := 397) (by decide +kernel)) rfl, nkX0_rise, ⟨_, _, _, ckX0_rise⟩, big_in (List.mem_of_getElem? (i := 398) (by decide +kernel)) rfl, nkX1_rise, ikRX1, ckX1_rise, ⟨dkX0_rise.1, dkX0_rise.2.1⟩, dkX0_rise.2.2, by decide⟩
theorem lX5_92_Flat : zLu RX5 92 yX0_rise RX2 mX2_rise 1 := ⟨big_in (List.mem_of_getElem? (i := 394) (by decide +kernel)) rfl, big_in (List.mem_of_getElem? (i := 397) (by decide +kernel)) rfl, nkX0_rise, ⟨_, _, _, ckX0_rise⟩, big_in (List.mem_of_getElem? (i := 405) (by decide +kernel)) rfl, nkX2_rise, ikRX2, ckX2_rise, ⟨dkX0_rise.1, dkX0_rise.2.1⟩, dkX0_rise.2.2, by decide⟩
theorem lX5_92_Bowl : zLu RX5 92 yX0_rise RX0 mX0_rise 1 := ⟨big_in (List.mem_of_getElem? (i := 394) (by decide +kernel)) rfl, big_in (List.mem_of_getElem? (i := 397) (by decide +kernel)) rfl, nkX0_rise, ⟨_, _, _, ckX0_rise⟩, big_in (List.mem_of_getElem? (i := 396) (by decide +kernel)) rfl, nkX0_rise, ikRX0, ckX0_rise, ⟨dkX0_rise.1, dkX0_rise.2.1⟩, dkX0_rise.2.2, by decide⟩
theorem lX5_106_Oval : zLu RX5 106 yX0_minds RX8 mX8_minds 0 := ⟨big_in (List.mem_of_getElem? (i := 458) (by decide +kernel)) rfl, big_in (List.mem_of_getElem? (i := 461) (by decide +kernel)) rfl, nkX0_minds, ⟨_, _, _, ckX0_minds⟩, big_in (List.mem_of_getElem? (i := 467) (by decide +kernel)) rfl, nkX8_minds, ikRX8, ckX8_minds, ⟨dkX0_minds.1, dkX0_minds.2.1⟩, dkX0_minds.2.2, by decide⟩
theorem lX5_106_Lid : zLu RX5 106 yX0_minds RX6 mX0_minds 0 := ⟨big_in (List.mem_of_getElem? (i := 458) (by decide +kernel)) rfl, big_in (List.mem_of_getElem? (i := 461) (by decide +kernel)) rfl, nkX0_minds, ⟨_, _, _, ckX0_minds⟩, big_in (List.mem_of_getElem? (i := 466) (by decide +kernel)) rfl, nkX0_minds, ikRX0, ckX0_minds, ⟨dkX0_minds.1, dkX0_minds.2.1⟩, dkX0_minds.2.2, by decide⟩
theorem lX5_106_Foot : zLu RX5 106 yX0_minds RX3 mX0_minds 0 := ⟨big_in (List.mem_of_getElem? (i := 458) (by decide +kernel)) rfl, big_in (List.mem_of_getElem? (i := 461) (by decide +kernel)) rfl, nkX0_minds, ⟨_, _, _, ckX0_minds⟩, big_in (List.mem_of_getElem? (i := 464) (by decide +kernel)) rfl, nkX0_minds, ikRX0, ckX0_minds, ⟨dkX0_minds.1, dkX0_minds.2.1⟩, dkX0_minds.2.2, by decide⟩
theorem lX5_106_Second : zLu RX5 106 yX0_minds RX9 mX8_minds 0 := ⟨big_in (List.mem_of_getElem? (i := 458) (by decide +kernel)) rfl, big_in (List.mem_of_getElem? (i := 461) (by decide +kernel)) rfl, nkX0_minds, ⟨_, _, _, ckX0_minds⟩, big_in (List.mem_of_getElem? (i := 470) (by decide +kernel)) rfl, nkX8_minds, ikRX8, ckX8_minds, ⟨dkX0_minds.1, dkX0_minds.2.1⟩, dkX0_minds.2.2, by decide⟩
theorem lX5_106_Glued : zLu RX5 106 yX0_minds RX4 mX0_minds 0 := ⟨big_in (List.mem_of_getElem? (i := 458) (by decide +kernel)) rfl, big_in (List.mem_of_getElem? (i := 461) (by decide +kernel)) rfl, nkX0_minds, ⟨_, _, _, ckX0_minds⟩, big_in (List.mem_of_getElem? (i := 465) (by decide +kernel)) rfl, nkX0_minds, ikRX0, ckX0_minds, ⟨dkX0_minds.1, dkX0_minds.2.1⟩, dkX0_minds.2.2, by decide⟩
theorem lX5_106_Deep : zLu RX5 106 yX0_minds RX1 mX0_minds 0 := ⟨big_in (List.mem_of_getElem? (i := 458) (by decide +kernel)) rfl, big_in (List.mem_of_getElem? (i := 461) (by decide +kernel)) rfl, nkX0_minds, ⟨_, _, _, ckX0_minds⟩, big_in (List.mem_of_getElem? (i := 462) (by decide +kernel)) rfl, nkX0_minds, ikRX0, ckX0_minds, ⟨dkX0_minds.1, dkX0_minds.2.1⟩, dkX0_minds.2.2, by decide⟩
theorem lX5_106_Flat : zLu RX5 106 yX0_minds RX2 mX0_minds 0 := ⟨big_in (List.mem_of_getElem? (i := 458) (by decide +kernel)) rfl, big_in (List.mem_of_getElem? (i := 461) (by decide +kernel)) rfl, nkX0_minds, ⟨_, _, _, ckX0_minds⟩, big_in (List.mem_of_getElem? (i := 463) (by decide +kernel)) rfl, nkX0_minds, ikRX0, ckX0_minds, ⟨dkX0_minds.1, dkX0_minds.2.1⟩, dkX0_minds.2.2, by decide⟩
theorem lX5_106_Bowl : zLu RX5 106 yX0_minds RX0 mX0_minds 0 := ⟨big_in (List.mem_of_getElem? (i := 458) (by decide +kernel)) rfl, big_in (List.mem_of_getElem? (i := 461) (by decide +kernel)) rfl, nkX0_minds, ⟨_, _, _, ckX0_minds⟩, big_in (List.mem_of_getElem? (i := 460) (by decide +kernel)) rfl, nkX0_minds, ikRX0, ckX0_minds, ⟨dkX0_minds.1, dkX0_minds.2.1⟩, dkX0_minds.2.2, by decide⟩
theorem lX6_7 : zLp RX6 7 ⟨RX0, "outside", "(III)I"⟩ mX0_outside 3 := ⟨big_in (List.mem_of_getElem? (i := 342) (by decide +kernel)) rfl, big_in (List.mem_of_getElem? (i := 337) (by decide +kernel)) rfl, big_in (List.mem_of_getElem? (i := 52) (by decide +kernel)) rfl, Or.inl rfl, rfl, rfl, nkX0_outside, ikRX0, ckX0_outside, by decide, dkX0_outside.2.2, by decide⟩
theorem lX6_17 : zLp RX6 17 ⟨RX0, "rise", "(I)I"⟩ mX0_rise 1 := ⟨big_in (List.mem_of_getElem? (i := 411) (by decide +kernel)) rfl, big_in (List.mem_of_getElem? (i := 397) (by decide +kernel)) rfl, big_in (List.mem_of_getElem? (i := 52) (by decide +kernel)) rfl, Or.inl rfl, rfl, rfl, nkX0_rise, ikRX0, ckX0_rise, by decide, dkX0_rise.2.2, by decide⟩
theorem lX6_21 : zLp RX6 21 ⟨RX0, "cost", "(I)I"⟩ mX0_cost 1 := ⟨big_in (List.mem_of_getElem? (i := 748) (by decide +kernel)) rfl, big_in (List.mem_of_getElem? (i := 734) (by decide +kernel)) rfl, big_in (List.mem_of_getElem? (i := 52) (by decide +kernel)) rfl, Or.inl rfl, rfl, rfl, nkX0_cost, ikRX0, ckX0_cost, by decide, dkX0_cost.2.2, by decide⟩
theorem lX8_7 : zLp RX8 7 ⟨RX0, "outside", "(III)I"⟩ mX0_outside 3 := ⟨big_in (List.mem_of_getElem? (i := 357) (by decide +kernel)) rfl, big_in (List.mem_of_getElem? (i := 337) (by decide +kernel)) rfl, big_in (List.mem_of_getElem? (i := 45) (by decide +kernel)) rfl, Or.inl rfl, rfl, rfl, nkX0_outside, ikRX0, ckX0_outside, by decide, dkX0_outside.2.2, by decide⟩
theorem lX8_11 : zLp RX8 11 ⟨RX0, "inside", "(IIII)I"⟩ mX0_inside 4 := ⟨big_in (List.mem_of_getElem? (i := 387) (by decide +kernel)) rfl, big_in (List.mem_of_getElem? (i := 370) (by decide +kernel)) rfl, big_in (List.mem_of_getElem? (i := 45) (by decide +kernel)) rfl, Or.inl rfl, rfl, rfl, nkX0_inside, ikRX0, ckX0_inside, by decide, dkX0_inside.2.2, by decide⟩
theorem lX8_15 : zLp RX8 15 ⟨RX0, "cost", "(I)I"⟩ mX0_cost 1 := ⟨big_in (List.mem_of_getElem? (i := 758) (by decide +kernel)) rfl, big_in (List.mem_of_getElem? (i := 734) (by decide +kernel)) rfl, big_in (List.mem_of_getElem? (i := 45) (by decide +kernel)) rfl, Or.inl rfl, rfl, rfl, nkX0_cost, ikRX0, ckX0_cost, by decide, dkX0_cost.2.2, by decide⟩
theorem lX9_7 : zLp RX9 7 ⟨RX8, "outside", "(III)I"⟩ mX8_outside 3 := ⟨big_in (List.mem_of_getElem? (i := 361) (by decide +kernel)) rfl, big_in (List.mem_of_getElem? (i := 1287) (by decide +kernel)) rfl, big_in (List.mem_of_getElem? (i := 66) (by decide +kernel)) rfl, Or.inl rfl, rfl, rfl, nkX8_outside, ikRX8, ckX8_outside, by decide, dkX8_outside.2.2, by decide⟩
theorem lX9_11 : zLp RX9 11 ⟨RX8, "cost", "(I)I"⟩ mX8_cost 1 := ⟨big_in (List.mem_of_getElem? (i := 762) (by decide +kernel)) rfl, big_in (List.mem_of_getElem? (i := 1293) (by decide +kernel)) rfl, big_in (List.mem_of_getElem? (i := 66) (by decide +kernel)) rfl, Or.inl rfl, rfl, rfl, nkX8_cost, ikRX8, ckX8_cost, by decide, dkX8_cost.2.2, by decide⟩
theorem inX5 : ∀ w ∈ u_ws RX5 TX5 9, w ∈ big := by decide +kernel
theorem inX7 : ∀ w ∈ u_ws RX7 TX7 11, w ∈ big := by decide +kernel
theorem inX10 : ∀ w ∈ u_ws RX10 TX10 6, w ∈ big := by decide +kernel
theorem inX11 : ∀ w ∈ u_ws RX11 TX11 7, w ∈ big := by decide +kernel
theorem inX12 : ∀ w ∈ u_ws RX12 TX12 20, w ∈ big := by decide +kernel
theorem fX11_33 : zF RX11 33 11 0 := ⟨RX11, TX11, 7, tyX11, rfl, by decide, inX11, tyX11_ok, nmX11, Or.inl (big_in (List.mem_of_getElem? (i := 207) (by decide +kernel)) rfl)⟩
theorem fX11_42 : zF RX11 42 11 1 := ⟨RX11, TX11, 7, tyX11, rfl, by decide, inX11, tyX11_ok, nmX11, Or.inl (big_in (List.mem_of_getElem? (i := 208) (by decide +kernel)) rfl)⟩
theorem fX11_46 : zF RX11 46 11 2 := ⟨RX11, TX11, 7, tyX11, rfl, by decide, inX11, tyX11_ok, nmX11, Or.inl (big_in (List.mem_of_getElem? (i := 209) (by decide +kernel)) rfl)⟩
theorem fX11_49 : zF RX11 49 11 3 := ⟨RX11, TX11, 7, tyX11, rfl, by decide, inX11, tyX11_ok, nmX11, Or.inl (big_in (List.mem_of_getElem? (i := 210) (by decide +kernel)) rfl)⟩
theorem fX11_55 : zF RX11 55 11 4 := ⟨RX11, TX11, 7, tyX11, rfl, by decide, inX11, tyX11_ok, nmX11, Or.inl (big_in (List.mem_of_getElem? (i := 211) (by decide +kernel)) rfl)⟩
theorem fX11_61 : zF RX11 61 11 5 := ⟨RX11, TX11, 7, tyX11, rfl, by decide, inX11, tyX11_ok, nmX11, Or.inl (big_in (List.mem_of_getElem? (i := 212) (by decide +kernel)) rfl)⟩
theorem fX11_66 : zF RX11 66 11 6 := ⟨RX11, TX11, 7, tyX11, rfl, by decide, inX11, tyX11_ok, nmX11, Or.inl (big_in (List.mem_of_getElem? (i := 213) (by decide +kernel)) rfl)⟩
theorem gX11_66 : zFp RX11 66 11 6 .boolean := ⟨fX11_66, _, rfl, rfl, by decide +kernel⟩
theorem fX5_11 : zF RX5 11 5 1 := ⟨RX5, TX5, 9, tyX5, rfl, by decide, inX5, tyX5_ok, nmX5, Or.inl (big_in (List.mem_of_getElem? (i := 95) (by decide +kernel)) rfl)⟩
theorem fX5_15 : zF RX5 15 5 2 := ⟨RX5, TX5, 9, tyX5, rfl, by decide, inX5, tyX5_ok, nmX5, Or.inl (big_in (List.mem_of_getElem? (i := 97) (by decide +kernel)) rfl)⟩
theorem fX5_18 : zF RX5 18 5 3 := ⟨RX5, TX5, 9, tyX5, rfl, by decide, inX5, tyX5_ok, nmX5, Or.inl (big_in (List.mem_of_getElem? (i := 99) (by decide +kernel)) rfl)⟩
theorem fX5_21 : zF RX5 21 5 4 := ⟨RX5, TX5, 9, tyX5, rfl, by decide, inX5, tyX5_ok, nmX5, Or.inl (big_in (List.mem_of_getElem? (i := 101) (by decide +kernel)) rfl)⟩
theorem fX5_24 : zF RX5 24 5 5 := ⟨RX5, TX5, 9, tyX5, rfl, by decide, inX5, tyX5_ok, nmX5, Or.inl (big_in (List.mem_of_getElem? (i := 103) (by decide +kernel)) rfl)⟩
theorem fX5_27 : zF RX5 27 5 6 := ⟨RX5, TX5, 9, tyX5, rfl, by decide, inX5, tyX5_ok, nmX5, Or.inl (big_in (List.mem_of_getElem? (i := 106) (by decide +kernel)) rfl)⟩
theorem fX5_30 : zF RX5 30 5 0 := ⟨RX5, TX5, 9, tyX5, rfl, by decide, inX5, tyX5_ok, nmX5, Or.inl (big_in (List.mem_of_getElem? (i := 94) (by decide +kernel)) rfl)⟩
theorem fX5_34 : zF RX5 34 5 7 := ⟨RX5, TX5, 9, tyX5, rfl, by decide, inX5, tyX5_ok, nmX5, Or.inl (big_in (List.mem_of_getElem? (i := 109) (by decide +kernel)) rfl)⟩
theorem gX5_34 : zFp RX5 34 5 7 .int := ⟨fX5_34, _, rfl, rfl, by decide +kernel⟩
theorem fX5_38 : zF RX5 38 5 8 := ⟨RX5, TX5, 9, tyX5, rfl, by decide, inX5, tyX5_ok, nmX5, Or.inl (big_in (List.mem_of_getElem? (i := 112) (by decide +kernel)) rfl)⟩
theorem gX5_38 : zFp RX5 38 5 8 .int := ⟨fX5_38, _, rfl, rfl, by decide +kernel⟩
theorem fX7_9 : zF RX7 9 7 0 := ⟨RX7, TX7, 11, tyX7, rfl, by decide, inX7, tyX7_ok, nmX7, Or.inl (big_in (List.mem_of_getElem? (i := 141) (by decide +kernel)) rfl)⟩
theorem fX7_15 : zF RX7 15 7 1 := ⟨RX7, TX7, 11, tyX7, rfl, by decide, inX7, tyX7_ok, nmX7, Or.inl (big_in (List.mem_of_getElem? (i := 142) (by decide +kernel)) rfl)⟩
theorem fX7_18 : zF RX7 18 7 2 := ⟨RX7, TX7, 11, tyX7, rfl, by decide, inX7, tyX7_ok, nmX7, Or.inl (big_in (List.mem_of_getElem? (i := 143) (by decide +kernel)) rfl)⟩
theorem fX7_21 : zF RX7 21 7 3 := ⟨RX7, TX7, 11, tyX7, rfl, by decide, inX7, tyX7_ok, nmX7, Or.inl (big_in (List.mem_of_getElem? (i := 144) (by decide +kernel)) rfl)⟩
theorem fX7_24 : zF RX7 24 7 4 := ⟨RX7, TX7, 11, tyX7, rfl, by decide, inX7, tyX7_ok, nmX7, Or.inl (big_in (List.mem_of_getElem? (i := 145) (by decide +kernel)) rfl)⟩
theorem fX7_27 : zF RX7 27 7 5 := ⟨RX7, TX7, 11, tyX7, rfl, by decide, inX7, tyX7_ok, nmX7, Or.inl (big_in (List.mem_of_getElem? (i := 146) (by decide +kernel)) rfl)⟩
theorem fX7_30 : zF RX7 30 7 6 := ⟨RX7, TX7, 11, tyX7, rfl, by decide, inX7, tyX7_ok, nmX7, Or.inl (big_in (List.mem_of_getElem? (i := 147) (by decide +kernel)) rfl)⟩
theorem fX7_33 : zF RX7 33 7 7 := ⟨RX7, TX7, 11, tyX7, rfl, by decide, inX7, tyX7_ok, nmX7, Or.inl (big_in (List.mem_of_getElem? (i := 148) (by decide +kernel)) rfl)⟩
theorem fX7_48 : zF RX7 48 7 9 := ⟨RX7, TX7, 11, tyX7, rfl, by decide, inX7, tyX7_ok, nmX7, Or.inl (big_in (List.mem_of_getElem? (i := 150) (by decide +kernel)) rfl)⟩
theorem gX7_48 : zFp RX7 48 7 9 .int := ⟨fX7_48, _, rfl, rfl, by decide +kernel⟩
theorem fX7_51 : zF RX7 51 7 10 := ⟨RX7, TX7, 11, tyX7, rfl, by decide, inX7, tyX7_ok, nmX7, Or.inl (big_in (List.mem_of_getElem? (i := 151) (by decide +kernel)) rfl)⟩
theorem gX7_51 : zFp RX7 51 7 10 .int := ⟨fX7_51, _, rfl, rfl, by decide +kernel⟩
theorem fX7_54 : zF RX7 54 7 8 := ⟨RX7, TX7, 11, tyX7, rfl, by decide, inX7, tyX7_ok, nmX7, Or.inl (big_in (List.mem_of_getElem? (i := 149) (by decide +kernel)) rfl)⟩
theorem gX7_54 : zFp RX7 54 7 8 .int := ⟨fX7_54, _, rfl, rfl, by decide +kernel⟩
theorem fX10_9 : zF RX10 9 10 0 := ⟨RX10, TX10, 6, tyX10, rfl, by decide, inX10, tyX10_ok, nmX10, Or.inl (big_in (List.mem_of_getElem? (i := 182) (by decide +kernel)) rfl)⟩
theorem fX10_15 : zF RX10 15 10 1 := ⟨RX10, TX10, 6, tyX10, rfl, by decide, inX10, tyX10_ok, nmX10, Or.inl (big_in (List.mem_of_getElem? (i := 184) (by decide +kernel)) rfl)⟩
theorem gX10_15 : zFp RX10 15 10 1 .int := ⟨fX10_15, _, rfl, rfl, by decide +kernel⟩
theorem fX10_19 : zF RX10 19 10 2 := ⟨RX10, TX10, 6, tyX10, rfl, by decide, inX10, tyX10_ok, nmX10, Or.inl (big_in (List.mem_of_getElem? (i := 186) (by decide +kernel)) rfl)⟩
theorem gX10_19 : zFp RX10 19 10 2 .int := ⟨fX10_19, _, rfl, rfl, by decide +kernel⟩
theorem fX10_22 : zF RX10 22 10 3 := ⟨RX10, TX10, 6, tyX10, rfl, by decide, inX10, tyX10_ok, nmX10, Or.inl (big_in (List.mem_of_getElem? (i := 188) (by decide +kernel)) rfl)⟩
theorem gX10_22 : zFp RX10 22 10 3 .int := ⟨fX10_22, _, rfl, rfl, by decide +kernel⟩
theorem fX10_25 : zF RX10 25 10 4 := ⟨RX10, TX10, 6, tyX10, rfl, by decide, inX10, tyX10_ok, nmX10, Or.inl (big_in (List.mem_of_getElem? (i := 190) (by decide +kernel)) rfl)⟩
theorem gX10_25 : zFp RX10 25 10 4 .int := ⟨fX10_25, _, rfl, rfl, by decide +kernel⟩
theorem fX10_28 : zF RX10 28 10 5 := ⟨RX10, TX10, 6, tyX10, rfl, by decide, inX10, tyX10_ok, nmX10, Or.inl (big_in (List.mem_of_getElem? (i := 192) (by decide +kernel)) rfl)⟩
theorem gX10_28 : zFp RX10 28 10 5 .int := ⟨fX10_28, _, rfl, rfl, by decide +kernel⟩
theorem fX12_9 : zF RX12 9 12 0 := ⟨RX12, TX12, 20, tyX12, rfl, by decide, inX12, tyX12_ok, nmX12, Or.inl (big_in (List.mem_of_getElem? (i := 908) (by decide +kernel)) rfl)⟩
theorem fX12_13 : zF RX12 13 12 1 := ⟨RX12, TX12, 20, tyX12, rfl, by decide, inX12, tyX12_ok, nmX12, Or.inl (big_in (List.mem_of_getElem? (i := 909) (by decide +kernel)) rfl)⟩
theorem fX12_16 : zF RX12 16 12 2 := ⟨RX12, TX12, 20, tyX12, rfl, by decide, inX12, tyX12_ok, nmX12, Or.inl (big_in (List.mem_of_getElem? (i := 910) (by decide +kernel)) rfl)⟩
theorem fX12_19 : zF RX12 19 12 3 := ⟨RX12, TX12, 20, tyX12, rfl, by decide, inX12, tyX12_ok, nmX12, Or.inl (big_in (List.mem_of_getElem? (i := 911) (by decide +kernel)) rfl)⟩
theorem fX12_22 : zF RX12 22 12 4 := ⟨RX12, TX12, 20, tyX12, rfl, by decide, inX12, tyX12_ok, nmX12, Or.inl (big_in (List.mem_of_getElem? (i := 912) (by decide +kernel)) rfl)⟩
theorem fX12_25 : zF RX12 25 12 5 := ⟨RX12, TX12, 20, tyX12, rfl, by decide, inX12, tyX12_ok, nmX12, Or.inl (big_in (List.mem_of_getElem? (i := 913) (by decide +kernel)) rfl)⟩
theorem fX12_28 : zF RX12 28 12 6 := ⟨RX12, TX12, 20, tyX12, rfl, by decide, inX12, tyX12_ok, nmX12, Or.inl (big_in (List.mem_of_getElem? (i := 914) (by decide +kernel)) rfl)⟩
theorem fX12_31 : zF RX12 31 12 7 := ⟨RX12, TX12, 20, tyX12, rfl, by decide, inX12, tyX12_ok, nmX12, Or.inl (big_in (List.mem_of_getElem? (i := 915) (by decide +kernel)) rfl)⟩
theorem fX12_34 : zF RX12 34 12 8 := ⟨RX12, TX12, 20, tyX12, rfl, by decide, inX12, tyX12_ok, nmX12, Or.inl (big_in (List.mem_of_getElem? (i := 916) (by decide +kernel)) rfl)⟩
theorem fX12_37 : zF RX12 37 12 15 := ⟨RX12, TX12, 20, tyX12, rfl, by decide, inX12, tyX12_ok, nmX12, Or.inl (big_in (List.mem_of_getElem? (i := 923) (by decide +kernel)) rfl)⟩
theorem fX12_40 : zF RX12 40 12 16 := ⟨RX12, TX12, 20, tyX12, rfl, by decide, inX12, tyX12_ok, nmX12, Or.inl (big_in (List.mem_of_getElem? (i := 924) (by decide +kernel)) rfl)⟩
theorem fX12_43 : zF RX12 43 12 17 := ⟨RX12, TX12, 20, tyX12, rfl, by decide, inX12, tyX12_ok, nmX12, Or.inl (big_in (List.mem_of_getElem? (i := 925) (by decide +kernel)) rfl)⟩
theorem fX12_46 : zF RX12 46 12 18 := ⟨RX12, TX12, 20, tyX12, rfl, by decide, inX12, tyX12_ok, nmX12, Or.inl (big_in (List.mem_of_getElem? (i := 926) (by decide +kernel)) rfl)⟩
theorem fX12_49 : zF RX12 49 12 10 := ⟨RX12, TX12, 20, tyX12, rfl, by decide, inX12, tyX12_ok, nmX12, Or.inl (big_in (List.mem_of_getElem? (i := 918) (by decide +kernel)) rfl)⟩
theorem gX12_49 : zFp RX12 49 12 10 .int := ⟨fX12_49, _, rfl, rfl, by decide +kernel⟩
theorem fX12_93 : zF RX12 93 12 11 := ⟨RX12, TX12, 20, tyX12, rfl, by decide, inX12, tyX12_ok, nmX12, Or.inl (big_in (List.mem_of_getElem? (i := 919) (by decide +kernel)) rfl)⟩
theorem gX12_93 : zFp RX12 93 12 11 .int := ⟨fX12_93, _, rfl, rfl, by decide +kernel⟩
theorem fX12_96 : zF RX12 96 12 13 := ⟨RX12, TX12, 20, tyX12, rfl, by decide, inX12, tyX12_ok, nmX12, Or.inl (big_in (List.mem_of_getElem? (i := 921) (by decide +kernel)) rfl)⟩
theorem gX12_96 : zFp RX12 96 12 13 .int := ⟨fX12_96, _, rfl, rfl, by decide +kernel⟩
theorem fX12_99 : zF RX12 99 12 12 := ⟨RX12, TX12, 20, tyX12, rfl, by decide, inX12, tyX12_ok, nmX12, Or.inl (big_in (List.mem_of_getElem? (i := 920) (by decide +kernel)) rfl)⟩
theorem gX12_99 : zFp RX12 99 12 12 .int := ⟨fX12_99, _, rfl, rfl, by decide +kernel⟩
theorem fX12_113 : zF RX12 113 12 14 := ⟨RX12, TX12, 20, tyX12, rfl, by decide, inX12, tyX12_ok, nmX12, Or.inl (big_in (List.mem_of_getElem? (i := 922) (by decide +kernel)) rfl)⟩
theorem gX12_113 : zFp RX12 113 12 14 .int := ⟨fX12_113, _, rfl, rfl, by decide +kernel⟩
theorem fX12_218 : zF RX12 218 12 19 := ⟨RX12, TX12, 20, tyX12, rfl, by decide, inX12, tyX12_ok, nmX12, Or.inl (big_in (List.mem_of_getElem? (i := 927) (by decide +kernel)) rfl)⟩
theorem gX12_218 : zFp RX12 218 12 19 .int := ⟨fX12_218, _, rfl, rfl, by decide +kernel⟩
theorem fX12_229 : zF RX12 229 12 9 := ⟨RX12, TX12, 20, tyX12, rfl, by decide, inX12, tyX12_ok, nmX12, Or.inl (big_in (List.mem_of_getElem? (i := 917) (by decide +kernel)) rfl)⟩
theorem gX12_229 : zFp RX12 229 12 9 .boolean := ⟨fX12_229, _, rfl, rfl, by decide +kernel⟩
theorem fX11_86 : zF RX11 86 5 1 := ⟨RX5, TX5, 9, tyX5, rfl, by decide, inX5, tyX5_ok, nmX5, Or.inr ⟨"BowlsWithin", nests_in (List.mem_of_getElem? (i := 96) (by decide +kernel)) rfl⟩⟩
theorem fX11_90 : zF RX11 90 5 2 := ⟨RX5, TX5, 9, tyX5, rfl, by decide, inX5, tyX5_ok, nmX5, Or.inr ⟨"BowlsWithin", nests_in (List.mem_of_getElem? (i := 98) (by decide +kernel)) rfl⟩⟩
theorem fX11_93 : zF RX11 93 5 3 := ⟨RX5, TX5, 9, tyX5, rfl, by decide, inX5, tyX5_ok, nmX5, Or.inr ⟨"BowlsWithin", nests_in (List.mem_of_getElem? (i := 100) (by decide +kernel)) rfl⟩⟩
theorem fX11_96 : zF RX11 96 5 4 := ⟨RX5, TX5, 9, tyX5, rfl, by decide, inX5, tyX5_ok, nmX5, Or.inr ⟨"BowlsWithin", nests_in (List.mem_of_getElem? (i := 102) (by decide +kernel)) rfl⟩⟩
theorem fX11_99 : zF RX11 99 5 5 := ⟨RX5, TX5, 9, tyX5, rfl, by decide, inX5, tyX5_ok, nmX5, Or.inr ⟨"BowlsWithin", nests_in (List.mem_of_getElem? (i := 105) (by decide +kernel)) rfl⟩⟩
theorem fX11_106 : zF RX11 106 5 8 := ⟨RX5, TX5, 9, tyX5, rfl, by decide, inX5, tyX5_ok, nmX5, Or.inr ⟨"BowlsWithin", nests_in (List.mem_of_getElem? (i := 114) (by decide +kernel)) rfl⟩⟩
theorem gX11_106 : zFp RX11 106 5 8 .int := ⟨fX11_106, _, rfl, rfl, by decide +kernel⟩
theorem fX11_130 : zF RX11 130 10 2 := ⟨RX10, TX10, 6, tyX10, rfl, by decide, inX10, tyX10_ok, nmX10, Or.inr ⟨"BowlsWithin", nests_in (List.mem_of_getElem? (i := 187) (by decide +kernel)) rfl⟩⟩
theorem gX11_130 : zFp RX11 130 10 2 .int := ⟨fX11_130, _, rfl, rfl, by decide +kernel⟩
theorem fX11_132 : zF RX11 132 10 3 := ⟨RX10, TX10, 6, tyX10, rfl, by decide, inX10, tyX10_ok, nmX10, Or.inr ⟨"BowlsWithin", nests_in (List.mem_of_getElem? (i := 189) (by decide +kernel)) rfl⟩⟩
theorem gX11_132 : zFp RX11 132 10 3 .int := ⟨fX11_132, _, rfl, rfl, by decide +kernel⟩
theorem fX11_138 : zF RX11 138 5 7 := ⟨RX5, TX5, 9, tyX5, rfl, by decide, inX5, tyX5_ok, nmX5, Or.inr ⟨"BowlsWithin", nests_in (List.mem_of_getElem? (i := 111) (by decide +kernel)) rfl⟩⟩
theorem gX11_138 : zFp RX11 138 5 7 .int := ⟨fX11_138, _, rfl, rfl, by decide +kernel⟩
theorem fX11_198 : zF RX11 198 5 6 := ⟨RX5, TX5, 9, tyX5, rfl, by decide, inX5, tyX5_ok, nmX5, Or.inr ⟨"BowlsWithin", nests_in (List.mem_of_getElem? (i := 108) (by decide +kernel)) rfl⟩⟩
theorem fX11_211 : zF RX11 211 10 5 := ⟨RX10, TX10, 6, tyX10, rfl, by decide, inX10, tyX10_ok, nmX10, Or.inr ⟨"BowlsWithin", nests_in (List.mem_of_getElem? (i := 193) (by decide +kernel)) rfl⟩⟩
theorem gX11_211 : zFp RX11 211 10 5 .int := ⟨fX11_211, _, rfl, rfl, by decide +kernel⟩
theorem fX11_265 : zF RX11 265 10 1 := ⟨RX10, TX10, 6, tyX10, rfl, by decide, inX10, tyX10_ok, nmX10, Or.inr ⟨"BowlsWithin", nests_in (List.mem_of_getElem? (i := 185) (by decide +kernel)) rfl⟩⟩
theorem gX11_265 : zFp RX11 265 10 1 .int := ⟨fX11_265, _, rfl, rfl, by decide +kernel⟩
theorem fX11_273 : zF RX11 273 10 4 := ⟨RX10, TX10, 6, tyX10, rfl, by decide, inX10, tyX10_ok, nmX10, Or.inr ⟨"BowlsWithin", nests_in (List.mem_of_getElem? (i := 191) (by decide +kernel)) rfl⟩⟩
theorem gX11_273 : zFp RX11 273 10 4 .int := ⟨fX11_273, _, rfl, rfl, by decide +kernel⟩
theorem fX11_279 : zF RX11 279 10 0 := ⟨RX10, TX10, 6, tyX10, rfl, by decide, inX10, tyX10_ok, nmX10, Or.inr ⟨"BowlsWithin", nests_in (List.mem_of_getElem? (i := 183) (by decide +kernel)) rfl⟩⟩
theorem fX7_36 : zF RX7 36 5 7 := ⟨RX5, TX5, 9, tyX5, rfl, by decide, inX5, tyX5_ok, nmX5, Or.inr ⟨"BowlsWithin", nests_in (List.mem_of_getElem? (i := 110) (by decide +kernel)) rfl⟩⟩
theorem gX7_36 : zFp RX7 36 5 7 .int := ⟨fX7_36, _, rfl, rfl, by decide +kernel⟩
theorem fX7_60 : zF RX7 60 5 6 := ⟨RX5, TX5, 9, tyX5, rfl, by decide, inX5, tyX5_ok, nmX5, Or.inr ⟨"BowlsWithin", nests_in (List.mem_of_getElem? (i := 107) (by decide +kernel)) rfl⟩⟩
theorem fX7_63 : zF RX7 63 5 8 := ⟨RX5, TX5, 9, tyX5, rfl, by decide, inX5, tyX5_ok, nmX5, Or.inr ⟨"BowlsWithin", nests_in (List.mem_of_getElem? (i := 113) (by decide +kernel)) rfl⟩⟩
theorem gX7_63 : zFp RX7 63 5 8 .int := ⟨fX7_63, _, rfl, rfl, by decide +kernel⟩
theorem fX7_78 : zF RX7 78 5 5 := ⟨RX5, TX5, 9, tyX5, rfl, by decide, inX5, tyX5_ok, nmX5, Or.inr ⟨"BowlsWithin", nests_in (List.mem_of_getElem? (i := 104) (by decide +kernel)) rfl⟩⟩
theorem hX11_172 : Jvm.Cond.constant RX11 172 (1000000) ∈ big := big_in (List.mem_of_getElem? (i := 541) (by decide +kernel)) rfl
theorem hX11_306 : Jvm.Cond.constant RX11 306 (1103515245) ∈ big := big_in (List.mem_of_getElem? (i := 663) (by decide +kernel)) rfl
theorem hX11_307 : Jvm.Cond.constant RX11 307 (2147483647) ∈ big := big_in (List.mem_of_getElem? (i := 664) (by decide +kernel)) rfl
theorem hX11_308 : Jvm.Cond.constant RX11 308 (65536) ∈ big := big_in (List.mem_of_getElem? (i := 665) (by decide +kernel)) rfl
theorem hX7_98 : Jvm.Cond.constant RX7 98 (1000000) ∈ big := big_in (List.mem_of_getElem? (i := 546) (by decide +kernel)) rfl
theorem hX12_53 : Jvm.Cond.constantLong RX12 53 (7) ∈ big := big_in (List.mem_of_getElem? (i := 984) (by decide +kernel)) rfl
theorem hX12_105 : Jvm.Cond.constantLong RX12 105 (48) ∈ big := big_in (List.mem_of_getElem? (i := 1004) (by decide +kernel)) rfl
theorem hX12_107 : Jvm.Cond.constantLong RX12 107 (57) ∈ big := big_in (List.mem_of_getElem? (i := 1005) (by decide +kernel)) rfl
theorem hX12_151 : Jvm.Cond.constantLong RX12 151 (99) ∈ big := big_in (List.mem_of_getElem? (i := 1061) (by decide +kernel)) rfl
theorem hX12_160 : Jvm.Cond.constantLong RX12 160 (9) ∈ big := big_in (List.mem_of_getElem? (i := 1074) (by decide +kernel)) rfl
theorem hX12_183 : Jvm.Cond.constant RX12 183 (1000000) ∈ big := big_in (List.mem_of_getElem? (i := 1150) (by decide +kernel)) rfl
theorem hX12_221 : Jvm.Cond.constant RX12 221 (1103515245) ∈ big := big_in (List.mem_of_getElem? (i := 1239) (by decide +kernel)) rfl
theorem hX12_222 : Jvm.Cond.constant RX12 222 (2147483647) ∈ big := big_in (List.mem_of_getElem? (i := 1240) (by decide +kernel)) rfl
theorem hX12_223 : Jvm.Cond.constant RX12 223 (65536) ∈ big := big_in (List.mem_of_getElem? (i := 1241) (by decide +kernel)) rfl
theorem hX12_224 : Jvm.Cond.constantLong RX12 224 (40) ∈ big := big_in (List.mem_of_getElem? (i := 1234) (by decide +kernel)) rfl
theorem hX12_233 : Jvm.Cond.constantLong RX12 233 (2) ∈ big := big_in (List.mem_of_getElem? (i := 1262) (by decide +kernel)) rfl
theorem hJ6_265 : Jvm.Cond.constant RJ6 265 (1431655765) ∈ big := big_in (List.mem_of_getElem? (i := 533) (by decide +kernel)) rfl
theorem hJ6_266 : Jvm.Cond.constant RJ6 266 (858993459) ∈ big := big_in (List.mem_of_getElem? (i := 534) (by decide +kernel)) rfl
theorem hJ6_267 : Jvm.Cond.constant RJ6 267 (252645135) ∈ big := big_in (List.mem_of_getElem? (i := 535) (by decide +kernel)) rfl

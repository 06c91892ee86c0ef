theorem ini_RL : Cond.initialized RL ∈ TW := tw_in (List.mem_of_getElem? (i := 18) (by decide +kernel)) rfl
theorem ini_RX10 : Cond.initialized RX10 ∈ TW := tw_in (List.mem_of_getElem? (i := 19) (by decide +kernel)) rfl
theorem ini_RX2 : Cond.initialized RX2 ∈ TW := tw_in (List.mem_of_getElem? (i := 20) (by decide +kernel)) rfl
theorem ini_RX3 : Cond.initialized RX3 ∈ TW := tw_in (List.mem_of_getElem? (i := 21) (by decide +kernel)) rfl
theorem ini_RX9 : Cond.initialized RX9 ∈ TW := tw_in (List.mem_of_getElem? (i := 22) (by decide +kernel)) rfl
theorem ini_RX1 : Cond.initialized RX1 ∈ TW := tw_in (List.mem_of_getElem? (i := 23) (by decide +kernel)) rfl
theorem ini_RX7 : Cond.initialized RX7 ∈ TW := tw_in (List.mem_of_getElem? (i := 24) (by decide +kernel)) rfl
theorem ini_RX4 : Cond.initialized RX4 ∈ TW := tw_in (List.mem_of_getElem? (i := 25) (by decide +kernel)) rfl
theorem ini_RX0 : Cond.initialized RX0 ∈ TW := tw_in (List.mem_of_getElem? (i := 26) (by decide +kernel)) rfl
theorem ini_RJ7 : Cond.initialized RJ7 ∈ TW := tw_in (List.mem_of_getElem? (i := 27) (by decide +kernel)) rfl
theorem ini_RX8 : Cond.initialized RX8 ∈ TW := tw_in (List.mem_of_getElem? (i := 28) (by decide +kernel)) rfl
theorem ini_RX5 : Cond.initialized RX5 ∈ TW := tw_in (List.mem_of_getElem? (i := 29) (by decide +kernel)) rfl
theorem ini_RX11 : Cond.initialized RX11 ∈ TW := tw_in (List.mem_of_getElem? (i := 30) (by decide +kernel)) rfl
theorem ini_RJ9 : Cond.initialized RJ9 ∈ TW := tw_in (List.mem_of_getElem? (i := 31) (by decide +kernel)) rfl
theorem ini_RX6 : Cond.initialized RX6 ∈ TW := tw_in (List.mem_of_getElem? (i := 32) (by decide +kernel)) rfl
theorem ini_Math0 : Cond.initialized "java/lang/Math" ∈ TW := tw_in (List.mem_of_getElem? (i := 31) (by decide +kernel)) rfl
set_option maxRecDepth 20000 in
theorem mt_X10_init : MT yX10_init cX10_init 2 none 0 := ⟨tw_in (List.mem_of_getElem? (i := 37) (rfl)) rfl, ini_RX10, by decide +kernel⟩
theorem obj_code : Cond.code objectInit ⟨#[0xb1]⟩ 1 none ∈ TW := tw_in (List.mem_of_getElem? (i := 40) (rfl)) rfl
theorem obj_inst : Cond.instanceMethod objectInit ∈ TW := tw_in (List.mem_of_getElem? (i := 39) (by decide +kernel)) rfl
set_option maxRecDepth 20000 in
theorem mt_X2_init : MT yX2_init cX2_init 1 none 0 := ⟨tw_in (List.mem_of_getElem? (i := 45) (rfl)) rfl, ini_RX2, by decide +kernel⟩
set_option maxRecDepth 20000 in
theorem mt_X3_init : MT yX3_init cX3_init 1 none 0 := ⟨tw_in (List.mem_of_getElem? (i := 68) (rfl)) rfl, ini_RX3, by decide +kernel⟩
set_option maxRecDepth 20000 in
theorem mt_X9_init : MT yX9_init cX9_init 1 none 0 := ⟨tw_in (List.mem_of_getElem? (i := 94) (rfl)) rfl, ini_RX9, by decide +kernel⟩
set_option maxRecDepth 20000 in
theorem mt_X1_init : MT yX1_init cX1_init 1 none 0 := ⟨tw_in (List.mem_of_getElem? (i := 133) (rfl)) rfl, ini_RX1, by decide +kernel⟩
set_option maxRecDepth 20000 in
theorem mt_X7_init : MT yX7_init cX7_init 1 none 0 := ⟨tw_in (List.mem_of_getElem? (i := 151) (rfl)) rfl, ini_RX7, by decide +kernel⟩
set_option maxRecDepth 20000 in
theorem mt_X4_init : MT yX4_init cX4_init 1 none 0 := ⟨tw_in (List.mem_of_getElem? (i := 177) (rfl)) rfl, ini_RX4, by decide +kernel⟩
set_option maxRecDepth 20000 in
theorem mt_X0_init : MT yX0_init cX0_init 1 none 0 := ⟨tw_in (List.mem_of_getElem? (i := 218) (rfl)) rfl, ini_RX0, by decide +kernel⟩
set_option maxRecDepth 20000 in
theorem mt_J7_fill_53178 : MT yJ7_fill_53178 cJ7_fill_53178 4 none 2 := ⟨tw_in (List.mem_of_getElem? (i := 232) (rfl)) rfl, ini_RJ7, by decide +kernel⟩
set_option maxRecDepth 20000 in
theorem mt_X8_init : MT yX8_init cX8_init 1 none 0 := ⟨tw_in (List.mem_of_getElem? (i := 238) (rfl)) rfl, ini_RX8, by decide +kernel⟩
set_option maxRecDepth 20000 in
theorem mt_X5_init : MT yX5_init cX5_init 1 none 0 := ⟨tw_in (List.mem_of_getElem? (i := 269) (rfl)) rfl, ini_RX5, by decide +kernel⟩
set_option maxRecDepth 20000 in
theorem mt_X10_right : MT yX10_right cX10_right 3 (some .int) 2 := ⟨tw_in (List.mem_of_getElem? (i := 340) (rfl)) rfl, ini_RX10, by decide +kernel⟩
set_option maxRecDepth 20000 in
theorem mt_X10_within : MT yX10_within cX10_within 3 (some .boolean) 3 := ⟨tw_in (List.mem_of_getElem? (i := 343) (rfl)) rfl, ini_RX10, by decide +kernel⟩
set_option maxRecDepth 20000 in
theorem mt_X2_grant : MT yX2_grant cX2_grant 3 (some .int) 2 := ⟨tw_in (List.mem_of_getElem? (i := 347) (rfl)) rfl, ini_RX2, by decide +kernel⟩
set_option maxRecDepth 20000 in
theorem mt_X10_exchange : MT yX10_exchange cX10_exchange 4 (some .int) 3 := ⟨tw_in (List.mem_of_getElem? (i := 350) (rfl)) rfl, ini_RX10, by decide +kernel⟩
set_option maxRecDepth 20000 in
theorem mt_X10_cut : MT yX10_cut cX10_cut 2 (some .int) 1 := ⟨tw_in (List.mem_of_getElem? (i := 354) (rfl)) rfl, ini_RX10, by decide +kernel⟩
set_option maxRecDepth 20000 in
theorem mt_X10_atEnd : MT yX10_atEnd cX10_atEnd 1 (some .boolean) 0 := ⟨tw_in (List.mem_of_getElem? (i := 358) (rfl)) rfl, ini_RX10, by decide +kernel⟩
set_option maxRecDepth 20000 in
theorem mt_X2_fell : MT yX2_fell cX2_fell 4 (some .int) 1 := ⟨tw_in (List.mem_of_getElem? (i := 362) (rfl)) rfl, ini_RX2, by decide +kernel⟩
set_option maxRecDepth 20000 in
theorem math_max_code : Cond.code Lib.Math.max.name Lib.Math.max.code 2 (some .int) ∈ TW := tw_in (List.mem_of_getElem? (i := 365) (rfl)) rfl
theorem math_max_st : Cond.static Lib.Math.max.name ∈ TW := tw_in (List.mem_of_getElem? (i := 364) (by decide +kernel)) rfl
set_option maxRecDepth 20000 in
theorem math_min_code : Cond.code Lib.Math.min.name Lib.Math.min.code 2 (some .int) ∈ TW := tw_in (List.mem_of_getElem? (i := 368) (rfl)) rfl
theorem math_min_st : Cond.static Lib.Math.min.name ∈ TW := tw_in (List.mem_of_getElem? (i := 367) (by decide +kernel)) rfl
set_option maxRecDepth 20000 in
theorem mt_X10_rate : MT yX10_rate cX10_rate 3 (some .int) 1 := ⟨tw_in (List.mem_of_getElem? (i := 372) (rfl)) rfl, ini_RX10, by decide +kernel⟩
set_option maxRecDepth 20000 in
theorem mt_X10_cold : MT yX10_cold cX10_cold 4 (some .int) 3 := ⟨tw_in (List.mem_of_getElem? (i := 376) (rfl)) rfl, ini_RX10, by decide +kernel⟩
set_option maxRecDepth 20000 in
theorem mt_X3_addSpell : MT yX3_addSpell cX3_addSpell 4 (some .int) 3 := ⟨tw_in (List.mem_of_getElem? (i := 380) (rfl)) rfl, ini_RX3, by decide +kernel⟩
set_option maxRecDepth 20000 in
theorem mt_X10_go : MT yX10_go cX10_go 2 (some .boolean) 1 := ⟨tw_in (List.mem_of_getElem? (i := 384) (rfl)) rfl, ini_RX10, by decide +kernel⟩
set_option maxRecDepth 20000 in
theorem mt_X10_allEmpty : MT yX10_allEmpty cX10_allEmpty 2 (some .boolean) 0 := ⟨tw_in (List.mem_of_getElem? (i := 388) (rfl)) rfl, ini_RX10, by decide +kernel⟩
set_option maxRecDepth 20000 in
theorem mt_X7_isEmpty : MT yX7_isEmpty cX7_isEmpty 1 (some .boolean) 0 := ⟨tw_in (List.mem_of_getElem? (i := 392) (rfl)) rfl, ini_RX7, by decide +kernel⟩
set_option maxRecDepth 20000 in
theorem mt_X2_leaveFor : MT yX2_leaveFor cX2_leaveFor 2 none 1 := ⟨tw_in (List.mem_of_getElem? (i := 396) (rfl)) rfl, ini_RX2, by decide +kernel⟩
set_option maxRecDepth 20000 in
theorem mt_X10_feed : MT yX10_feed cX10_feed 6 (some .int) 5 := ⟨tw_in (List.mem_of_getElem? (i := 400) (rfl)) rfl, ini_RX10, by decide +kernel⟩
set_option maxRecDepth 20000 in
theorem mt_X9_hasRoom : MT yX9_hasRoom cX9_hasRoom 1 (some .boolean) 0 := ⟨tw_in (List.mem_of_getElem? (i := 404) (rfl)) rfl, ini_RX9, by decide +kernel⟩
set_option maxRecDepth 20000 in
theorem mt_X9_append : MT yX9_append cX9_append 3 none 1 := ⟨tw_in (List.mem_of_getElem? (i := 408) (rfl)) rfl, ini_RX9, by decide +kernel⟩
set_option maxRecDepth 20000 in
theorem mt_X10_end : MT yX10_end cX10_end 2 (some .int) 1 := ⟨tw_in (List.mem_of_getElem? (i := 412) (rfl)) rfl, ini_RX10, by decide +kernel⟩
set_option maxRecDepth 20000 in
theorem mt_X10_spans : MT yX10_spans cX10_spans 1 (some .int) 0 := ⟨tw_in (List.mem_of_getElem? (i := 416) (rfl)) rfl, ini_RX10, by decide +kernel⟩
set_option maxRecDepth 20000 in
theorem mt_X9_read : MT yX9_read cX9_read 2 none 0 := ⟨tw_in (List.mem_of_getElem? (i := 420) (rfl)) rfl, ini_RX9, by decide +kernel⟩
set_option maxRecDepth 20000 in
theorem mt_X9_skipBlanks : MT yX9_skipBlanks cX9_skipBlanks 2 none 0 := ⟨tw_in (List.mem_of_getElem? (i := 424) (rfl)) rfl, ini_RX9, by decide +kernel⟩
set_option maxRecDepth 20000 in
theorem mt_X9_readSpan : MT yX9_readSpan cX9_readSpan 6 (some .boolean) 0 := ⟨tw_in (List.mem_of_getElem? (i := 428) (rfl)) rfl, ini_RX9, by decide +kernel⟩
set_option maxRecDepth 20000 in
theorem mt_X9_skipLetters : MT yX9_skipLetters cX9_skipLetters 2 none 0 := ⟨tw_in (List.mem_of_getElem? (i := 432) (rfl)) rfl, ini_RX9, by decide +kernel⟩
set_option maxRecDepth 20000 in
theorem mt_X9_fail : MT yX9_fail cX9_fail 3 (some .boolean) 2 := ⟨tw_in (List.mem_of_getElem? (i := 437) (rfl)) rfl, ini_RX9, by decide +kernel⟩
set_option maxRecDepth 20000 in
theorem mt_X9_isTold : MT yX9_isTold cX9_isTold 4 (some .boolean) 2 := ⟨tw_in (List.mem_of_getElem? (i := 441) (rfl)) rfl, ini_RX9, by decide +kernel⟩
set_option maxRecDepth 20000 in
theorem mt_X9_sameBytes : MT yX9_sameBytes cX9_sameBytes 5 (some .boolean) 3 := ⟨tw_in (List.mem_of_getElem? (i := 445) (rfl)) rfl, ini_RX9, by decide +kernel⟩
set_option maxRecDepth 20000 in
theorem mt_X9_readNumber : MT yX9_readNumber cX9_readNumber 4 (some .int) 0 := ⟨tw_in (List.mem_of_getElem? (i := 449) (rfl)) rfl, ini_RX9, by decide +kernel⟩
set_option maxRecDepth 20000 in
theorem mt_X9_keepSpan : MT yX9_keepSpan cX9_keepSpan 5 none 4 := ⟨tw_in (List.mem_of_getElem? (i := 454) (rfl)) rfl, ini_RX9, by decide +kernel⟩
set_option maxRecDepth 20000 in
theorem mt_X1_take : MT yX1_take cX1_take 3 none 1 := ⟨tw_in (List.mem_of_getElem? (i := 458) (rfl)) rfl, ini_RX1, by decide +kernel⟩
set_option maxRecDepth 20000 in
theorem mt_X10_lay : MT yX10_lay cX10_lay 5 (some .int) 4 := ⟨tw_in (List.mem_of_getElem? (i := 462) (rfl)) rfl, ini_RX10, by decide +kernel⟩
set_option maxRecDepth 20000 in
theorem mt_X7_fill : MT yX7_fill cX7_fill 6 none 4 := ⟨tw_in (List.mem_of_getElem? (i := 466) (rfl)) rfl, ini_RX7, by decide +kernel⟩
set_option maxRecDepth 20000 in
theorem mt_X10_hundredths : MT yX10_hundredths cX10_hundredths 3 (some .int) 2 := ⟨tw_in (List.mem_of_getElem? (i := 469) (rfl)) rfl, ini_RX10, by decide +kernel⟩
set_option maxRecDepth 20000 in
theorem mt_X1_firstWith : MT yX1_firstWith cX1_firstWith 3 (some .int) 1 := ⟨tw_in (List.mem_of_getElem? (i := 473) (rfl)) rfl, ini_RX1, by decide +kernel⟩
set_option maxRecDepth 20000 in
theorem mt_X10_buy : MT yX10_buy cX10_buy 2 (some .int) 1 := ⟨tw_in (List.mem_of_getElem? (i := 478) (rfl)) rfl, ini_RX10, by decide +kernel⟩
set_option maxRecDepth 20000 in
theorem mt_X10_drop : MT yX10_drop cX10_drop 3 (some .int) 1 := ⟨tw_in (List.mem_of_getElem? (i := 483) (rfl)) rfl, ini_RX10, by decide +kernel⟩
set_option maxRecDepth 20000 in
theorem mt_X7_clear : MT yX7_clear cX7_clear 1 none 0 := ⟨tw_in (List.mem_of_getElem? (i := 487) (rfl)) rfl, ini_RX7, by decide +kernel⟩
set_option maxRecDepth 20000 in
theorem mt_X10_kind : MT yX10_kind cX10_kind 10 (some .boolean) 7 := ⟨tw_in (List.mem_of_getElem? (i := 491) (rfl)) rfl, ini_RX10, by decide +kernel⟩
set_option maxRecDepth 20000 in
theorem mt_X10_blow : MT yX10_blow cX10_blow 6 (some .int) 3 := ⟨tw_in (List.mem_of_getElem? (i := 495) (rfl)) rfl, ini_RX10, by decide +kernel⟩
set_option maxRecDepth 20000 in
theorem mt_X10_firstBayWithRoom : MT yX10_firstBayWithRoom cX10_firstBayWithRoom 2 (some .int) 0 := ⟨tw_in (List.mem_of_getElem? (i := 499) (rfl)) rfl, ini_RX10, by decide +kernel⟩
set_option maxRecDepth 20000 in
theorem mt_X0_hasRoom : MT yX0_hasRoom cX0_hasRoom 1 (some .boolean) 0 := ⟨tw_in (List.mem_of_getElem? (i := 503) (rfl)) rfl, ini_RX0, by decide +kernel⟩
set_option maxRecDepth 20000 in
theorem mt_X10_whyNotBlown : MT yX10_whyNotBlown cX10_whyNotBlown 5 (some .int) 4 := ⟨tw_in (List.mem_of_getElem? (i := 507) (rfl)) rfl, ini_RX10, by decide +kernel⟩
set_option maxRecDepth 20000 in
theorem mt_X7_isReady : MT yX7_isReady cX7_isReady 1 (some .boolean) 0 := ⟨tw_in (List.mem_of_getElem? (i := 511) (rfl)) rfl, ini_RX7, by decide +kernel⟩
set_option maxRecDepth 20000 in
theorem mt_X10_blowPiece : MT yX10_blowPiece cX10_blowPiece 7 none 4 := ⟨tw_in (List.mem_of_getElem? (i := 516) (rfl)) rfl, ini_RX10, by decide +kernel⟩
set_option maxRecDepth 20000 in
theorem mt_X6_init : MT yX6_init cX6_init 6 none 5 := ⟨tw_in (List.mem_of_getElem? (i := 520) (rfl)) rfl, ini_RX6, by decide +kernel⟩
set_option maxRecDepth 20000 in
theorem mt_X7_takeGlass : MT yX7_takeGlass cX7_takeGlass 2 none 1 := ⟨tw_in (List.mem_of_getElem? (i := 562) (rfl)) rfl, ini_RX7, by decide +kernel⟩
set_option maxRecDepth 20000 in
theorem mt_X4_latestBreaks : MT yX4_latestBreaks cX4_latestBreaks 1 (some .boolean) 0 := ⟨tw_in (List.mem_of_getElem? (i := 567) (rfl)) rfl, ini_RX4, by decide +kernel⟩
set_option maxRecDepth 20000 in
theorem mt_X0_put : MT yX0_put cX0_put 2 none 1 := ⟨tw_in (List.mem_of_getElem? (i := 571) (rfl)) rfl, ini_RX0, by decide +kernel⟩
set_option maxRecDepth 20000 in
theorem mt_X10_open : MT yX10_open cX10_open 3 (some .int) 1 := ⟨tw_in (List.mem_of_getElem? (i := 576) (rfl)) rfl, ini_RX10, by decide +kernel⟩
set_option maxRecDepth 20000 in
theorem mt_X0_breakAll : MT yX0_breakAll cX0_breakAll 4 (some .int) 0 := ⟨tw_in (List.mem_of_getElem? (i := 580) (rfl)) rfl, ini_RX0, by decide +kernel⟩
set_option maxRecDepth 20000 in
theorem mt_X10_pass : MT yX10_pass cX10_pass 3 (some .int) 1 := ⟨tw_in (List.mem_of_getElem? (i := 584) (rfl)) rfl, ini_RX10, by decide +kernel⟩
set_option maxRecDepth 20000 in
theorem mt_X10_stepHour : MT yX10_stepHour cX10_stepHour 2 none 0 := ⟨tw_in (List.mem_of_getElem? (i := 588) (rfl)) rfl, ini_RX10, by decide +kernel⟩
set_option maxRecDepth 20000 in
theorem mt_X2_takeFromStack : MT yX2_takeFromStack cX2_takeFromStack 3 (some .int) 1 := ⟨tw_in (List.mem_of_getElem? (i := 592) (rfl)) rfl, ini_RX2, by decide +kernel⟩
set_option maxRecDepth 20000 in
theorem mt_X3_burn : MT yX3_burn cX3_burn 4 none 2 := ⟨tw_in (List.mem_of_getElem? (i := 596) (rfl)) rfl, ini_RX3, by decide +kernel⟩
set_option maxRecDepth 20000 in
theorem mt_X3_coldOf : MT yX3_coldOf cX3_coldOf 4 (some .int) 1 := ⟨tw_in (List.mem_of_getElem? (i := 600) (rfl)) rfl, ini_RX3, by decide +kernel⟩
set_option maxRecDepth 20000 in
theorem mt_X7_melt : MT yX7_melt cX7_melt 2 none 1 := ⟨tw_in (List.mem_of_getElem? (i := 607) (rfl)) rfl, ini_RX7, by decide +kernel⟩
set_option maxRecDepth 20000 in
theorem mt_X0_coolHour : MT yX0_coolHour cX0_coolHour 4 none 0 := ⟨tw_in (List.mem_of_getElem? (i := 613) (rfl)) rfl, ini_RX0, by decide +kernel⟩
set_option maxRecDepth 20000 in
theorem mt_X2_beginYear : MT yX2_beginYear cX2_beginYear 1 none 0 := ⟨tw_in (List.mem_of_getElem? (i := 617) (rfl)) rfl, ini_RX2, by decide +kernel⟩
set_option maxRecDepth 20000 in
theorem mt_X10_pot : MT yX10_pot cX10_pot 3 (some .int) 2 := ⟨tw_in (List.mem_of_getElem? (i := 622) (rfl)) rfl, ini_RX10, by decide +kernel⟩
set_option maxRecDepth 20000 in
theorem mt_X7_tell : MT yX7_tell cX7_tell 2 (some .int) 1 := ⟨tw_in (List.mem_of_getElem? (i := 626) (rfl)) rfl, ini_RX7, by decide +kernel⟩
set_option maxRecDepth 20000 in
theorem mt_X10_piece : MT yX10_piece cX10_piece 4 (some .int) 2 := ⟨tw_in (List.mem_of_getElem? (i := 630) (rfl)) rfl, ini_RX10, by decide +kernel⟩
set_option maxRecDepth 20000 in
theorem mt_X6_tell : MT yX6_tell cX6_tell 2 (some .int) 1 := ⟨tw_in (List.mem_of_getElem? (i := 634) (rfl)) rfl, ini_RX6, by decide +kernel⟩
set_option maxRecDepth 20000 in
theorem mt_X10_pay : MT yX10_pay cX10_pay 4 (some .int) 1 := ⟨tw_in (List.mem_of_getElem? (i := 638) (rfl)) rfl, ini_RX10, by decide +kernel⟩
set_option maxRecDepth 20000 in
theorem mt_X10_storedOf : MT yX10_storedOf cX10_storedOf 6 (some .int) 2 := ⟨tw_in (List.mem_of_getElem? (i := 642) (rfl)) rfl, ini_RX10, by decide +kernel⟩
set_option maxRecDepth 20000 in
theorem mt_X10_shift : MT yX10_shift cX10_shift 4 (some .int) 3 := ⟨tw_in (List.mem_of_getElem? (i := 646) (rfl)) rfl, ini_RX10, by decide +kernel⟩
set_option maxRecDepth 20000 in
theorem mt_X8_plan : MT yX8_plan cX8_plan 8 (some .int) 4 := ⟨tw_in (List.mem_of_getElem? (i := 650) (rfl)) rfl, ini_RX8, by decide +kernel⟩
set_option maxRecDepth 20000 in
theorem mt_X8_findUsable : MT yX8_findUsable cX8_findUsable 4 none 2 := ⟨tw_in (List.mem_of_getElem? (i := 654) (rfl)) rfl, ini_RX8, by decide +kernel⟩
set_option maxRecDepth 20000 in
theorem mt_X4_suits : MT yX4_suits cX4_suits 2 (some .boolean) 1 := ⟨tw_in (List.mem_of_getElem? (i := 658) (rfl)) rfl, ini_RX4, by decide +kernel⟩
set_option maxRecDepth 20000 in
theorem mt_X8_fillRow : MT yX8_fillRow cX8_fillRow 7 none 3 := ⟨tw_in (List.mem_of_getElem? (i := 662) (rfl)) rfl, ini_RX8, by decide +kernel⟩
set_option maxRecDepth 20000 in
theorem mt_X8_addOneMore : MT yX8_addOneMore cX8_addOneMore 13 none 5 := ⟨tw_in (List.mem_of_getElem? (i := 666) (rfl)) rfl, ini_RX8, by decide +kernel⟩
set_option maxRecDepth 20000 in
theorem mt_X8_keep : MT yX8_keep cX8_keep 7 (some .int) 2 := ⟨tw_in (List.mem_of_getElem? (i := 671) (rfl)) rfl, ini_RX8, by decide +kernel⟩
set_option maxRecDepth 20000 in
theorem mt_X10_shifted : MT yX10_shifted cX10_shifted 2 (some .int) 1 := ⟨tw_in (List.mem_of_getElem? (i := 676) (rfl)) rfl, ini_RX10, by decide +kernel⟩
set_option maxRecDepth 20000 in
theorem mt_X8_tell : MT yX8_tell cX8_tell 2 (some .int) 1 := ⟨tw_in (List.mem_of_getElem? (i := 680) (rfl)) rfl, ini_RX8, by decide +kernel⟩
set_option maxRecDepth 20000 in
theorem mt_X10_cost : MT yX10_cost cX10_cost 4 (some .int) 3 := ⟨tw_in (List.mem_of_getElem? (i := 685) (rfl)) rfl, ini_RX10, by decide +kernel⟩
set_option maxRecDepth 20000 in
theorem mt_X10_way : MT yX10_way cX10_way 4 (some .int) 3 := ⟨tw_in (List.mem_of_getElem? (i := 690) (rfl)) rfl, ini_RX10, by decide +kernel⟩
set_option maxRecDepth 20000 in
theorem mt_X10_move : MT yX10_move cX10_move 2 (some .int) 1 := ⟨tw_in (List.mem_of_getElem? (i := 694) (rfl)) rfl, ini_RX10, by decide +kernel⟩
set_option maxRecDepth 20000 in
theorem mt_X5_plan : MT yX5_plan cX5_plan 6 (some .int) 2 := ⟨tw_in (List.mem_of_getElem? (i := 698) (rfl)) rfl, ini_RX5, by decide +kernel⟩
set_option maxRecDepth 20000 in
theorem mt_X5_nextSite : MT yX5_nextSite cX5_nextSite 5 (some .int) 2 := ⟨tw_in (List.mem_of_getElem? (i := 702) (rfl)) rfl, ini_RX5, by decide +kernel⟩
set_option maxRecDepth 20000 in
theorem mt_X5_sumBy : MT yX5_sumBy cX5_sumBy 4 (some .int) 3 := ⟨tw_in (List.mem_of_getElem? (i := 706) (rfl)) rfl, ini_RX5, by decide +kernel⟩
set_option maxRecDepth 20000 in
theorem mt_X10_moved : MT yX10_moved cX10_moved 2 (some .int) 1 := ⟨tw_in (List.mem_of_getElem? (i := 710) (rfl)) rfl, ini_RX10, by decide +kernel⟩
set_option maxRecDepth 20000 in
theorem mt_X10_count : MT yX10_count cX10_count 2 (some .int) 1 := ⟨tw_in (List.mem_of_getElem? (i := 714) (rfl)) rfl, ini_RX10, by decide +kernel⟩
set_option maxRecDepth 20000 in
theorem mt_X11_init : MT yX11_init cX11_init 2 none 0 := ⟨tw_in (List.mem_of_getElem? (i := 719) (rfl)) rfl, ini_RX11, by decide +kernel⟩
set_option maxRecDepth 20000 in
theorem mt_X11_right : MT yX11_right cX11_right 4 (some .int) 2 := ⟨tw_in (List.mem_of_getElem? (i := 902) (rfl)) rfl, ini_RX11, by decide +kernel⟩
set_option maxRecDepth 20000 in
theorem mt_X11_in : MT yX11_in cX11_in 3 (some .boolean) 3 := ⟨tw_in (List.mem_of_getElem? (i := 905) (rfl)) rfl, ini_RX11, by decide +kernel⟩
set_option maxRecDepth 20000 in
theorem mt_X11_cut : MT yX11_cut cX11_cut 3 (some .int) 1 := ⟨tw_in (List.mem_of_getElem? (i := 909) (rfl)) rfl, ini_RX11, by decide +kernel⟩
set_option maxRecDepth 20000 in
theorem mt_X11_rate : MT yX11_rate cX11_rate 3 (some .int) 1 := ⟨tw_in (List.mem_of_getElem? (i := 913) (rfl)) rfl, ini_RX11, by decide +kernel⟩
set_option maxRecDepth 20000 in
theorem mt_X11_cold : MT yX11_cold cX11_cold 4 (some .int) 3 := ⟨tw_in (List.mem_of_getElem? (i := 917) (rfl)) rfl, ini_RX11, by decide +kernel⟩
set_option maxRecDepth 20000 in
theorem mt_X11_go : MT yX11_go cX11_go 3 (some .boolean) 1 := ⟨tw_in (List.mem_of_getElem? (i := 921) (rfl)) rfl, ini_RX11, by decide +kernel⟩
set_option maxRecDepth 20000 in
theorem mt_X11_feed : MT yX11_feed cX11_feed 6 (some .int) 5 := ⟨tw_in (List.mem_of_getElem? (i := 925) (rfl)) rfl, ini_RX11, by decide +kernel⟩
set_option maxRecDepth 20000 in
theorem mt_X11_four : MT yX11_four cX11_four 3 none 1 := ⟨tw_in (List.mem_of_getElem? (i := 929) (rfl)) rfl, ini_RX11, by decide +kernel⟩
set_option maxRecDepth 20000 in
theorem mt_X11_end : MT yX11_end cX11_end 2 (some .int) 1 := ⟨tw_in (List.mem_of_getElem? (i := 933) (rfl)) rfl, ini_RX11, by decide +kernel⟩
set_option maxRecDepth 20000 in
theorem mt_X11_spans : MT yX11_spans cX11_spans 4 (some .int) 0 := ⟨tw_in (List.mem_of_getElem? (i := 937) (rfl)) rfl, ini_RX11, by decide +kernel⟩
set_option maxRecDepth 20000 in
theorem mt_X11_see : MT yX11_see cX11_see 1 (some .int) 0 := ⟨tw_in (List.mem_of_getElem? (i := 941) (rfl)) rfl, ini_RX11, by decide +kernel⟩
set_option maxRecDepth 20000 in
theorem mt_X11_span : MT yX11_span cX11_span 4 (some .boolean) 0 := ⟨tw_in (List.mem_of_getElem? (i := 945) (rfl)) rfl, ini_RX11, by decide +kernel⟩
set_option maxRecDepth 20000 in
theorem mt_X11_fails : MT yX11_fails cX11_fails 3 (some .boolean) 2 := ⟨tw_in (List.mem_of_getElem? (i := 949) (rfl)) rfl, ini_RX11, by decide +kernel⟩
set_option maxRecDepth 20000 in
theorem mt_X11_isTwice : MT yX11_isTwice cX11_isTwice 6 (some .boolean) 2 := ⟨tw_in (List.mem_of_getElem? (i := 953) (rfl)) rfl, ini_RX11, by decide +kernel⟩
set_option maxRecDepth 20000 in
theorem mt_X11_number : MT yX11_number cX11_number 6 (some .boolean) 2 := ⟨tw_in (List.mem_of_getElem? (i := 957) (rfl)) rfl, ini_RX11, by decide +kernel⟩
set_option maxRecDepth 20000 in
theorem mt_X11_isDigit : MT yX11_isDigit cX11_isDigit 1 (some .boolean) 1 := ⟨tw_in (List.mem_of_getElem? (i := 960) (rfl)) rfl, ini_RX11, by decide +kernel⟩
set_option maxRecDepth 20000 in
theorem mt_X11_lay : MT yX11_lay cX11_lay 7 (some .int) 4 := ⟨tw_in (List.mem_of_getElem? (i := 964) (rfl)) rfl, ini_RX11, by decide +kernel⟩
set_option maxRecDepth 20000 in
theorem mt_X11_isPot : MT yX11_isPot cX11_isPot 1 (some .boolean) 1 := ⟨tw_in (List.mem_of_getElem? (i := 967) (rfl)) rfl, ini_RX11, by decide +kernel⟩
set_option maxRecDepth 20000 in
theorem mt_X11_buy : MT yX11_buy cX11_buy 2 (some .int) 1 := ⟨tw_in (List.mem_of_getElem? (i := 971) (rfl)) rfl, ini_RX11, by decide +kernel⟩
set_option maxRecDepth 20000 in
theorem mt_X11_drop : MT yX11_drop cX11_drop 2 (some .int) 1 := ⟨tw_in (List.mem_of_getElem? (i := 976) (rfl)) rfl, ini_RX11, by decide +kernel⟩
set_option maxRecDepth 20000 in
theorem mt_X11_pot : MT yX11_pot cX11_pot 3 (some .int) 2 := ⟨tw_in (List.mem_of_getElem? (i := 980) (rfl)) rfl, ini_RX11, by decide +kernel⟩
set_option maxRecDepth 20000 in
theorem mt_X11_isReady : MT yX11_isReady cX11_isReady 2 (some .boolean) 1 := ⟨tw_in (List.mem_of_getElem? (i := 984) (rfl)) rfl, ini_RX11, by decide +kernel⟩
set_option maxRecDepth 20000 in
theorem mt_X11_kind : MT yX11_kind cX11_kind 8 (some .boolean) 7 := ⟨tw_in (List.mem_of_getElem? (i := 988) (rfl)) rfl, ini_RX11, by decide +kernel⟩
set_option maxRecDepth 20000 in
theorem mt_X11_blow : MT yX11_blow cX11_blow 6 (some .int) 3 := ⟨tw_in (List.mem_of_getElem? (i := 992) (rfl)) rfl, ini_RX11, by decide +kernel⟩
set_option maxRecDepth 20000 in
theorem mt_X11_firstBay : MT yX11_firstBay cX11_firstBay 2 (some .int) 0 := ⟨tw_in (List.mem_of_getElem? (i := 996) (rfl)) rfl, ini_RX11, by decide +kernel⟩
set_option maxRecDepth 20000 in
theorem mt_X11_open : MT yX11_open cX11_open 4 (some .int) 1 := ⟨tw_in (List.mem_of_getElem? (i := 1000) (rfl)) rfl, ini_RX11, by decide +kernel⟩
set_option maxRecDepth 20000 in
theorem mt_X11_pass : MT yX11_pass cX11_pass 3 (some .int) 1 := ⟨tw_in (List.mem_of_getElem? (i := 1004) (rfl)) rfl, ini_RX11, by decide +kernel⟩
set_option maxRecDepth 20000 in
theorem mt_X11_hour : MT yX11_hour cX11_hour 4 none 0 := ⟨tw_in (List.mem_of_getElem? (i := 1008) (rfl)) rfl, ini_RX11, by decide +kernel⟩
set_option maxRecDepth 20000 in
theorem mt_X11_piece : MT yX11_piece cX11_piece 3 (some .int) 2 := ⟨tw_in (List.mem_of_getElem? (i := 1012) (rfl)) rfl, ini_RX11, by decide +kernel⟩
set_option maxRecDepth 20000 in
theorem mt_X11_pay : MT yX11_pay cX11_pay 6 (some .int) 1 := ⟨tw_in (List.mem_of_getElem? (i := 1016) (rfl)) rfl, ini_RX11, by decide +kernel⟩
set_option maxRecDepth 20000 in
theorem mt_X11_shift : MT yX11_shift cX11_shift 13 (some .int) 3 := ⟨tw_in (List.mem_of_getElem? (i := 1020) (rfl)) rfl, ini_RX11, by decide +kernel⟩
set_option maxRecDepth 20000 in
theorem mt_X11_isOf : MT yX11_isOf cX11_isOf 3 (some .boolean) 2 := ⟨tw_in (List.mem_of_getElem? (i := 1026) (rfl)) rfl, ini_RX11, by decide +kernel⟩
set_option maxRecDepth 20000 in
theorem mt_X11_shifted : MT yX11_shifted cX11_shifted 2 (some .int) 1 := ⟨tw_in (List.mem_of_getElem? (i := 1031) (rfl)) rfl, ini_RX11, by decide +kernel⟩
set_option maxRecDepth 20000 in
theorem mt_X11_cost : MT yX11_cost cX11_cost 5 (some .int) 3 := ⟨tw_in (List.mem_of_getElem? (i := 1035) (rfl)) rfl, ini_RX11, by decide +kernel⟩
set_option maxRecDepth 20000 in
theorem mt_X11_way : MT yX11_way cX11_way 5 (some .int) 3 := ⟨tw_in (List.mem_of_getElem? (i := 1039) (rfl)) rfl, ini_RX11, by decide +kernel⟩
set_option maxRecDepth 20000 in
theorem mt_X11_move : MT yX11_move cX11_move 5 (some .int) 1 := ⟨tw_in (List.mem_of_getElem? (i := 1043) (rfl)) rfl, ini_RX11, by decide +kernel⟩
set_option maxRecDepth 20000 in
theorem mt_X11_from : MT yX11_from cX11_from 6 (some .int) 2 := ⟨tw_in (List.mem_of_getElem? (i := 1047) (rfl)) rfl, ini_RX11, by decide +kernel⟩
set_option maxRecDepth 20000 in
theorem mt_X11_moved : MT yX11_moved cX11_moved 2 (some .int) 1 := ⟨tw_in (List.mem_of_getElem? (i := 1052) (rfl)) rfl, ini_RX11, by decide +kernel⟩
set_option maxRecDepth 20000 in
theorem mt_X11_count : MT yX11_count cX11_count 2 (some .int) 1 := ⟨tw_in (List.mem_of_getElem? (i := 1056) (rfl)) rfl, ini_RX11, by decide +kernel⟩
theorem cl_RL_7 : Cond.classLink RL 7 RX10 ∈ TW := tw_in (List.mem_of_getElem? (i := 33) (by decide +kernel)) rfl
theorem ins_RX10 : Cond.instantiable RX10 15 ∈ TW := tw_in (List.mem_of_getElem? (i := 34) (by decide +kernel)) rfl
theorem lk_RL_9 : LI RL 9 yX10_init := ⟨tw_in (List.mem_of_getElem? (i := 35) (by decide +kernel)) rfl, tw_in (List.mem_of_getElem? (i := 36) (by decide +kernel)) rfl, rfl⟩
theorem lk_RX10_1 : Cond.methodLink RX10 1 objectInit ∈ TW := tw_in (List.mem_of_getElem? (i := 38) (by decide +kernel)) rfl
theorem cl_RX10_7 : Cond.classLink RX10 7 RX2 ∈ TW := tw_in (List.mem_of_getElem? (i := 41) (by decide +kernel)) rfl
theorem ins_RX2 : Cond.instantiable RX2 4 ∈ TW := tw_in (List.mem_of_getElem? (i := 42) (by decide +kernel)) rfl
theorem lk_RX10_9 : LNI RX10 9 yX2_init RX10 := ⟨List.mem_filter.mpr ⟨List.mem_of_getElem? (i := 43) (by decide +kernel), rfl⟩, tw_in (List.mem_of_getElem? (i := 44) (by decide +kernel)) rfl, rfl⟩
theorem lk_RX2_3 : Cond.methodLink RX2 3 objectInit ∈ TW := tw_in (List.mem_of_getElem? (i := 46) (by decide +kernel)) rfl
theorem fl_RX2_9 : FL RX2 9 2 0 true := ⟨_, rfl, by decide, rfl, tw_in (List.mem_of_getElem? (i := 47) (by decide +kernel)) rfl⟩
theorem fl_RX2_15 : FL RX2 15 2 1 true := ⟨_, rfl, by decide, rfl, tw_in (List.mem_of_getElem? (i := 48) (by decide +kernel)) rfl⟩
theorem fl_RX10_254 : FL RX10 254 2 1 true := ⟨_, rfl, by decide, rfl, tw_in (List.mem_of_getElem? (i := 49) (by decide +kernel)) rfl⟩
theorem fl_RX2_22 : FL RX2 22 2 2 false := ⟨_, rfl, by decide, rfl, tw_in (List.mem_of_getElem? (i := 50) (by decide +kernel)) rfl⟩
theorem fl_RX10_112 : FL RX10 112 2 2 false := ⟨_, rfl, by decide, rfl, tw_in (List.mem_of_getElem? (i := 51) (by decide +kernel)) rfl⟩
theorem fl_RX2_32 : FL RX2 32 2 3 false := ⟨_, rfl, by decide, rfl, tw_in (List.mem_of_getElem? (i := 52) (by decide +kernel)) rfl⟩
theorem fl_RX10_251 : FL RX10 251 2 3 false := ⟨_, rfl, by decide, rfl, tw_in (List.mem_of_getElem? (i := 53) (by decide +kernel)) rfl⟩
theorem ac_int : Cond.arrayClass .int ∈ TW := tw_in (List.mem_of_getElem? (i := 63) (by decide +kernel)) rfl
theorem cl_RX10_16 : Cond.classLink RX10 16 RX3 ∈ TW := tw_in (List.mem_of_getElem? (i := 64) (by decide +kernel)) rfl
theorem ins_RX3 : Cond.instantiable RX3 6 ∈ TW := tw_in (List.mem_of_getElem? (i := 65) (by decide +kernel)) rfl
theorem lk_RX10_18 : LNI RX10 18 yX3_init RX10 := ⟨List.mem_filter.mpr ⟨List.mem_of_getElem? (i := 66) (by decide +kernel), rfl⟩, tw_in (List.mem_of_getElem? (i := 67) (by decide +kernel)) rfl, rfl⟩
theorem lk_RX3_3 : Cond.methodLink RX3 3 objectInit ∈ TW := tw_in (List.mem_of_getElem? (i := 69) (by decide +kernel)) rfl
theorem fl_RX3_11 : FL RX3 11 3 0 true := ⟨_, rfl, by decide, rfl, tw_in (List.mem_of_getElem? (i := 70) (by decide +kernel)) rfl⟩
theorem fl_RX3_15 : FL RX3 15 3 1 true := ⟨_, rfl, by decide, rfl, tw_in (List.mem_of_getElem? (i := 71) (by decide +kernel)) rfl⟩
theorem fl_RX3_18 : FL RX3 18 3 2 true := ⟨_, rfl, by decide, rfl, tw_in (List.mem_of_getElem? (i := 72) (by decide +kernel)) rfl⟩
theorem fl_RX3_21 : FL RX3 21 3 3 false := ⟨_, rfl, by decide, rfl, tw_in (List.mem_of_getElem? (i := 73) (by decide +kernel)) rfl⟩
theorem fl_RX10_104 : FL RX10 104 3 4 false := ⟨_, rfl, by decide, rfl, tw_in (List.mem_of_getElem? (i := 74) (by decide +kernel)) rfl⟩
theorem fl_RX3_25 : FL RX3 25 3 5 false := ⟨_, rfl, by decide, rfl, tw_in (List.mem_of_getElem? (i := 75) (by decide +kernel)) rfl⟩
theorem fl_RX10_122 : FL RX10 122 3 5 false := ⟨_, rfl, by decide, rfl, tw_in (List.mem_of_getElem? (i := 76) (by decide +kernel)) rfl⟩
theorem cl_RX10_23 : Cond.classLink RX10 23 RX9 ∈ TW := tw_in (List.mem_of_getElem? (i := 90) (by decide +kernel)) rfl
theorem ins_RX9 : Cond.instantiable RX9 9 ∈ TW := tw_in (List.mem_of_getElem? (i := 91) (by decide +kernel)) rfl
theorem lk_RX10_25 : LNI RX10 25 yX9_init RX10 := ⟨List.mem_filter.mpr ⟨List.mem_of_getElem? (i := 92) (by decide +kernel), rfl⟩, tw_in (List.mem_of_getElem? (i := 93) (by decide +kernel)) rfl, rfl⟩
theorem lk_RX9_3 : Cond.methodLink RX9 3 objectInit ∈ TW := tw_in (List.mem_of_getElem? (i := 95) (by decide +kernel)) rfl
theorem fl_RX9_11 : FL RX9 11 9 0 true := ⟨_, rfl, by decide, rfl, tw_in (List.mem_of_getElem? (i := 96) (by decide +kernel)) rfl⟩
theorem fl_RX9_15 : FL RX9 15 9 1 true := ⟨_, rfl, by decide, rfl, tw_in (List.mem_of_getElem? (i := 97) (by decide +kernel)) rfl⟩
theorem fl_RX9_18 : FL RX9 18 9 2 true := ⟨_, rfl, by decide, rfl, tw_in (List.mem_of_getElem? (i := 98) (by decide +kernel)) rfl⟩
theorem fl_RX9_21 : FL RX9 21 9 3 true := ⟨_, rfl, by decide, rfl, tw_in (List.mem_of_getElem? (i := 99) (by decide +kernel)) rfl⟩
theorem fl_RX1_25 : FL RX1 25 9 3 true := ⟨_, rfl, by decide, rfl, tw_in (List.mem_of_getElem? (i := 100) (by decide +kernel)) rfl⟩
theorem fl_RX9_24 : FL RX9 24 9 4 true := ⟨_, rfl, by decide, rfl, tw_in (List.mem_of_getElem? (i := 101) (by decide +kernel)) rfl⟩
theorem fl_RX1_26 : FL RX1 26 9 4 true := ⟨_, rfl, by decide, rfl, tw_in (List.mem_of_getElem? (i := 102) (by decide +kernel)) rfl⟩
theorem fl_RX9_27 : FL RX9 27 9 5 false := ⟨_, rfl, by decide, rfl, tw_in (List.mem_of_getElem? (i := 103) (by decide +kernel)) rfl⟩
theorem fl_RX10_131 : FL RX10 131 9 5 false := ⟨_, rfl, by decide, rfl, tw_in (List.mem_of_getElem? (i := 104) (by decide +kernel)) rfl⟩
theorem fl_RX1_18 : FL RX1 18 9 6 false := ⟨_, rfl, by decide, rfl, tw_in (List.mem_of_getElem? (i := 105) (by decide +kernel)) rfl⟩
theorem fl_RX9_34 : FL RX9 34 9 6 false := ⟨_, rfl, by decide, rfl, tw_in (List.mem_of_getElem? (i := 106) (by decide +kernel)) rfl⟩
theorem fl_RX9_31 : FL RX9 31 9 7 false := ⟨_, rfl, by decide, rfl, tw_in (List.mem_of_getElem? (i := 107) (by decide +kernel)) rfl⟩
theorem fl_RX9_37 : FL RX9 37 9 8 false := ⟨_, rfl, by decide, rfl, tw_in (List.mem_of_getElem? (i := 108) (by decide +kernel)) rfl⟩
theorem fl_RX10_137 : FL RX10 137 9 8 false := ⟨_, rfl, by decide, rfl, tw_in (List.mem_of_getElem? (i := 109) (by decide +kernel)) rfl⟩
theorem cl_RX10_30 : Cond.classLink RX10 30 RX1 ∈ TW := tw_in (List.mem_of_getElem? (i := 129) (by decide +kernel)) rfl
theorem ins_RX1 : Cond.instantiable RX1 3 ∈ TW := tw_in (List.mem_of_getElem? (i := 130) (by decide +kernel)) rfl
theorem lk_RX10_32 : LNI RX10 32 yX1_init RX10 := ⟨List.mem_filter.mpr ⟨List.mem_of_getElem? (i := 131) (by decide +kernel), rfl⟩, tw_in (List.mem_of_getElem? (i := 132) (by decide +kernel)) rfl, rfl⟩
theorem lk_RX1_3 : Cond.methodLink RX1 3 objectInit ∈ TW := tw_in (List.mem_of_getElem? (i := 134) (by decide +kernel)) rfl
theorem fl_RX1_9 : FL RX1 9 1 0 true := ⟨_, rfl, by decide, rfl, tw_in (List.mem_of_getElem? (i := 135) (by decide +kernel)) rfl⟩
theorem fl_RX1_15 : FL RX1 15 1 1 true := ⟨_, rfl, by decide, rfl, tw_in (List.mem_of_getElem? (i := 136) (by decide +kernel)) rfl⟩
theorem fl_RX1_24 : FL RX1 24 1 2 false := ⟨_, rfl, by decide, rfl, tw_in (List.mem_of_getElem? (i := 137) (by decide +kernel)) rfl⟩
theorem fl_RX10_144 : FL RX10 144 1 2 false := ⟨_, rfl, by decide, rfl, tw_in (List.mem_of_getElem? (i := 138) (by decide +kernel)) rfl⟩
theorem cl_RX10_37 : Cond.classLink RX10 37 RX7 ∈ TW := tw_in (List.mem_of_getElem? (i := 146) (by decide +kernel)) rfl
theorem ao_RX7 : Cond.arrayOver (.object RX7) ∈ NW := List.mem_filter.mpr ⟨List.mem_of_getElem? (i := 147) (by decide +kernel), rfl⟩
theorem ins_RX7 : Cond.instantiable RX7 5 ∈ TW := tw_in (List.mem_of_getElem? (i := 148) (by decide +kernel)) rfl
theorem lk_RX10_43 : LNI RX10 43 yX7_init RX10 := ⟨List.mem_filter.mpr ⟨List.mem_of_getElem? (i := 149) (by decide +kernel), rfl⟩, tw_in (List.mem_of_getElem? (i := 150) (by decide +kernel)) rfl, rfl⟩
theorem lk_RX7_3 : Cond.methodLink RX7 3 objectInit ∈ TW := tw_in (List.mem_of_getElem? (i := 152) (by decide +kernel)) rfl
theorem fl_RX7_9 : FL RX7 9 7 0 false := ⟨_, rfl, by decide, rfl, tw_in (List.mem_of_getElem? (i := 153) (by decide +kernel)) rfl⟩
theorem fl_RX10_277 : FL RX10 277 7 0 false := ⟨_, rfl, by decide, rfl, tw_in (List.mem_of_getElem? (i := 154) (by decide +kernel)) rfl⟩
theorem fl_RX7_28 : FL RX7 28 7 1 false := ⟨_, rfl, by decide, rfl, tw_in (List.mem_of_getElem? (i := 155) (by decide +kernel)) rfl⟩
theorem fl_RX10_169 : FL RX10 169 7 1 false := ⟨_, rfl, by decide, rfl, tw_in (List.mem_of_getElem? (i := 156) (by decide +kernel)) rfl⟩
theorem fl_RX7_22 : FL RX7 22 7 2 false := ⟨_, rfl, by decide, rfl, tw_in (List.mem_of_getElem? (i := 157) (by decide +kernel)) rfl⟩
theorem fl_RX7_25 : FL RX7 25 7 3 false := ⟨_, rfl, by decide, rfl, tw_in (List.mem_of_getElem? (i := 158) (by decide +kernel)) rfl⟩
theorem fl_RX7_15 : FL RX7 15 7 4 false := ⟨_, rfl, by decide, rfl, tw_in (List.mem_of_getElem? (i := 159) (by decide +kernel)) rfl⟩
theorem fl_RX10_165 : FL RX10 165 7 4 false := ⟨_, rfl, by decide, rfl, tw_in (List.mem_of_getElem? (i := 160) (by decide +kernel)) rfl⟩
theorem cl_RX10_44 : Cond.classLink RX10 44 RX4 ∈ TW := tw_in (List.mem_of_getElem? (i := 172) (by decide +kernel)) rfl
theorem ao_RX4 : Cond.arrayOver (.object RX4) ∈ NW := List.mem_filter.mpr ⟨List.mem_of_getElem? (i := 173) (by decide +kernel), rfl⟩
theorem ins_RX4 : Cond.instantiable RX4 8 ∈ TW := tw_in (List.mem_of_getElem? (i := 174) (by decide +kernel)) rfl
theorem lk_RX10_50 : LNI RX10 50 yX4_init RX10 := ⟨List.mem_filter.mpr ⟨List.mem_of_getElem? (i := 175) (by decide +kernel), rfl⟩, tw_in (List.mem_of_getElem? (i := 176) (by decide +kernel)) rfl, rfl⟩
theorem lk_RX4_3 : Cond.methodLink RX4 3 objectInit ∈ TW := tw_in (List.mem_of_getElem? (i := 178) (by decide +kernel)) rfl
theorem fl_RX4_18 : FL RX4 18 4 0 false := ⟨_, rfl, by decide, rfl, tw_in (List.mem_of_getElem? (i := 179) (by decide +kernel)) rfl⟩
theorem fl_RX10_175 : FL RX10 175 4 0 false := ⟨_, rfl, by decide, rfl, tw_in (List.mem_of_getElem? (i := 180) (by decide +kernel)) rfl⟩
theorem fl_RX6_30 : FL RX6 30 4 1 false := ⟨_, rfl, by decide, rfl, tw_in (List.mem_of_getElem? (i := 181) (by decide +kernel)) rfl⟩
theorem fl_RX8_51 : FL RX8 51 4 1 false := ⟨_, rfl, by decide, rfl, tw_in (List.mem_of_getElem? (i := 182) (by decide +kernel)) rfl⟩
theorem fl_RX10_179 : FL RX10 179 4 1 false := ⟨_, rfl, by decide, rfl, tw_in (List.mem_of_getElem? (i := 183) (by decide +kernel)) rfl⟩
theorem fl_RX8_63 : FL RX8 63 4 2 false := ⟨_, rfl, by decide, rfl, tw_in (List.mem_of_getElem? (i := 184) (by decide +kernel)) rfl⟩
theorem fl_RX10_182 : FL RX10 182 4 2 false := ⟨_, rfl, by decide, rfl, tw_in (List.mem_of_getElem? (i := 185) (by decide +kernel)) rfl⟩
theorem fl_RX8_58 : FL RX8 58 4 3 false := ⟨_, rfl, by decide, rfl, tw_in (List.mem_of_getElem? (i := 186) (by decide +kernel)) rfl⟩
theorem fl_RX10_185 : FL RX10 185 4 3 false := ⟨_, rfl, by decide, rfl, tw_in (List.mem_of_getElem? (i := 187) (by decide +kernel)) rfl⟩
theorem fl_RX4_22 : FL RX4 22 4 4 false := ⟨_, rfl, by decide, rfl, tw_in (List.mem_of_getElem? (i := 188) (by decide +kernel)) rfl⟩
theorem fl_RX10_188 : FL RX10 188 4 4 false := ⟨_, rfl, by decide, rfl, tw_in (List.mem_of_getElem? (i := 189) (by decide +kernel)) rfl⟩
theorem fl_RX4_9 : FL RX4 9 4 5 false := ⟨_, rfl, by decide, rfl, tw_in (List.mem_of_getElem? (i := 190) (by decide +kernel)) rfl⟩
theorem fl_RX10_189 : FL RX10 189 4 5 false := ⟨_, rfl, by decide, rfl, tw_in (List.mem_of_getElem? (i := 191) (by decide +kernel)) rfl⟩
theorem fl_RX6_36 : FL RX6 36 4 6 false := ⟨_, rfl, by decide, rfl, tw_in (List.mem_of_getElem? (i := 192) (by decide +kernel)) rfl⟩
theorem fl_RX10_192 : FL RX10 192 4 6 false := ⟨_, rfl, by decide, rfl, tw_in (List.mem_of_getElem? (i := 193) (by decide +kernel)) rfl⟩
theorem fl_RX4_15 : FL RX4 15 4 7 false := ⟨_, rfl, by decide, rfl, tw_in (List.mem_of_getElem? (i := 194) (by decide +kernel)) rfl⟩
theorem fl_RX10_250 : FL RX10 250 4 7 false := ⟨_, rfl, by decide, rfl, tw_in (List.mem_of_getElem? (i := 195) (by decide +kernel)) rfl⟩
theorem cl_RX10_51 : Cond.classLink RX10 51 RX0 ∈ TW := tw_in (List.mem_of_getElem? (i := 213) (by decide +kernel)) rfl
theorem ao_RX0 : Cond.arrayOver (.object RX0) ∈ NW := List.mem_filter.mpr ⟨List.mem_of_getElem? (i := 214) (by decide +kernel), rfl⟩
theorem ins_RX0 : Cond.instantiable RX0 2 ∈ TW := tw_in (List.mem_of_getElem? (i := 215) (by decide +kernel)) rfl
theorem lk_RX10_57 : LNI RX10 57 yX0_init RX10 := ⟨List.mem_filter.mpr ⟨List.mem_of_getElem? (i := 216) (by decide +kernel), rfl⟩, tw_in (List.mem_of_getElem? (i := 217) (by decide +kernel)) rfl, rfl⟩
theorem lk_RX0_1 : Cond.methodLink RX0 1 objectInit ∈ TW := tw_in (List.mem_of_getElem? (i := 219) (by decide +kernel)) rfl
theorem cl_RX0_9 : Cond.classLink RX0 9 RX6 ∈ TW := tw_in (List.mem_of_getElem? (i := 220) (by decide +kernel)) rfl
theorem ao_RX6 : Cond.arrayOver (.object RX6) ∈ NW := List.mem_filter.mpr ⟨List.mem_of_getElem? (i := 221) (by decide +kernel), rfl⟩
theorem fl_RX0_11 : FL RX0 11 0 0 true := ⟨_, rfl, by decide, rfl, tw_in (List.mem_of_getElem? (i := 222) (by decide +kernel)) rfl⟩
theorem fl_RX0_15 : FL RX0 15 0 1 false := ⟨_, rfl, by decide, rfl, tw_in (List.mem_of_getElem? (i := 223) (by decide +kernel)) rfl⟩
theorem fl_RX10_207 : FL RX10 207 0 1 false := ⟨_, rfl, by decide, rfl, tw_in (List.mem_of_getElem? (i := 224) (by decide +kernel)) rfl⟩
theorem lk_RX10_62 : LkS RX10 62 yJ7_fill_53178 := ⟨tw_in (List.mem_of_getElem? (i := 230) (by decide +kernel)) rfl, tw_in (List.mem_of_getElem? (i := 231) (by decide +kernel)) rfl⟩
theorem cl_RX10_68 : Cond.classLink RX10 68 RX6 ∈ TW := tw_in (List.mem_of_getElem? (i := 233) (by decide +kernel)) rfl
theorem cl_RX10_74 : Cond.classLink RX10 74 RX8 ∈ TW := tw_in (List.mem_of_getElem? (i := 234) (by decide +kernel)) rfl
theorem ins_RX8 : Cond.instantiable RX8 8 ∈ TW := tw_in (List.mem_of_getElem? (i := 235) (by decide +kernel)) rfl
theorem lk_RX10_76 : LNI RX10 76 yX8_init RX10 := ⟨List.mem_filter.mpr ⟨List.mem_of_getElem? (i := 236) (by decide +kernel), rfl⟩, tw_in (List.mem_of_getElem? (i := 237) (by decide +kernel)) rfl, rfl⟩
theorem lk_RX8_3 : Cond.methodLink RX8 3 objectInit ∈ TW := tw_in (List.mem_of_getElem? (i := 239) (by decide +kernel)) rfl
theorem fl_RX8_26 : FL RX8 26 8 0 false := ⟨_, rfl, by decide, rfl, tw_in (List.mem_of_getElem? (i := 240) (by decide +kernel)) rfl⟩
theorem fl_RX8_30 : FL RX8 30 8 1 false := ⟨_, rfl, by decide, rfl, tw_in (List.mem_of_getElem? (i := 241) (by decide +kernel)) rfl⟩
theorem fl_RX8_9 : FL RX8 9 8 2 true := ⟨_, rfl, by decide, rfl, tw_in (List.mem_of_getElem? (i := 242) (by decide +kernel)) rfl⟩
theorem fl_RX8_15 : FL RX8 15 8 3 true := ⟨_, rfl, by decide, rfl, tw_in (List.mem_of_getElem? (i := 243) (by decide +kernel)) rfl⟩
theorem fl_RX8_22 : FL RX8 22 8 4 false := ⟨_, rfl, by decide, rfl, tw_in (List.mem_of_getElem? (i := 244) (by decide +kernel)) rfl⟩
theorem fl_RX8_37 : FL RX8 37 8 5 false := ⟨_, rfl, by decide, rfl, tw_in (List.mem_of_getElem? (i := 245) (by decide +kernel)) rfl⟩
theorem fl_RX8_66 : FL RX8 66 8 6 false := ⟨_, rfl, by decide, rfl, tw_in (List.mem_of_getElem? (i := 246) (by decide +kernel)) rfl⟩
theorem fl_RX8_69 : FL RX8 69 8 7 false := ⟨_, rfl, by decide, rfl, tw_in (List.mem_of_getElem? (i := 247) (by decide +kernel)) rfl⟩
theorem cl_RX10_81 : Cond.classLink RX10 81 RX5 ∈ TW := tw_in (List.mem_of_getElem? (i := 265) (by decide +kernel)) rfl
theorem ins_RX5 : Cond.instantiable RX5 5 ∈ TW := tw_in (List.mem_of_getElem? (i := 266) (by decide +kernel)) rfl
theorem lk_RX10_83 : LNI RX10 83 yX5_init RX10 := ⟨List.mem_filter.mpr ⟨List.mem_of_getElem? (i := 267) (by decide +kernel), rfl⟩, tw_in (List.mem_of_getElem? (i := 268) (by decide +kernel)) rfl, rfl⟩
theorem lk_RX5_3 : Cond.methodLink RX5 3 objectInit ∈ TW := tw_in (List.mem_of_getElem? (i := 270) (by decide +kernel)) rfl
theorem fl_RX5_9 : FL RX5 9 5 0 true := ⟨_, rfl, by decide, rfl, tw_in (List.mem_of_getElem? (i := 271) (by decide +kernel)) rfl⟩
theorem fl_RX10_232 : FL RX10 232 5 0 true := ⟨_, rfl, by decide, rfl, tw_in (List.mem_of_getElem? (i := 272) (by decide +kernel)) rfl⟩
theorem fl_RX5_15 : FL RX5 15 5 1 true := ⟨_, rfl, by decide, rfl, tw_in (List.mem_of_getElem? (i := 273) (by decide +kernel)) rfl⟩
theorem fl_RX10_239 : FL RX10 239 5 1 true := ⟨_, rfl, by decide, rfl, tw_in (List.mem_of_getElem? (i := 274) (by decide +kernel)) rfl⟩
theorem fl_RX5_18 : FL RX5 18 5 2 true := ⟨_, rfl, by decide, rfl, tw_in (List.mem_of_getElem? (i := 275) (by decide +kernel)) rfl⟩
theorem fl_RX5_21 : FL RX5 21 5 3 true := ⟨_, rfl, by decide, rfl, tw_in (List.mem_of_getElem? (i := 276) (by decide +kernel)) rfl⟩
theorem fl_RX10_247 : FL RX10 247 5 3 true := ⟨_, rfl, by decide, rfl, tw_in (List.mem_of_getElem? (i := 277) (by decide +kernel)) rfl⟩
theorem fl_RX5_32 : FL RX5 32 5 4 false := ⟨_, rfl, by decide, rfl, tw_in (List.mem_of_getElem? (i := 278) (by decide +kernel)) rfl⟩
theorem fl_RX10_244 : FL RX10 244 5 4 false := ⟨_, rfl, by decide, rfl, tw_in (List.mem_of_getElem? (i := 279) (by decide +kernel)) rfl⟩
theorem fl_RX10_10 : FL RX10 10 10 0 true := ⟨_, rfl, by decide, rfl, tw_in (List.mem_of_getElem? (i := 291) (by decide +kernel)) rfl⟩
theorem fl_RX10_19 : FL RX10 19 10 1 true := ⟨_, rfl, by decide, rfl, tw_in (List.mem_of_getElem? (i := 292) (by decide +kernel)) rfl⟩
theorem fl_RX10_26 : FL RX10 26 10 2 true := ⟨_, rfl, by decide, rfl, tw_in (List.mem_of_getElem? (i := 293) (by decide +kernel)) rfl⟩
theorem fl_RX10_33 : FL RX10 33 10 3 true := ⟨_, rfl, by decide, rfl, tw_in (List.mem_of_getElem? (i := 294) (by decide +kernel)) rfl⟩
theorem fl_RX10_39 : FL RX10 39 10 4 true := ⟨_, rfl, by decide, rfl, tw_in (List.mem_of_getElem? (i := 295) (by decide +kernel)) rfl⟩
theorem fl_RX10_46 : FL RX10 46 10 5 true := ⟨_, rfl, by decide, rfl, tw_in (List.mem_of_getElem? (i := 296) (by decide +kernel)) rfl⟩
theorem fl_RX10_53 : FL RX10 53 10 6 true := ⟨_, rfl, by decide, rfl, tw_in (List.mem_of_getElem? (i := 297) (by decide +kernel)) rfl⟩
theorem fl_RX10_58 : FL RX10 58 10 7 true := ⟨_, rfl, by decide, rfl, tw_in (List.mem_of_getElem? (i := 298) (by decide +kernel)) rfl⟩
theorem fl_RX10_70 : FL RX10 70 10 8 true := ⟨_, rfl, by decide, rfl, tw_in (List.mem_of_getElem? (i := 299) (by decide +kernel)) rfl⟩
theorem fl_RX10_77 : FL RX10 77 10 9 true := ⟨_, rfl, by decide, rfl, tw_in (List.mem_of_getElem? (i := 300) (by decide +kernel)) rfl⟩
theorem fl_RX10_84 : FL RX10 84 10 10 true := ⟨_, rfl, by decide, rfl, tw_in (List.mem_of_getElem? (i := 301) (by decide +kernel)) rfl⟩
theorem fl_RX10_211 : FL RX10 211 10 11 false := ⟨_, rfl, by decide, rfl, tw_in (List.mem_of_getElem? (i := 302) (by decide +kernel)) rfl⟩
theorem fl_RX10_153 : FL RX10 153 10 12 false := ⟨_, rfl, by decide, rfl, tw_in (List.mem_of_getElem? (i := 303) (by decide +kernel)) rfl⟩
theorem fl_RX10_147 : FL RX10 147 10 13 false := ⟨_, rfl, by decide, rfl, tw_in (List.mem_of_getElem? (i := 304) (by decide +kernel)) rfl⟩
theorem fl_RX10_220 : FL RX10 220 10 14 false := ⟨_, rfl, by decide, rfl, tw_in (List.mem_of_getElem? (i := 305) (by decide +kernel)) rfl⟩
theorem lk_RL_13 : LV RL 13 yX10_right := ⟨tw_in (List.mem_of_getElem? (i := 337) (by decide +kernel)) rfl, tw_in (List.mem_of_getElem? (i := 338) (by decide +kernel)) rfl, tw_in (List.mem_of_getElem? (i := 339) (by decide +kernel)) rfl⟩
theorem lk_RX10_88 : LkS RX10 88 yX10_within := ⟨tw_in (List.mem_of_getElem? (i := 341) (by decide +kernel)) rfl, tw_in (List.mem_of_getElem? (i := 342) (by decide +kernel)) rfl⟩
theorem lk_RX10_92 : LV RX10 92 yX2_grant := ⟨tw_in (List.mem_of_getElem? (i := 344) (by decide +kernel)) rfl, tw_in (List.mem_of_getElem? (i := 345) (by decide +kernel)) rfl, tw_in (List.mem_of_getElem? (i := 346) (by decide +kernel)) rfl⟩
theorem lk_RX2_18 : LNS RX2 18 yX10_exchange RX10 := ⟨List.mem_filter.mpr ⟨List.mem_of_getElem? (i := 348) (by decide +kernel), rfl⟩, tw_in (List.mem_of_getElem? (i := 349) (by decide +kernel)) rfl⟩
theorem lk_RL_18 : LV RL 18 yX10_cut := ⟨tw_in (List.mem_of_getElem? (i := 351) (by decide +kernel)) rfl, tw_in (List.mem_of_getElem? (i := 352) (by decide +kernel)) rfl, tw_in (List.mem_of_getElem? (i := 353) (by decide +kernel)) rfl⟩
theorem lk_RX10_96 : LV RX10 96 yX10_atEnd := ⟨tw_in (List.mem_of_getElem? (i := 355) (by decide +kernel)) rfl, tw_in (List.mem_of_getElem? (i := 357) (by decide +kernel)) rfl, tw_in (List.mem_of_getElem? (i := 0) (by decide +kernel)) rfl⟩
theorem lk_RX10_100 : LV RX10 100 yX2_fell := ⟨tw_in (List.mem_of_getElem? (i := 359) (by decide +kernel)) rfl, tw_in (List.mem_of_getElem? (i := 360) (by decide +kernel)) rfl, tw_in (List.mem_of_getElem? (i := 361) (by decide +kernel)) rfl⟩
theorem lk_RX2_26 : Cond.methodLink RX2 26 Lib.Math.max.name ∈ TW := tw_in (List.mem_of_getElem? (i := 363) (by decide +kernel)) rfl
theorem lk_RX2_35 : Cond.methodLink RX2 35 Lib.Math.min.name ∈ TW := tw_in (List.mem_of_getElem? (i := 366) (by decide +kernel)) rfl
theorem lk_RL_23 : LV RL 23 yX10_rate := ⟨tw_in (List.mem_of_getElem? (i := 369) (by decide +kernel)) rfl, tw_in (List.mem_of_getElem? (i := 370) (by decide +kernel)) rfl, tw_in (List.mem_of_getElem? (i := 371) (by decide +kernel)) rfl⟩
theorem lk_RL_27 : LV RL 27 yX10_cold := ⟨tw_in (List.mem_of_getElem? (i := 373) (by decide +kernel)) rfl, tw_in (List.mem_of_getElem? (i := 374) (by decide +kernel)) rfl, tw_in (List.mem_of_getElem? (i := 375) (by decide +kernel)) rfl⟩
theorem lk_RX10_108 : LV RX10 108 yX3_addSpell := ⟨tw_in (List.mem_of_getElem? (i := 377) (by decide +kernel)) rfl, tw_in (List.mem_of_getElem? (i := 378) (by decide +kernel)) rfl, tw_in (List.mem_of_getElem? (i := 379) (by decide +kernel)) rfl⟩
theorem lk_RL_32 : LV RL 32 yX10_go := ⟨tw_in (List.mem_of_getElem? (i := 381) (by decide +kernel)) rfl, tw_in (List.mem_of_getElem? (i := 382) (by decide +kernel)) rfl, tw_in (List.mem_of_getElem? (i := 383) (by decide +kernel)) rfl⟩
theorem lk_RX10_115 : LV RX10 115 yX10_allEmpty := ⟨tw_in (List.mem_of_getElem? (i := 385) (by decide +kernel)) rfl, tw_in (List.mem_of_getElem? (i := 387) (by decide +kernel)) rfl, tw_in (List.mem_of_getElem? (i := 1) (by decide +kernel)) rfl⟩
theorem lk_RX10_150 : LV RX10 150 yX7_isEmpty := ⟨tw_in (List.mem_of_getElem? (i := 389) (by decide +kernel)) rfl, tw_in (List.mem_of_getElem? (i := 390) (by decide +kernel)) rfl, tw_in (List.mem_of_getElem? (i := 391) (by decide +kernel)) rfl⟩
theorem lk_RX10_118 : LV RX10 118 yX2_leaveFor := ⟨tw_in (List.mem_of_getElem? (i := 393) (by decide +kernel)) rfl, tw_in (List.mem_of_getElem? (i := 394) (by decide +kernel)) rfl, tw_in (List.mem_of_getElem? (i := 395) (by decide +kernel)) rfl⟩
theorem lk_RL_37 : LV RL 37 yX10_feed := ⟨tw_in (List.mem_of_getElem? (i := 397) (by decide +kernel)) rfl, tw_in (List.mem_of_getElem? (i := 398) (by decide +kernel)) rfl, tw_in (List.mem_of_getElem? (i := 399) (by decide +kernel)) rfl⟩
theorem lk_RX10_125 : LV RX10 125 yX9_hasRoom := ⟨tw_in (List.mem_of_getElem? (i := 401) (by decide +kernel)) rfl, tw_in (List.mem_of_getElem? (i := 402) (by decide +kernel)) rfl, tw_in (List.mem_of_getElem? (i := 403) (by decide +kernel)) rfl⟩
theorem lk_RX10_128 : LV RX10 128 yX9_append := ⟨tw_in (List.mem_of_getElem? (i := 405) (by decide +kernel)) rfl, tw_in (List.mem_of_getElem? (i := 406) (by decide +kernel)) rfl, tw_in (List.mem_of_getElem? (i := 407) (by decide +kernel)) rfl⟩
theorem lk_RL_42 : LV RL 42 yX10_end := ⟨tw_in (List.mem_of_getElem? (i := 409) (by decide +kernel)) rfl, tw_in (List.mem_of_getElem? (i := 410) (by decide +kernel)) rfl, tw_in (List.mem_of_getElem? (i := 411) (by decide +kernel)) rfl⟩
theorem lk_RL_46 : LV RL 46 yX10_spans := ⟨tw_in (List.mem_of_getElem? (i := 413) (by decide +kernel)) rfl, tw_in (List.mem_of_getElem? (i := 414) (by decide +kernel)) rfl, tw_in (List.mem_of_getElem? (i := 415) (by decide +kernel)) rfl⟩
theorem lk_RX10_134 : LV RX10 134 yX9_read := ⟨tw_in (List.mem_of_getElem? (i := 417) (by decide +kernel)) rfl, tw_in (List.mem_of_getElem? (i := 418) (by decide +kernel)) rfl, tw_in (List.mem_of_getElem? (i := 419) (by decide +kernel)) rfl⟩
theorem lk_RX9_40 : LV RX9 40 yX9_skipBlanks := ⟨tw_in (List.mem_of_getElem? (i := 421) (by decide +kernel)) rfl, tw_in (List.mem_of_getElem? (i := 422) (by decide +kernel)) rfl, tw_in (List.mem_of_getElem? (i := 423) (by decide +kernel)) rfl⟩
theorem lk_RX9_43 : LV RX9 43 yX9_readSpan := ⟨tw_in (List.mem_of_getElem? (i := 425) (by decide +kernel)) rfl, tw_in (List.mem_of_getElem? (i := 426) (by decide +kernel)) rfl, tw_in (List.mem_of_getElem? (i := 427) (by decide +kernel)) rfl⟩
theorem lk_RX9_51 : LV RX9 51 yX9_skipLetters := ⟨tw_in (List.mem_of_getElem? (i := 429) (by decide +kernel)) rfl, tw_in (List.mem_of_getElem? (i := 430) (by decide +kernel)) rfl, tw_in (List.mem_of_getElem? (i := 431) (by decide +kernel)) rfl⟩
theorem lk_RX9_65 : LNS RX9 65 yX10_within RX10 := ⟨List.mem_filter.mpr ⟨List.mem_of_getElem? (i := 433) (by decide +kernel), rfl⟩, tw_in (List.mem_of_getElem? (i := 342) (by decide +kernel)) rfl⟩
theorem lk_RX9_47 : LV RX9 47 yX9_fail := ⟨tw_in (List.mem_of_getElem? (i := 434) (by decide +kernel)) rfl, tw_in (List.mem_of_getElem? (i := 435) (by decide +kernel)) rfl, tw_in (List.mem_of_getElem? (i := 436) (by decide +kernel)) rfl⟩
theorem lk_RX9_54 : LV RX9 54 yX9_isTold := ⟨tw_in (List.mem_of_getElem? (i := 438) (by decide +kernel)) rfl, tw_in (List.mem_of_getElem? (i := 439) (by decide +kernel)) rfl, tw_in (List.mem_of_getElem? (i := 440) (by decide +kernel)) rfl⟩
theorem lk_RX9_75 : LV RX9 75 yX9_sameBytes := ⟨tw_in (List.mem_of_getElem? (i := 442) (by decide +kernel)) rfl, tw_in (List.mem_of_getElem? (i := 443) (by decide +kernel)) rfl, tw_in (List.mem_of_getElem? (i := 444) (by decide +kernel)) rfl⟩
theorem lk_RX9_57 : LV RX9 57 yX9_readNumber := ⟨tw_in (List.mem_of_getElem? (i := 446) (by decide +kernel)) rfl, tw_in (List.mem_of_getElem? (i := 447) (by decide +kernel)) rfl, tw_in (List.mem_of_getElem? (i := 448) (by decide +kernel)) rfl⟩
theorem lk_RX9_69 : Cond.methodLink RX9 69 Lib.Math.min.name ∈ TW := tw_in (List.mem_of_getElem? (i := 450) (by decide +kernel)) rfl
theorem lk_RX9_61 : LV RX9 61 yX9_keepSpan := ⟨tw_in (List.mem_of_getElem? (i := 451) (by decide +kernel)) rfl, tw_in (List.mem_of_getElem? (i := 452) (by decide +kernel)) rfl, tw_in (List.mem_of_getElem? (i := 453) (by decide +kernel)) rfl⟩
theorem lk_RX10_140 : LV RX10 140 yX1_take := ⟨tw_in (List.mem_of_getElem? (i := 455) (by decide +kernel)) rfl, tw_in (List.mem_of_getElem? (i := 456) (by decide +kernel)) rfl, tw_in (List.mem_of_getElem? (i := 457) (by decide +kernel)) rfl⟩
theorem lk_RL_51 : LV RL 51 yX10_lay := ⟨tw_in (List.mem_of_getElem? (i := 459) (by decide +kernel)) rfl, tw_in (List.mem_of_getElem? (i := 460) (by decide +kernel)) rfl, tw_in (List.mem_of_getElem? (i := 461) (by decide +kernel)) rfl⟩
theorem lk_RX10_156 : LV RX10 156 yX7_fill := ⟨tw_in (List.mem_of_getElem? (i := 463) (by decide +kernel)) rfl, tw_in (List.mem_of_getElem? (i := 464) (by decide +kernel)) rfl, tw_in (List.mem_of_getElem? (i := 465) (by decide +kernel)) rfl⟩
theorem lk_RX10_159 : LkS RX10 159 yX10_hundredths := ⟨tw_in (List.mem_of_getElem? (i := 467) (by decide +kernel)) rfl, tw_in (List.mem_of_getElem? (i := 468) (by decide +kernel)) rfl⟩
theorem lk_RX10_162 : LV RX10 162 yX1_firstWith := ⟨tw_in (List.mem_of_getElem? (i := 470) (by decide +kernel)) rfl, tw_in (List.mem_of_getElem? (i := 471) (by decide +kernel)) rfl, tw_in (List.mem_of_getElem? (i := 472) (by decide +kernel)) rfl⟩
theorem lk_RX1_27 : LNS RX1 27 yX10_within RX10 := ⟨List.mem_filter.mpr ⟨List.mem_of_getElem? (i := 474) (by decide +kernel), rfl⟩, tw_in (List.mem_of_getElem? (i := 342) (by decide +kernel)) rfl⟩
theorem lk_RL_56 : LV RL 56 yX10_buy := ⟨tw_in (List.mem_of_getElem? (i := 475) (by decide +kernel)) rfl, tw_in (List.mem_of_getElem? (i := 476) (by decide +kernel)) rfl, tw_in (List.mem_of_getElem? (i := 477) (by decide +kernel)) rfl⟩
theorem ct_RX10_168 : Cond.constant RX10 168 (100000) ∈ TW := tw_in (List.mem_of_getElem? (i := 479) (by decide +kernel)) rfl
theorem lk_RL_60 : LV RL 60 yX10_drop := ⟨tw_in (List.mem_of_getElem? (i := 480) (by decide +kernel)) rfl, tw_in (List.mem_of_getElem? (i := 481) (by decide +kernel)) rfl, tw_in (List.mem_of_getElem? (i := 482) (by decide +kernel)) rfl⟩
theorem lk_RX10_172 : LV RX10 172 yX7_clear := ⟨tw_in (List.mem_of_getElem? (i := 484) (by decide +kernel)) rfl, tw_in (List.mem_of_getElem? (i := 485) (by decide +kernel)) rfl, tw_in (List.mem_of_getElem? (i := 486) (by decide +kernel)) rfl⟩
theorem lk_RL_64 : LV RL 64 yX10_kind := ⟨tw_in (List.mem_of_getElem? (i := 488) (by decide +kernel)) rfl, tw_in (List.mem_of_getElem? (i := 489) (by decide +kernel)) rfl, tw_in (List.mem_of_getElem? (i := 490) (by decide +kernel)) rfl⟩
theorem lk_RL_69 : LV RL 69 yX10_blow := ⟨tw_in (List.mem_of_getElem? (i := 492) (by decide +kernel)) rfl, tw_in (List.mem_of_getElem? (i := 493) (by decide +kernel)) rfl, tw_in (List.mem_of_getElem? (i := 494) (by decide +kernel)) rfl⟩
theorem lk_RX10_195 : LV RX10 195 yX10_firstBayWithRoom := ⟨tw_in (List.mem_of_getElem? (i := 496) (by decide +kernel)) rfl, tw_in (List.mem_of_getElem? (i := 498) (by decide +kernel)) rfl, tw_in (List.mem_of_getElem? (i := 2) (by decide +kernel)) rfl⟩
theorem lk_RX10_273 : LV RX10 273 yX0_hasRoom := ⟨tw_in (List.mem_of_getElem? (i := 500) (by decide +kernel)) rfl, tw_in (List.mem_of_getElem? (i := 501) (by decide +kernel)) rfl, tw_in (List.mem_of_getElem? (i := 502) (by decide +kernel)) rfl⟩
theorem lk_RX10_199 : LV RX10 199 yX10_whyNotBlown := ⟨tw_in (List.mem_of_getElem? (i := 504) (by decide +kernel)) rfl, tw_in (List.mem_of_getElem? (i := 506) (by decide +kernel)) rfl, tw_in (List.mem_of_getElem? (i := 3) (by decide +kernel)) rfl⟩
theorem lk_RX10_274 : LV RX10 274 yX7_isReady := ⟨tw_in (List.mem_of_getElem? (i := 508) (by decide +kernel)) rfl, tw_in (List.mem_of_getElem? (i := 509) (by decide +kernel)) rfl, tw_in (List.mem_of_getElem? (i := 510) (by decide +kernel)) rfl⟩
theorem lk_RX7_18 : LV RX7 18 yX7_isEmpty := ⟨tw_in (List.mem_of_getElem? (i := 512) (by decide +kernel)) rfl, tw_in (List.mem_of_getElem? (i := 390) (by decide +kernel)) rfl, tw_in (List.mem_of_getElem? (i := 391) (by decide +kernel)) rfl⟩
theorem lk_RX10_203 : LV RX10 203 yX10_blowPiece := ⟨tw_in (List.mem_of_getElem? (i := 513) (by decide +kernel)) rfl, tw_in (List.mem_of_getElem? (i := 515) (by decide +kernel)) rfl, tw_in (List.mem_of_getElem? (i := 4) (by decide +kernel)) rfl⟩
theorem ins_RX6 : Cond.instantiable RX6 9 ∈ TW := tw_in (List.mem_of_getElem? (i := 517) (by decide +kernel)) rfl
theorem lk_RX10_280 : LI RX10 280 yX6_init := ⟨tw_in (List.mem_of_getElem? (i := 518) (by decide +kernel)) rfl, tw_in (List.mem_of_getElem? (i := 519) (by decide +kernel)) rfl, rfl⟩
theorem lk_RX6_3 : Cond.methodLink RX6 3 objectInit ∈ TW := tw_in (List.mem_of_getElem? (i := 521) (by decide +kernel)) rfl
theorem fl_RX6_18 : FL RX6 18 6 0 true := ⟨_, rfl, by decide, rfl, tw_in (List.mem_of_getElem? (i := 522) (by decide +kernel)) rfl⟩
theorem fl_RX10_303 : FL RX10 303 6 0 true := ⟨_, rfl, by decide, rfl, tw_in (List.mem_of_getElem? (i := 523) (by decide +kernel)) rfl⟩
theorem fl_RX6_21 : FL RX6 21 6 1 true := ⟨_, rfl, by decide, rfl, tw_in (List.mem_of_getElem? (i := 524) (by decide +kernel)) rfl⟩
theorem fl_RX10_300 : FL RX10 300 6 1 true := ⟨_, rfl, by decide, rfl, tw_in (List.mem_of_getElem? (i := 525) (by decide +kernel)) rfl⟩
theorem fl_RX6_24 : FL RX6 24 6 2 true := ⟨_, rfl, by decide, rfl, tw_in (List.mem_of_getElem? (i := 526) (by decide +kernel)) rfl⟩
theorem fl_RX6_27 : FL RX6 27 6 3 true := ⟨_, rfl, by decide, rfl, tw_in (List.mem_of_getElem? (i := 527) (by decide +kernel)) rfl⟩
theorem fl_RX6_35 : FL RX6 35 6 4 true := ⟨_, rfl, by decide, rfl, tw_in (List.mem_of_getElem? (i := 528) (by decide +kernel)) rfl⟩
theorem fl_RX0_32 : FL RX0 32 6 4 true := ⟨_, rfl, by decide, rfl, tw_in (List.mem_of_getElem? (i := 529) (by decide +kernel)) rfl⟩
theorem fl_RX10_292 : FL RX10 292 6 4 true := ⟨_, rfl, by decide, rfl, tw_in (List.mem_of_getElem? (i := 530) (by decide +kernel)) rfl⟩
theorem fl_RX6_39 : FL RX6 39 6 5 true := ⟨_, rfl, by decide, rfl, tw_in (List.mem_of_getElem? (i := 531) (by decide +kernel)) rfl⟩
theorem fl_RX0_26 : FL RX0 26 6 5 true := ⟨_, rfl, by decide, rfl, tw_in (List.mem_of_getElem? (i := 532) (by decide +kernel)) rfl⟩
theorem fl_RX6_11 : FL RX6 11 6 6 false := ⟨_, rfl, by decide, rfl, tw_in (List.mem_of_getElem? (i := 533) (by decide +kernel)) rfl⟩
theorem fl_RX0_29 : FL RX0 29 6 6 false := ⟨_, rfl, by decide, rfl, tw_in (List.mem_of_getElem? (i := 534) (by decide +kernel)) rfl⟩
theorem fl_RX10_289 : FL RX10 289 6 6 false := ⟨_, rfl, by decide, rfl, tw_in (List.mem_of_getElem? (i := 535) (by decide +kernel)) rfl⟩
theorem fl_RX6_15 : FL RX6 15 6 7 false := ⟨_, rfl, by decide, rfl, tw_in (List.mem_of_getElem? (i := 536) (by decide +kernel)) rfl⟩
theorem fl_RX10_293 : FL RX10 293 6 7 false := ⟨_, rfl, by decide, rfl, tw_in (List.mem_of_getElem? (i := 537) (by decide +kernel)) rfl⟩
theorem fl_RX6_40 : FL RX6 40 6 8 false := ⟨_, rfl, by decide, rfl, tw_in (List.mem_of_getElem? (i := 538) (by decide +kernel)) rfl⟩
theorem fl_RX0_23 : FL RX0 23 6 8 false := ⟨_, rfl, by decide, rfl, tw_in (List.mem_of_getElem? (i := 539) (by decide +kernel)) rfl⟩
theorem lk_RX10_283 : LV RX10 283 yX7_takeGlass := ⟨tw_in (List.mem_of_getElem? (i := 559) (by decide +kernel)) rfl, tw_in (List.mem_of_getElem? (i := 560) (by decide +kernel)) rfl, tw_in (List.mem_of_getElem? (i := 561) (by decide +kernel)) rfl⟩
theorem lk_RX7_40 : LV RX7 40 yX7_clear := ⟨tw_in (List.mem_of_getElem? (i := 563) (by decide +kernel)) rfl, tw_in (List.mem_of_getElem? (i := 485) (by decide +kernel)) rfl, tw_in (List.mem_of_getElem? (i := 486) (by decide +kernel)) rfl⟩
theorem lk_RX10_286 : LV RX10 286 yX4_latestBreaks := ⟨tw_in (List.mem_of_getElem? (i := 564) (by decide +kernel)) rfl, tw_in (List.mem_of_getElem? (i := 565) (by decide +kernel)) rfl, tw_in (List.mem_of_getElem? (i := 566) (by decide +kernel)) rfl⟩
theorem lk_RX10_296 : LV RX10 296 yX0_put := ⟨tw_in (List.mem_of_getElem? (i := 568) (by decide +kernel)) rfl, tw_in (List.mem_of_getElem? (i := 569) (by decide +kernel)) rfl, tw_in (List.mem_of_getElem? (i := 570) (by decide +kernel)) rfl⟩
theorem lk_RX0_19 : LV RX0 19 yX0_hasRoom := ⟨tw_in (List.mem_of_getElem? (i := 572) (by decide +kernel)) rfl, tw_in (List.mem_of_getElem? (i := 501) (by decide +kernel)) rfl, tw_in (List.mem_of_getElem? (i := 502) (by decide +kernel)) rfl⟩
theorem lk_RL_73 : LV RL 73 yX10_open := ⟨tw_in (List.mem_of_getElem? (i := 573) (by decide +kernel)) rfl, tw_in (List.mem_of_getElem? (i := 574) (by decide +kernel)) rfl, tw_in (List.mem_of_getElem? (i := 575) (by decide +kernel)) rfl⟩
theorem lk_RX10_208 : LV RX10 208 yX0_breakAll := ⟨tw_in (List.mem_of_getElem? (i := 577) (by decide +kernel)) rfl, tw_in (List.mem_of_getElem? (i := 578) (by decide +kernel)) rfl, tw_in (List.mem_of_getElem? (i := 579) (by decide +kernel)) rfl⟩
theorem lk_RL_77 : LV RL 77 yX10_pass := ⟨tw_in (List.mem_of_getElem? (i := 581) (by decide +kernel)) rfl, tw_in (List.mem_of_getElem? (i := 582) (by decide +kernel)) rfl, tw_in (List.mem_of_getElem? (i := 583) (by decide +kernel)) rfl⟩
theorem lk_RX10_214 : LV RX10 214 yX10_stepHour := ⟨tw_in (List.mem_of_getElem? (i := 585) (by decide +kernel)) rfl, tw_in (List.mem_of_getElem? (i := 587) (by decide +kernel)) rfl, tw_in (List.mem_of_getElem? (i := 5) (by decide +kernel)) rfl⟩
theorem lk_RX10_257 : LV RX10 257 yX2_takeFromStack := ⟨tw_in (List.mem_of_getElem? (i := 589) (by decide +kernel)) rfl, tw_in (List.mem_of_getElem? (i := 590) (by decide +kernel)) rfl, tw_in (List.mem_of_getElem? (i := 591) (by decide +kernel)) rfl⟩
theorem lk_RX10_260 : LV RX10 260 yX3_burn := ⟨tw_in (List.mem_of_getElem? (i := 593) (by decide +kernel)) rfl, tw_in (List.mem_of_getElem? (i := 594) (by decide +kernel)) rfl, tw_in (List.mem_of_getElem? (i := 595) (by decide +kernel)) rfl⟩
theorem lk_RX3_28 : LV RX3 28 yX3_coldOf := ⟨tw_in (List.mem_of_getElem? (i := 597) (by decide +kernel)) rfl, tw_in (List.mem_of_getElem? (i := 598) (by decide +kernel)) rfl, tw_in (List.mem_of_getElem? (i := 599) (by decide +kernel)) rfl⟩
theorem lk_RX3_41 : LNS RX3 41 yX10_within RX10 := ⟨List.mem_filter.mpr ⟨List.mem_of_getElem? (i := 601) (by decide +kernel), rfl⟩, tw_in (List.mem_of_getElem? (i := 342) (by decide +kernel)) rfl⟩
theorem lk_RX3_32 : Cond.methodLink RX3 32 Lib.Math.min.name ∈ TW := tw_in (List.mem_of_getElem? (i := 602) (by decide +kernel)) rfl
theorem lk_RX3_38 : Cond.methodLink RX3 38 Lib.Math.max.name ∈ TW := tw_in (List.mem_of_getElem? (i := 603) (by decide +kernel)) rfl
theorem lk_RX10_264 : LV RX10 264 yX7_melt := ⟨tw_in (List.mem_of_getElem? (i := 604) (by decide +kernel)) rfl, tw_in (List.mem_of_getElem? (i := 605) (by decide +kernel)) rfl, tw_in (List.mem_of_getElem? (i := 606) (by decide +kernel)) rfl⟩
theorem lk_RX7_31 : LV RX7 31 yX7_isReady := ⟨tw_in (List.mem_of_getElem? (i := 608) (by decide +kernel)) rfl, tw_in (List.mem_of_getElem? (i := 509) (by decide +kernel)) rfl, tw_in (List.mem_of_getElem? (i := 510) (by decide +kernel)) rfl⟩
theorem lk_RX7_34 : Cond.methodLink RX7 34 Lib.Math.max.name ∈ TW := tw_in (List.mem_of_getElem? (i := 609) (by decide +kernel)) rfl
theorem lk_RX10_267 : LV RX10 267 yX0_coolHour := ⟨tw_in (List.mem_of_getElem? (i := 610) (by decide +kernel)) rfl, tw_in (List.mem_of_getElem? (i := 611) (by decide +kernel)) rfl, tw_in (List.mem_of_getElem? (i := 612) (by decide +kernel)) rfl⟩
theorem lk_RX10_270 : LV RX10 270 yX2_beginYear := ⟨tw_in (List.mem_of_getElem? (i := 614) (by decide +kernel)) rfl, tw_in (List.mem_of_getElem? (i := 615) (by decide +kernel)) rfl, tw_in (List.mem_of_getElem? (i := 616) (by decide +kernel)) rfl⟩
theorem lk_RX2_38 : LkS RX2 38 yJ7_fill_53178 := ⟨tw_in (List.mem_of_getElem? (i := 618) (by decide +kernel)) rfl, tw_in (List.mem_of_getElem? (i := 231) (by decide +kernel)) rfl⟩
theorem lk_RL_81 : LV RL 81 yX10_pot := ⟨tw_in (List.mem_of_getElem? (i := 619) (by decide +kernel)) rfl, tw_in (List.mem_of_getElem? (i := 620) (by decide +kernel)) rfl, tw_in (List.mem_of_getElem? (i := 621) (by decide +kernel)) rfl⟩
theorem lk_RX10_217 : LV RX10 217 yX7_tell := ⟨tw_in (List.mem_of_getElem? (i := 623) (by decide +kernel)) rfl, tw_in (List.mem_of_getElem? (i := 624) (by decide +kernel)) rfl, tw_in (List.mem_of_getElem? (i := 625) (by decide +kernel)) rfl⟩
theorem lk_RL_85 : LV RL 85 yX10_piece := ⟨tw_in (List.mem_of_getElem? (i := 627) (by decide +kernel)) rfl, tw_in (List.mem_of_getElem? (i := 628) (by decide +kernel)) rfl, tw_in (List.mem_of_getElem? (i := 629) (by decide +kernel)) rfl⟩
theorem lk_RX10_223 : LV RX10 223 yX6_tell := ⟨tw_in (List.mem_of_getElem? (i := 631) (by decide +kernel)) rfl, tw_in (List.mem_of_getElem? (i := 632) (by decide +kernel)) rfl, tw_in (List.mem_of_getElem? (i := 633) (by decide +kernel)) rfl⟩
theorem lk_RL_89 : LV RL 89 yX10_pay := ⟨tw_in (List.mem_of_getElem? (i := 635) (by decide +kernel)) rfl, tw_in (List.mem_of_getElem? (i := 636) (by decide +kernel)) rfl, tw_in (List.mem_of_getElem? (i := 637) (by decide +kernel)) rfl⟩
theorem lk_RX10_224 : LV RX10 224 yX10_storedOf := ⟨tw_in (List.mem_of_getElem? (i := 639) (by decide +kernel)) rfl, tw_in (List.mem_of_getElem? (i := 641) (by decide +kernel)) rfl, tw_in (List.mem_of_getElem? (i := 6) (by decide +kernel)) rfl⟩
theorem lk_RL_93 : LV RL 93 yX10_shift := ⟨tw_in (List.mem_of_getElem? (i := 643) (by decide +kernel)) rfl, tw_in (List.mem_of_getElem? (i := 644) (by decide +kernel)) rfl, tw_in (List.mem_of_getElem? (i := 645) (by decide +kernel)) rfl⟩
theorem lk_RX10_227 : LV RX10 227 yX8_plan := ⟨tw_in (List.mem_of_getElem? (i := 647) (by decide +kernel)) rfl, tw_in (List.mem_of_getElem? (i := 648) (by decide +kernel)) rfl, tw_in (List.mem_of_getElem? (i := 649) (by decide +kernel)) rfl⟩
theorem lk_RX8_18 : LV RX8 18 yX8_findUsable := ⟨tw_in (List.mem_of_getElem? (i := 651) (by decide +kernel)) rfl, tw_in (List.mem_of_getElem? (i := 652) (by decide +kernel)) rfl, tw_in (List.mem_of_getElem? (i := 653) (by decide +kernel)) rfl⟩
theorem lk_RX8_45 : LV RX8 45 yX4_suits := ⟨tw_in (List.mem_of_getElem? (i := 655) (by decide +kernel)) rfl, tw_in (List.mem_of_getElem? (i := 656) (by decide +kernel)) rfl, tw_in (List.mem_of_getElem? (i := 657) (by decide +kernel)) rfl⟩
theorem lk_RX8_33 : LV RX8 33 yX8_fillRow := ⟨tw_in (List.mem_of_getElem? (i := 659) (by decide +kernel)) rfl, tw_in (List.mem_of_getElem? (i := 660) (by decide +kernel)) rfl, tw_in (List.mem_of_getElem? (i := 661) (by decide +kernel)) rfl⟩
theorem lk_RX8_54 : LV RX8 54 yX8_addOneMore := ⟨tw_in (List.mem_of_getElem? (i := 663) (by decide +kernel)) rfl, tw_in (List.mem_of_getElem? (i := 664) (by decide +kernel)) rfl, tw_in (List.mem_of_getElem? (i := 665) (by decide +kernel)) rfl⟩
theorem ct_RX8_61 : Cond.constantLong RX8 61 (1024) ∈ TW := tw_in (List.mem_of_getElem? (i := 667) (by decide +kernel)) rfl
theorem lk_RX8_41 : LV RX8 41 yX8_keep := ⟨tw_in (List.mem_of_getElem? (i := 668) (by decide +kernel)) rfl, tw_in (List.mem_of_getElem? (i := 669) (by decide +kernel)) rfl, tw_in (List.mem_of_getElem? (i := 670) (by decide +kernel)) rfl⟩
theorem ac_long : Cond.arrayClass .long ∈ TW := tw_in (List.mem_of_getElem? (i := 672) (by decide +kernel)) rfl
theorem lk_RL_97 : LV RL 97 yX10_shifted := ⟨tw_in (List.mem_of_getElem? (i := 673) (by decide +kernel)) rfl, tw_in (List.mem_of_getElem? (i := 674) (by decide +kernel)) rfl, tw_in (List.mem_of_getElem? (i := 675) (by decide +kernel)) rfl⟩
theorem lk_RX10_231 : LV RX10 231 yX8_tell := ⟨tw_in (List.mem_of_getElem? (i := 677) (by decide +kernel)) rfl, tw_in (List.mem_of_getElem? (i := 678) (by decide +kernel)) rfl, tw_in (List.mem_of_getElem? (i := 679) (by decide +kernel)) rfl⟩
theorem lk_RX8_72 : LNS RX8 72 yX10_within RX10 := ⟨List.mem_filter.mpr ⟨List.mem_of_getElem? (i := 681) (by decide +kernel), rfl⟩, tw_in (List.mem_of_getElem? (i := 342) (by decide +kernel)) rfl⟩
theorem lk_RL_101 : LV RL 101 yX10_cost := ⟨tw_in (List.mem_of_getElem? (i := 682) (by decide +kernel)) rfl, tw_in (List.mem_of_getElem? (i := 683) (by decide +kernel)) rfl, tw_in (List.mem_of_getElem? (i := 684) (by decide +kernel)) rfl⟩
theorem lk_RX10_235 : LkS RX10 235 yX10_exchange := ⟨tw_in (List.mem_of_getElem? (i := 686) (by decide +kernel)) rfl, tw_in (List.mem_of_getElem? (i := 349) (by decide +kernel)) rfl⟩
theorem lk_RL_105 : LV RL 105 yX10_way := ⟨tw_in (List.mem_of_getElem? (i := 687) (by decide +kernel)) rfl, tw_in (List.mem_of_getElem? (i := 688) (by decide +kernel)) rfl, tw_in (List.mem_of_getElem? (i := 689) (by decide +kernel)) rfl⟩
theorem lk_RL_109 : LV RL 109 yX10_move := ⟨tw_in (List.mem_of_getElem? (i := 691) (by decide +kernel)) rfl, tw_in (List.mem_of_getElem? (i := 692) (by decide +kernel)) rfl, tw_in (List.mem_of_getElem? (i := 693) (by decide +kernel)) rfl⟩
theorem lk_RX10_242 : LV RX10 242 yX5_plan := ⟨tw_in (List.mem_of_getElem? (i := 695) (by decide +kernel)) rfl, tw_in (List.mem_of_getElem? (i := 696) (by decide +kernel)) rfl, tw_in (List.mem_of_getElem? (i := 697) (by decide +kernel)) rfl⟩
theorem lk_RX5_24 : LV RX5 24 yX5_nextSite := ⟨tw_in (List.mem_of_getElem? (i := 699) (by decide +kernel)) rfl, tw_in (List.mem_of_getElem? (i := 700) (by decide +kernel)) rfl, tw_in (List.mem_of_getElem? (i := 701) (by decide +kernel)) rfl⟩
theorem lk_RX5_28 : LV RX5 28 yX5_sumBy := ⟨tw_in (List.mem_of_getElem? (i := 703) (by decide +kernel)) rfl, tw_in (List.mem_of_getElem? (i := 704) (by decide +kernel)) rfl, tw_in (List.mem_of_getElem? (i := 705) (by decide +kernel)) rfl⟩
theorem lk_RL_113 : LV RL 113 yX10_moved := ⟨tw_in (List.mem_of_getElem? (i := 707) (by decide +kernel)) rfl, tw_in (List.mem_of_getElem? (i := 708) (by decide +kernel)) rfl, tw_in (List.mem_of_getElem? (i := 709) (by decide +kernel)) rfl⟩
theorem lk_RL_117 : LV RL 117 yX10_count := ⟨tw_in (List.mem_of_getElem? (i := 711) (by decide +kernel)) rfl, tw_in (List.mem_of_getElem? (i := 712) (by decide +kernel)) rfl, tw_in (List.mem_of_getElem? (i := 713) (by decide +kernel)) rfl⟩
theorem cl_RL_10 : Cond.classLink RL 10 RX11 ∈ TW := tw_in (List.mem_of_getElem? (i := 715) (by decide +kernel)) rfl
theorem ins_RX11 : Cond.instantiable RX11 58 ∈ TW := tw_in (List.mem_of_getElem? (i := 716) (by decide +kernel)) rfl
theorem lk_RL_12 : LI RL 12 yX11_init := ⟨tw_in (List.mem_of_getElem? (i := 717) (by decide +kernel)) rfl, tw_in (List.mem_of_getElem? (i := 718) (by decide +kernel)) rfl, rfl⟩
theorem lk_RX11_1 : Cond.methodLink RX11 1 objectInit ∈ TW := tw_in (List.mem_of_getElem? (i := 720) (by decide +kernel)) rfl
theorem ct_RX11_120 : Cond.constant RX11 120 (1445886) ∈ TW := tw_in (List.mem_of_getElem? (i := 721) (by decide +kernel)) rfl
theorem fl_RX11_144 : FL RX11 144 11 0 false := ⟨_, rfl, by decide, rfl, tw_in (List.mem_of_getElem? (i := 722) (by decide +kernel)) rfl⟩
theorem fl_RX11_148 : FL RX11 148 11 1 false := ⟨_, rfl, by decide, rfl, tw_in (List.mem_of_getElem? (i := 723) (by decide +kernel)) rfl⟩
theorem fl_RX11_151 : FL RX11 151 11 2 false := ⟨_, rfl, by decide, rfl, tw_in (List.mem_of_getElem? (i := 724) (by decide +kernel)) rfl⟩
theorem fl_RX11_154 : FL RX11 154 11 3 false := ⟨_, rfl, by decide, rfl, tw_in (List.mem_of_getElem? (i := 725) (by decide +kernel)) rfl⟩
theorem fl_RX11_160 : FL RX11 160 11 4 false := ⟨_, rfl, by decide, rfl, tw_in (List.mem_of_getElem? (i := 726) (by decide +kernel)) rfl⟩
theorem fl_RX11_213 : FL RX11 213 11 5 false := ⟨_, rfl, by decide, rfl, tw_in (List.mem_of_getElem? (i := 727) (by decide +kernel)) rfl⟩
theorem fl_RX11_7 : FL RX11 7 11 6 true := ⟨_, rfl, by decide, rfl, tw_in (List.mem_of_getElem? (i := 728) (by decide +kernel)) rfl⟩
theorem fl_RX11_13 : FL RX11 13 11 7 true := ⟨_, rfl, by decide, rfl, tw_in (List.mem_of_getElem? (i := 729) (by decide +kernel)) rfl⟩
theorem fl_RX11_157 : FL RX11 157 11 8 false := ⟨_, rfl, by decide, rfl, tw_in (List.mem_of_getElem? (i := 730) (by decide +kernel)) rfl⟩
theorem fl_RX11_16 : FL RX11 16 11 9 true := ⟨_, rfl, by decide, rfl, tw_in (List.mem_of_getElem? (i := 731) (by decide +kernel)) rfl⟩
theorem fl_RX11_19 : FL RX11 19 11 10 true := ⟨_, rfl, by decide, rfl, tw_in (List.mem_of_getElem? (i := 732) (by decide +kernel)) rfl⟩
theorem fl_RX11_22 : FL RX11 22 11 11 true := ⟨_, rfl, by decide, rfl, tw_in (List.mem_of_getElem? (i := 733) (by decide +kernel)) rfl⟩
theorem fl_RX11_210 : FL RX11 210 11 12 false := ⟨_, rfl, by decide, rfl, tw_in (List.mem_of_getElem? (i := 734) (by decide +kernel)) rfl⟩
theorem fl_RX11_25 : FL RX11 25 11 13 true := ⟨_, rfl, by decide, rfl, tw_in (List.mem_of_getElem? (i := 735) (by decide +kernel)) rfl⟩
theorem fl_RX11_28 : FL RX11 28 11 14 true := ⟨_, rfl, by decide, rfl, tw_in (List.mem_of_getElem? (i := 736) (by decide +kernel)) rfl⟩
theorem fl_RX11_31 : FL RX11 31 11 15 true := ⟨_, rfl, by decide, rfl, tw_in (List.mem_of_getElem? (i := 737) (by decide +kernel)) rfl⟩
theorem fl_RX11_34 : FL RX11 34 11 16 true := ⟨_, rfl, by decide, rfl, tw_in (List.mem_of_getElem? (i := 738) (by decide +kernel)) rfl⟩
theorem fl_RX11_37 : FL RX11 37 11 17 true := ⟨_, rfl, by decide, rfl, tw_in (List.mem_of_getElem? (i := 739) (by decide +kernel)) rfl⟩
theorem fl_RX11_40 : FL RX11 40 11 18 true := ⟨_, rfl, by decide, rfl, tw_in (List.mem_of_getElem? (i := 740) (by decide +kernel)) rfl⟩
theorem fl_RX11_44 : FL RX11 44 11 19 true := ⟨_, rfl, by decide, rfl, tw_in (List.mem_of_getElem? (i := 741) (by decide +kernel)) rfl⟩
theorem fl_RX11_47 : FL RX11 47 11 20 true := ⟨_, rfl, by decide, rfl, tw_in (List.mem_of_getElem? (i := 742) (by decide +kernel)) rfl⟩
theorem fl_RX11_50 : FL RX11 50 11 21 true := ⟨_, rfl, by decide, rfl, tw_in (List.mem_of_getElem? (i := 743) (by decide +kernel)) rfl⟩
theorem fl_RX11_53 : FL RX11 53 11 22 true := ⟨_, rfl, by decide, rfl, tw_in (List.mem_of_getElem? (i := 744) (by decide +kernel)) rfl⟩
theorem fl_RX11_56 : FL RX11 56 11 23 true := ⟨_, rfl, by decide, rfl, tw_in (List.mem_of_getElem? (i := 745) (by decide +kernel)) rfl⟩
theorem fl_RX11_59 : FL RX11 59 11 24 true := ⟨_, rfl, by decide, rfl, tw_in (List.mem_of_getElem? (i := 746) (by decide +kernel)) rfl⟩
theorem fl_RX11_62 : FL RX11 62 11 25 true := ⟨_, rfl, by decide, rfl, tw_in (List.mem_of_getElem? (i := 747) (by decide +kernel)) rfl⟩
theorem fl_RX11_65 : FL RX11 65 11 26 true := ⟨_, rfl, by decide, rfl, tw_in (List.mem_of_getElem? (i := 748) (by decide +kernel)) rfl⟩
theorem fl_RX11_223 : FL RX11 223 11 27 false := ⟨_, rfl, by decide, rfl, tw_in (List.mem_of_getElem? (i := 749) (by decide +kernel)) rfl⟩
theorem fl_RX11_68 : FL RX11 68 11 28 true := ⟨_, rfl, by decide, rfl, tw_in (List.mem_of_getElem? (i := 750) (by decide +kernel)) rfl⟩
theorem fl_RX11_71 : FL RX11 71 11 29 true := ⟨_, rfl, by decide, rfl, tw_in (List.mem_of_getElem? (i := 751) (by decide +kernel)) rfl⟩
theorem fl_RX11_74 : FL RX11 74 11 30 true := ⟨_, rfl, by decide, rfl, tw_in (List.mem_of_getElem? (i := 752) (by decide +kernel)) rfl⟩
theorem fl_RX11_77 : FL RX11 77 11 31 true := ⟨_, rfl, by decide, rfl, tw_in (List.mem_of_getElem? (i := 753) (by decide +kernel)) rfl⟩
theorem fl_RX11_80 : FL RX11 80 11 32 true := ⟨_, rfl, by decide, rfl, tw_in (List.mem_of_getElem? (i := 754) (by decide +kernel)) rfl⟩
theorem fl_RX11_83 : FL RX11 83 11 33 true := ⟨_, rfl, by decide, rfl, tw_in (List.mem_of_getElem? (i := 755) (by decide +kernel)) rfl⟩
theorem fl_RX11_86 : FL RX11 86 11 34 true := ⟨_, rfl, by decide, rfl, tw_in (List.mem_of_getElem? (i := 756) (by decide +kernel)) rfl⟩
theorem fl_RX11_89 : FL RX11 89 11 35 true := ⟨_, rfl, by decide, rfl, tw_in (List.mem_of_getElem? (i := 757) (by decide +kernel)) rfl⟩
theorem fl_RX11_92 : FL RX11 92 11 36 true := ⟨_, rfl, by decide, rfl, tw_in (List.mem_of_getElem? (i := 758) (by decide +kernel)) rfl⟩
theorem fl_RX11_95 : FL RX11 95 11 37 true := ⟨_, rfl, by decide, rfl, tw_in (List.mem_of_getElem? (i := 759) (by decide +kernel)) rfl⟩
theorem fl_RX11_98 : FL RX11 98 11 38 true := ⟨_, rfl, by decide, rfl, tw_in (List.mem_of_getElem? (i := 760) (by decide +kernel)) rfl⟩
theorem fl_RX11_163 : FL RX11 163 11 39 false := ⟨_, rfl, by decide, rfl, tw_in (List.mem_of_getElem? (i := 761) (by decide +kernel)) rfl⟩
theorem fl_RX11_173 : FL RX11 173 11 40 false := ⟨_, rfl, by decide, rfl, tw_in (List.mem_of_getElem? (i := 762) (by decide +kernel)) rfl⟩
theorem fl_RX11_170 : FL RX11 170 11 41 false := ⟨_, rfl, by decide, rfl, tw_in (List.mem_of_getElem? (i := 763) (by decide +kernel)) rfl⟩
theorem fl_RX11_204 : FL RX11 204 11 42 false := ⟨_, rfl, by decide, rfl, tw_in (List.mem_of_getElem? (i := 764) (by decide +kernel)) rfl⟩
theorem fl_RX11_102 : FL RX11 102 11 43 true := ⟨_, rfl, by decide, rfl, tw_in (List.mem_of_getElem? (i := 765) (by decide +kernel)) rfl⟩
theorem fl_RX11_105 : FL RX11 105 11 44 true := ⟨_, rfl, by decide, rfl, tw_in (List.mem_of_getElem? (i := 766) (by decide +kernel)) rfl⟩
theorem fl_RX11_191 : FL RX11 191 11 45 false := ⟨_, rfl, by decide, rfl, tw_in (List.mem_of_getElem? (i := 767) (by decide +kernel)) rfl⟩
theorem fl_RX11_108 : FL RX11 108 11 46 true := ⟨_, rfl, by decide, rfl, tw_in (List.mem_of_getElem? (i := 768) (by decide +kernel)) rfl⟩
theorem fl_RX11_111 : FL RX11 111 11 47 true := ⟨_, rfl, by decide, rfl, tw_in (List.mem_of_getElem? (i := 769) (by decide +kernel)) rfl⟩
theorem fl_RX11_114 : FL RX11 114 11 48 true := ⟨_, rfl, by decide, rfl, tw_in (List.mem_of_getElem? (i := 770) (by decide +kernel)) rfl⟩
theorem fl_RX11_117 : FL RX11 117 11 49 true := ⟨_, rfl, by decide, rfl, tw_in (List.mem_of_getElem? (i := 771) (by decide +kernel)) rfl⟩
theorem fl_RX11_188 : FL RX11 188 11 50 false := ⟨_, rfl, by decide, rfl, tw_in (List.mem_of_getElem? (i := 772) (by decide +kernel)) rfl⟩
theorem fl_RX11_121 : FL RX11 121 11 51 true := ⟨_, rfl, by decide, rfl, tw_in (List.mem_of_getElem? (i := 773) (by decide +kernel)) rfl⟩
theorem fl_RX11_125 : FL RX11 125 11 52 true := ⟨_, rfl, by decide, rfl, tw_in (List.mem_of_getElem? (i := 774) (by decide +kernel)) rfl⟩
theorem fl_RX11_128 : FL RX11 128 11 53 true := ⟨_, rfl, by decide, rfl, tw_in (List.mem_of_getElem? (i := 775) (by decide +kernel)) rfl⟩
theorem fl_RX11_131 : FL RX11 131 11 54 true := ⟨_, rfl, by decide, rfl, tw_in (List.mem_of_getElem? (i := 776) (by decide +kernel)) rfl⟩
theorem fl_RX11_134 : FL RX11 134 11 55 true := ⟨_, rfl, by decide, rfl, tw_in (List.mem_of_getElem? (i := 777) (by decide +kernel)) rfl⟩
theorem fl_RX11_241 : FL RX11 241 11 56 false := ⟨_, rfl, by decide, rfl, tw_in (List.mem_of_getElem? (i := 778) (by decide +kernel)) rfl⟩
theorem fl_RX11_137 : FL RX11 137 11 57 true := ⟨_, rfl, by decide, rfl, tw_in (List.mem_of_getElem? (i := 779) (by decide +kernel)) rfl⟩
theorem ac_boolean : Cond.arrayClass .boolean ∈ TW := tw_in (List.mem_of_getElem? (i := 897) (by decide +kernel)) rfl
theorem ac_byte : Cond.arrayClass .byte ∈ TW := tw_in (List.mem_of_getElem? (i := 898) (by decide +kernel)) rfl
theorem lk_RL_17 : LV RL 17 yX11_right := ⟨tw_in (List.mem_of_getElem? (i := 899) (by decide +kernel)) rfl, tw_in (List.mem_of_getElem? (i := 900) (by decide +kernel)) rfl, tw_in (List.mem_of_getElem? (i := 901) (by decide +kernel)) rfl⟩
theorem lk_RX11_140 : LkS RX11 140 yX11_in := ⟨tw_in (List.mem_of_getElem? (i := 903) (by decide +kernel)) rfl, tw_in (List.mem_of_getElem? (i := 904) (by decide +kernel)) rfl⟩
theorem lk_RL_22 : LV RL 22 yX11_cut := ⟨tw_in (List.mem_of_getElem? (i := 906) (by decide +kernel)) rfl, tw_in (List.mem_of_getElem? (i := 907) (by decide +kernel)) rfl, tw_in (List.mem_of_getElem? (i := 908) (by decide +kernel)) rfl⟩
theorem lk_RL_26 : LV RL 26 yX11_rate := ⟨tw_in (List.mem_of_getElem? (i := 910) (by decide +kernel)) rfl, tw_in (List.mem_of_getElem? (i := 911) (by decide +kernel)) rfl, tw_in (List.mem_of_getElem? (i := 912) (by decide +kernel)) rfl⟩
theorem lk_RL_31 : LV RL 31 yX11_cold := ⟨tw_in (List.mem_of_getElem? (i := 914) (by decide +kernel)) rfl, tw_in (List.mem_of_getElem? (i := 915) (by decide +kernel)) rfl, tw_in (List.mem_of_getElem? (i := 916) (by decide +kernel)) rfl⟩
theorem lk_RL_36 : LV RL 36 yX11_go := ⟨tw_in (List.mem_of_getElem? (i := 918) (by decide +kernel)) rfl, tw_in (List.mem_of_getElem? (i := 919) (by decide +kernel)) rfl, tw_in (List.mem_of_getElem? (i := 920) (by decide +kernel)) rfl⟩
theorem lk_RL_41 : LV RL 41 yX11_feed := ⟨tw_in (List.mem_of_getElem? (i := 922) (by decide +kernel)) rfl, tw_in (List.mem_of_getElem? (i := 923) (by decide +kernel)) rfl, tw_in (List.mem_of_getElem? (i := 924) (by decide +kernel)) rfl⟩
theorem lk_RX11_166 : LV RX11 166 yX11_four := ⟨tw_in (List.mem_of_getElem? (i := 926) (by decide +kernel)) rfl, tw_in (List.mem_of_getElem? (i := 928) (by decide +kernel)) rfl, tw_in (List.mem_of_getElem? (i := 7) (by decide +kernel)) rfl⟩
theorem lk_RL_45 : LV RL 45 yX11_end := ⟨tw_in (List.mem_of_getElem? (i := 930) (by decide +kernel)) rfl, tw_in (List.mem_of_getElem? (i := 931) (by decide +kernel)) rfl, tw_in (List.mem_of_getElem? (i := 932) (by decide +kernel)) rfl⟩
theorem lk_RL_50 : LV RL 50 yX11_spans := ⟨tw_in (List.mem_of_getElem? (i := 934) (by decide +kernel)) rfl, tw_in (List.mem_of_getElem? (i := 935) (by decide +kernel)) rfl, tw_in (List.mem_of_getElem? (i := 936) (by decide +kernel)) rfl⟩
theorem lk_RX11_176 : LV RX11 176 yX11_see := ⟨tw_in (List.mem_of_getElem? (i := 938) (by decide +kernel)) rfl, tw_in (List.mem_of_getElem? (i := 940) (by decide +kernel)) rfl, tw_in (List.mem_of_getElem? (i := 8) (by decide +kernel)) rfl⟩
theorem lk_RX11_200 : LV RX11 200 yX11_span := ⟨tw_in (List.mem_of_getElem? (i := 942) (by decide +kernel)) rfl, tw_in (List.mem_of_getElem? (i := 944) (by decide +kernel)) rfl, tw_in (List.mem_of_getElem? (i := 9) (by decide +kernel)) rfl⟩
theorem lk_RX11_184 : LV RX11 184 yX11_fails := ⟨tw_in (List.mem_of_getElem? (i := 946) (by decide +kernel)) rfl, tw_in (List.mem_of_getElem? (i := 948) (by decide +kernel)) rfl, tw_in (List.mem_of_getElem? (i := 10) (by decide +kernel)) rfl⟩
theorem lk_RX11_194 : LV RX11 194 yX11_isTwice := ⟨tw_in (List.mem_of_getElem? (i := 950) (by decide +kernel)) rfl, tw_in (List.mem_of_getElem? (i := 952) (by decide +kernel)) rfl, tw_in (List.mem_of_getElem? (i := 11) (by decide +kernel)) rfl⟩
theorem lk_RX11_197 : LV RX11 197 yX11_number := ⟨tw_in (List.mem_of_getElem? (i := 954) (by decide +kernel)) rfl, tw_in (List.mem_of_getElem? (i := 956) (by decide +kernel)) rfl, tw_in (List.mem_of_getElem? (i := 12) (by decide +kernel)) rfl⟩
theorem lk_RX11_180 : LkS RX11 180 yX11_isDigit := ⟨tw_in (List.mem_of_getElem? (i := 958) (by decide +kernel)) rfl, tw_in (List.mem_of_getElem? (i := 959) (by decide +kernel)) rfl⟩
theorem lk_RL_55 : LV RL 55 yX11_lay := ⟨tw_in (List.mem_of_getElem? (i := 961) (by decide +kernel)) rfl, tw_in (List.mem_of_getElem? (i := 962) (by decide +kernel)) rfl, tw_in (List.mem_of_getElem? (i := 963) (by decide +kernel)) rfl⟩
theorem lk_RX11_207 : LkS RX11 207 yX11_isPot := ⟨tw_in (List.mem_of_getElem? (i := 965) (by decide +kernel)) rfl, tw_in (List.mem_of_getElem? (i := 966) (by decide +kernel)) rfl⟩
theorem lk_RL_59 : LV RL 59 yX11_buy := ⟨tw_in (List.mem_of_getElem? (i := 968) (by decide +kernel)) rfl, tw_in (List.mem_of_getElem? (i := 969) (by decide +kernel)) rfl, tw_in (List.mem_of_getElem? (i := 970) (by decide +kernel)) rfl⟩
theorem ct_RX11_216 : Cond.constant RX11 216 (100000) ∈ TW := tw_in (List.mem_of_getElem? (i := 972) (by decide +kernel)) rfl
theorem lk_RL_63 : LV RL 63 yX11_drop := ⟨tw_in (List.mem_of_getElem? (i := 973) (by decide +kernel)) rfl, tw_in (List.mem_of_getElem? (i := 974) (by decide +kernel)) rfl, tw_in (List.mem_of_getElem? (i := 975) (by decide +kernel)) rfl⟩
theorem lk_RL_84 : LV RL 84 yX11_pot := ⟨tw_in (List.mem_of_getElem? (i := 977) (by decide +kernel)) rfl, tw_in (List.mem_of_getElem? (i := 978) (by decide +kernel)) rfl, tw_in (List.mem_of_getElem? (i := 979) (by decide +kernel)) rfl⟩
theorem lk_RX11_217 : LV RX11 217 yX11_isReady := ⟨tw_in (List.mem_of_getElem? (i := 981) (by decide +kernel)) rfl, tw_in (List.mem_of_getElem? (i := 983) (by decide +kernel)) rfl, tw_in (List.mem_of_getElem? (i := 13) (by decide +kernel)) rfl⟩
theorem lk_RL_68 : LV RL 68 yX11_kind := ⟨tw_in (List.mem_of_getElem? (i := 985) (by decide +kernel)) rfl, tw_in (List.mem_of_getElem? (i := 986) (by decide +kernel)) rfl, tw_in (List.mem_of_getElem? (i := 987) (by decide +kernel)) rfl⟩
theorem lk_RL_72 : LV RL 72 yX11_blow := ⟨tw_in (List.mem_of_getElem? (i := 989) (by decide +kernel)) rfl, tw_in (List.mem_of_getElem? (i := 990) (by decide +kernel)) rfl, tw_in (List.mem_of_getElem? (i := 991) (by decide +kernel)) rfl⟩
theorem lk_RX11_220 : LV RX11 220 yX11_firstBay := ⟨tw_in (List.mem_of_getElem? (i := 993) (by decide +kernel)) rfl, tw_in (List.mem_of_getElem? (i := 995) (by decide +kernel)) rfl, tw_in (List.mem_of_getElem? (i := 14) (by decide +kernel)) rfl⟩
theorem lk_RL_76 : LV RL 76 yX11_open := ⟨tw_in (List.mem_of_getElem? (i := 997) (by decide +kernel)) rfl, tw_in (List.mem_of_getElem? (i := 998) (by decide +kernel)) rfl, tw_in (List.mem_of_getElem? (i := 999) (by decide +kernel)) rfl⟩
theorem lk_RL_80 : LV RL 80 yX11_pass := ⟨tw_in (List.mem_of_getElem? (i := 1001) (by decide +kernel)) rfl, tw_in (List.mem_of_getElem? (i := 1002) (by decide +kernel)) rfl, tw_in (List.mem_of_getElem? (i := 1003) (by decide +kernel)) rfl⟩
theorem lk_RX11_226 : LV RX11 226 yX11_hour := ⟨tw_in (List.mem_of_getElem? (i := 1005) (by decide +kernel)) rfl, tw_in (List.mem_of_getElem? (i := 1007) (by decide +kernel)) rfl, tw_in (List.mem_of_getElem? (i := 15) (by decide +kernel)) rfl⟩
theorem lk_RL_88 : LV RL 88 yX11_piece := ⟨tw_in (List.mem_of_getElem? (i := 1009) (by decide +kernel)) rfl, tw_in (List.mem_of_getElem? (i := 1010) (by decide +kernel)) rfl, tw_in (List.mem_of_getElem? (i := 1011) (by decide +kernel)) rfl⟩
theorem lk_RL_92 : LV RL 92 yX11_pay := ⟨tw_in (List.mem_of_getElem? (i := 1013) (by decide +kernel)) rfl, tw_in (List.mem_of_getElem? (i := 1014) (by decide +kernel)) rfl, tw_in (List.mem_of_getElem? (i := 1015) (by decide +kernel)) rfl⟩
theorem lk_RL_96 : LV RL 96 yX11_shift := ⟨tw_in (List.mem_of_getElem? (i := 1017) (by decide +kernel)) rfl, tw_in (List.mem_of_getElem? (i := 1018) (by decide +kernel)) rfl, tw_in (List.mem_of_getElem? (i := 1019) (by decide +kernel)) rfl⟩
theorem ct_RX11_229 : Cond.constant RX11 229 (1204905) ∈ TW := tw_in (List.mem_of_getElem? (i := 1021) (by decide +kernel)) rfl
theorem ct_RX11_230 : Cond.constant RX11 230 (240981) ∈ TW := tw_in (List.mem_of_getElem? (i := 1022) (by decide +kernel)) rfl
theorem lk_RX11_231 : LV RX11 231 yX11_isOf := ⟨tw_in (List.mem_of_getElem? (i := 1023) (by decide +kernel)) rfl, tw_in (List.mem_of_getElem? (i := 1025) (by decide +kernel)) rfl, tw_in (List.mem_of_getElem? (i := 16) (by decide +kernel)) rfl⟩
theorem ct_RX11_234 : Cond.constantLong RX11 234 (1024) ∈ TW := tw_in (List.mem_of_getElem? (i := 1027) (by decide +kernel)) rfl
theorem lk_RL_100 : LV RL 100 yX11_shifted := ⟨tw_in (List.mem_of_getElem? (i := 1028) (by decide +kernel)) rfl, tw_in (List.mem_of_getElem? (i := 1029) (by decide +kernel)) rfl, tw_in (List.mem_of_getElem? (i := 1030) (by decide +kernel)) rfl⟩
theorem lk_RL_104 : LV RL 104 yX11_cost := ⟨tw_in (List.mem_of_getElem? (i := 1032) (by decide +kernel)) rfl, tw_in (List.mem_of_getElem? (i := 1033) (by decide +kernel)) rfl, tw_in (List.mem_of_getElem? (i := 1034) (by decide +kernel)) rfl⟩
theorem lk_RL_108 : LV RL 108 yX11_way := ⟨tw_in (List.mem_of_getElem? (i := 1036) (by decide +kernel)) rfl, tw_in (List.mem_of_getElem? (i := 1037) (by decide +kernel)) rfl, tw_in (List.mem_of_getElem? (i := 1038) (by decide +kernel)) rfl⟩
theorem lk_RL_112 : LV RL 112 yX11_move := ⟨tw_in (List.mem_of_getElem? (i := 1040) (by decide +kernel)) rfl, tw_in (List.mem_of_getElem? (i := 1041) (by decide +kernel)) rfl, tw_in (List.mem_of_getElem? (i := 1042) (by decide +kernel)) rfl⟩
theorem lk_RX11_237 : LV RX11 237 yX11_from := ⟨tw_in (List.mem_of_getElem? (i := 1044) (by decide +kernel)) rfl, tw_in (List.mem_of_getElem? (i := 1046) (by decide +kernel)) rfl, tw_in (List.mem_of_getElem? (i := 17) (by decide +kernel)) rfl⟩
theorem ct_RX11_236 : Cond.constant RX11 236 (2147483647) ∈ TW := tw_in (List.mem_of_getElem? (i := 1048) (by decide +kernel)) rfl
theorem lk_RL_116 : LV RL 116 yX11_moved := ⟨tw_in (List.mem_of_getElem? (i := 1049) (by decide +kernel)) rfl, tw_in (List.mem_of_getElem? (i := 1050) (by decide +kernel)) rfl, tw_in (List.mem_of_getElem? (i := 1051) (by decide +kernel)) rfl⟩
theorem lk_RL_120 : LV RL 120 yX11_count := ⟨tw_in (List.mem_of_getElem? (i := 1053) (by decide +kernel)) rfl, tw_in (List.mem_of_getElem? (i := 1054) (by decide +kernel)) rfl, tw_in (List.mem_of_getElem? (i := 1055) (by decide +kernel)) rfl⟩

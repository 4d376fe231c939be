theorem c7_0 : ClsOK 0 RX1 TX1 5 tyX1 := ⟨rfl, in_good (by decide +kernel) (by decide +kernel), tyX1_ok, nmX1⟩
theorem c7_1 : ClsOK 1 RX3 TX3 5 tyX3 := ⟨rfl, in_good (by decide +kernel) (by decide +kernel), tyX3_ok, nmX3⟩
theorem c7_2 : ClsOK 2 RX4 TX4 19 tyX4 := ⟨rfl, in_good (by decide +kernel) (by decide +kernel), tyX4_ok, nmX4⟩
theorem c7_3 : ClsOK 3 RX5 TX5 5 tyX5 := ⟨rfl, in_good (by decide +kernel) (by decide +kernel), tyX5_ok, nmX5⟩
theorem c7_4 : ClsOK 4 RX6 TX6 5 tyX6 := ⟨rfl, in_good (by decide +kernel) (by decide +kernel), tyX6_ok, nmX6⟩
theorem c7_5 : ClsOK 5 RX7 TX7 8 tyX7 := ⟨rfl, in_good (by decide +kernel) (by decide +kernel), tyX7_ok, nmX7⟩
theorem c7_6 : ClsOK 6 RX8 TX8 22 tyX8 := ⟨rfl, in_good (by decide +kernel) (by decide +kernel), tyX8_ok, nmX8⟩
theorem kc_RX0_9 : Cond.constantLong RX0 9 (4621819117588971520 : Int64) ∈ lw_good := gw 546 (by decide +kernel) (by decide +kernel)
theorem kc_RX0_13 : Cond.constantLong RX0 13 (-9223372036854775808 : Int64) ∈ lw_good := gw 547 (by decide +kernel) (by decide +kernel)
theorem kc_RX0_15 : Cond.constantLong RX0 15 (4503599627370495 : Int64) ∈ lw_good := gw 551 (by decide +kernel) (by decide +kernel)
theorem kc_RX0_17 : Cond.constantLong RX0 17 (4503599627370496 : Int64) ∈ lw_good := gw 552 (by decide +kernel) (by decide +kernel)
set_option maxRecDepth 20000 in
theorem mi_J9_max_7cf53 : MIs yJ9_max_7cf53 cJ9_max_7cf53 2 (some .int) 2 := ⟨gw 555 rfl rfl, gw 554 (by decide +kernel) (by decide +kernel), gw 46 (by decide +kernel) (by decide +kernel), by decide +kernel, by decide +kernel, by decide +kernel⟩
theorem ml_RX0_19 : Cond.methodLink RX0 19 yJ9_max_7cf53 ∈ lw_good := gw 553 (by decide +kernel) (by decide +kernel)
theorem kc_RX0_25 : Cond.constantDouble RX0 25 (4611686018427387904 : UInt64) ∈ lw_good := gw 556 (by decide +kernel) (by decide +kernel)
theorem kc_RX0_27 : Cond.constantDouble RX0 27 (4841369599423283200 : UInt64) ∈ lw_good := gw 564 (by decide +kernel) (by decide +kernel)
set_option maxRecDepth 20000 in
theorem mi_X0_ofDouble : MIs yX0_ofDouble cX0_ofDouble 6 (some .long) 1 := ⟨gw 563 rfl rfl, gw 562 (by decide +kernel) (by decide +kernel), gw 47 (by decide +kernel) (by decide +kernel), by decide +kernel, by decide +kernel, by decide +kernel⟩
theorem ml_RX0_29 : Cond.methodLink RX0 29 yX0_ofDouble ∈ lw_good := gw 582 (by decide +kernel) (by decide +kernel)
theorem fr_RX1_9 : Fld RX1 9 0 0 := Fld.mk c7_0 (by decide) (gw 162 (by decide +kernel) (by decide +kernel))
theorem fw_RX1_9 : FldW RX1 9 0 0 .int := FldW.mk c7_0 (by decide) (gw 162 (by decide +kernel) (by decide +kernel)) rfl (by decide +kernel)
theorem fr_RX1_15 : Fld RX1 15 0 1 := Fld.mk c7_0 (by decide) (gw 164 (by decide +kernel) (by decide +kernel))
theorem fw_RX1_15 : FldW RX1 15 0 1 .int := FldW.mk c7_0 (by decide) (gw 164 (by decide +kernel) (by decide +kernel)) rfl (by decide +kernel)
theorem fr_RX1_18 : Fld RX1 18 0 2 := Fld.mk c7_0 (by decide) (gw 166 (by decide +kernel) (by decide +kernel))
theorem fw_RX1_18 : FldW RX1 18 0 2 .int := FldW.mk c7_0 (by decide) (gw 166 (by decide +kernel) (by decide +kernel)) rfl (by decide +kernel)
theorem fr_RX1_21 : Fld RX1 21 0 3 := Fld.mk c7_0 (by decide) (gw 168 (by decide +kernel) (by decide +kernel))
theorem fw_RX1_21 : FldW RX1 21 0 3 .int := FldW.mk c7_0 (by decide) (gw 168 (by decide +kernel) (by decide +kernel)) rfl (by decide +kernel)
theorem fr_RX1_26 : Fld RX1 26 0 4 := Fld.mk c7_0 (by decide) (gw 170 (by decide +kernel) (by decide +kernel))
set_option maxRecDepth 20000 in
theorem mi_X4_copyFrom : MIv yX4_copyFrom cX4_copyFrom 2 none 1 := ⟨gw 606 rfl rfl, gw 604 (by decide +kernel) (by decide +kernel), gw 605 (by decide +kernel) (by decide +kernel), gw 40 (by decide +kernel) (by decide +kernel), by decide +kernel, by decide +kernel, by decide +kernel⟩
theorem ml_RX1_31 : Cond.methodLink RX1 31 yX4_copyFrom ∈ lw_good := gw 657 (by decide +kernel) (by decide +kernel)
theorem kc_RX1_35 : Cond.constantLong RX1 35 (100000000 : Int64) ∈ lw_good := gw 359 (by decide +kernel) (by decide +kernel)
set_option maxRecDepth 20000 in
theorem mi_X7_isRate : MIs yX7_isRate cX7_isRate 1 (some .boolean) 1 := ⟨gw 327 rfl rfl, gw 326 (by decide +kernel) (by decide +kernel), gw 38 (by decide +kernel) (by decide +kernel), by decide +kernel, by decide +kernel, by decide +kernel⟩
set_option maxRecDepth 20000 in
theorem mi_X7_isWithin : MIs yX7_isWithin cX7_isWithin 3 (some .boolean) 3 := ⟨gw 300 rfl rfl, gw 299 (by decide +kernel) (by decide +kernel), gw 38 (by decide +kernel) (by decide +kernel), by decide +kernel, by decide +kernel, by decide +kernel⟩
set_option maxRecDepth 20000 in
theorem mi_X2_monthOf : MIs yX2_monthOf cX2_monthOf 5 (some .int) 1 := ⟨gw 303 rfl rfl, gw 302 (by decide +kernel) (by decide +kernel), gw 45 (by decide +kernel) (by decide +kernel), by decide +kernel, by decide +kernel, by decide +kernel⟩
set_option maxRecDepth 20000 in
theorem mi_X2_firstOf : MIs yX2_firstOf cX2_firstOf 3 (some .int) 1 := ⟨gw 308 rfl rfl, gw 307 (by decide +kernel) (by decide +kernel), gw 45 (by decide +kernel) (by decide +kernel), by decide +kernel, by decide +kernel, by decide +kernel⟩
theorem kc_RX1_54 : Cond.constant RX1 54 (36524 : Int32) ∈ lw_good := gw 364 (by decide +kernel) (by decide +kernel)
set_option maxRecDepth 20000 in
theorem mi_X4_clear : MIv yX4_clear cX4_clear 1 none 0 := ⟨gw 368 rfl rfl, gw 366 (by decide +kernel) (by decide +kernel), gw 367 (by decide +kernel) (by decide +kernel), gw 40 (by decide +kernel) (by decide +kernel), by decide +kernel, by decide +kernel, by decide +kernel⟩
theorem fw_RX1_58 : FldW RX1 58 2 0 .long := FldW.mk c7_2 (by decide) (gw 75 (by decide +kernel) (by decide +kernel)) rfl (by decide +kernel)
theorem fw_RX1_62 : FldW RX1 62 2 1 .long := FldW.mk c7_2 (by decide) (gw 79 (by decide +kernel) (by decide +kernel)) rfl (by decide +kernel)
theorem fw_RX1_65 : FldW RX1 65 2 7 .int := FldW.mk c7_2 (by decide) (gw 92 (by decide +kernel) (by decide +kernel)) rfl (by decide +kernel)
theorem fw_RX1_68 : FldW RX1 68 2 8 .int := FldW.mk c7_2 (by decide) (gw 95 (by decide +kernel) (by decide +kernel)) rfl (by decide +kernel)
theorem fw_RX1_71 : FldW RX1 71 2 9 .int := FldW.mk c7_2 (by decide) (gw 98 (by decide +kernel) (by decide +kernel)) rfl (by decide +kernel)
theorem fw_RX1_74 : FldW RX1 74 2 10 .int := FldW.mk c7_2 (by decide) (gw 101 (by decide +kernel) (by decide +kernel)) rfl (by decide +kernel)
theorem fw_RX1_77 : FldW RX1 77 2 11 .int := FldW.mk c7_2 (by decide) (gw 105 (by decide +kernel) (by decide +kernel)) rfl (by decide +kernel)
set_option maxRecDepth 20000 in
theorem mi_X4_layPeriods : MIv yX4_layPeriods cX4_layPeriods 5 none 1 := ⟨gw 376 rfl rfl, gw 374 (by decide +kernel) (by decide +kernel), gw 375 (by decide +kernel) (by decide +kernel), gw 40 (by decide +kernel) (by decide +kernel), by decide +kernel, by decide +kernel, by decide +kernel⟩
set_option maxRecDepth 20000 in
theorem mi_X4_findLevel : MIv yX4_findLevel cX4_findLevel 8 none 0 := ⟨gw 385 rfl rfl, gw 383 (by decide +kernel) (by decide +kernel), gw 384 (by decide +kernel) (by decide +kernel), gw 40 (by decide +kernel) (by decide +kernel), by decide +kernel, by decide +kernel, by decide +kernel⟩
theorem ml_RX1_84 : Cond.methodLink RX1 84 yX4_findLevel ∈ lw_good := gw 382 (by decide +kernel) (by decide +kernel)
theorem ml_RX1_80 : Cond.methodLink RX1 80 yX4_layPeriods ∈ lw_good := gw 373 (by decide +kernel) (by decide +kernel)
theorem ml_RX1_55 : Cond.methodLink RX1 55 yX4_clear ∈ lw_good := gw 365 (by decide +kernel) (by decide +kernel)
theorem ml_RX1_51 : Cond.methodLink RX1 51 yX2_firstOf ∈ lw_good := gw 363 (by decide +kernel) (by decide +kernel)
theorem ml_RX1_45 : Cond.methodLink RX1 45 yX2_monthOf ∈ lw_good := gw 362 (by decide +kernel) (by decide +kernel)
set_option maxRecDepth 20000 in
theorem mi_X4_endPeriods : MIv yX4_endPeriods cX4_endPeriods 4 (some .int) 1 := ⟨gw 417 rfl rfl, gw 415 (by decide +kernel) (by decide +kernel), gw 416 (by decide +kernel) (by decide +kernel), gw 40 (by decide +kernel) (by decide +kernel), by decide +kernel, by decide +kernel, by decide +kernel⟩
set_option maxRecDepth 20000 in
theorem mi_X4_chargeLate : MIv yX4_chargeLate cX4_chargeLate 7 none 4 := ⟨gw 429 rfl rfl, gw 427 (by decide +kernel) (by decide +kernel), gw 428 (by decide +kernel) (by decide +kernel), gw 40 (by decide +kernel) (by decide +kernel), by decide +kernel, by decide +kernel, by decide +kernel⟩
theorem ml_RX1_90 : Cond.methodLink RX1 90 yX4_chargeLate ∈ lw_good := gw 426 (by decide +kernel) (by decide +kernel)
theorem ml_RX1_87 : Cond.methodLink RX1 87 yX4_endPeriods ∈ lw_good := gw 414 (by decide +kernel) (by decide +kernel)
set_option maxRecDepth 20000 in
theorem mi_X4_billsInArrears : MIv yX4_billsInArrears cX4_billsInArrears 3 (some .int) 0 := ⟨gw 484 rfl rfl, gw 482 (by decide +kernel) (by decide +kernel), gw 483 (by decide +kernel) (by decide +kernel), gw 40 (by decide +kernel) (by decide +kernel), by decide +kernel, by decide +kernel, by decide +kernel⟩
theorem ml_RX1_94 : Cond.methodLink RX1 94 yX4_billsInArrears ∈ lw_good := gw 725 (by decide +kernel) (by decide +kernel)
set_option maxRecDepth 20000 in
theorem mi_X4_isSettled : MIv yX4_isSettled cX4_isSettled 1 (some .boolean) 0 := ⟨gw 463 rfl rfl, gw 461 (by decide +kernel) (by decide +kernel), gw 462 (by decide +kernel) (by decide +kernel), gw 40 (by decide +kernel) (by decide +kernel), by decide +kernel, by decide +kernel, by decide +kernel⟩
theorem ml_RX1_98 : Cond.methodLink RX1 98 yX4_isSettled ∈ lw_good := gw 730 (by decide +kernel) (by decide +kernel)
theorem gs_RX2_9 : Cond.fieldLink RX2 9 "LoanBook$Dates" "DAYS_AHEAD" "[I" ∈ lw_good := gw 304 (by decide +kernel) (by decide +kernel)
set_option maxRecDepth 20000 in
theorem mi_J9_floorMod_7cf53 : MIs yJ9_floorMod_7cf53 cJ9_floorMod_7cf53 3 (some .int) 2 := ⟨gw 311 rfl rfl, gw 310 (by decide +kernel) (by decide +kernel), gw 46 (by decide +kernel) (by decide +kernel), by decide +kernel, by decide +kernel, by decide +kernel⟩
theorem ml_RX2_13 : Cond.methodLink RX2 13 yJ9_floorMod_7cf53 ∈ lw_good := gw 309 (by decide +kernel) (by decide +kernel)
theorem ml_RX2_19 : Cond.methodLink RX2 19 yX2_firstOf ∈ lw_good := gw 319 (by decide +kernel) (by decide +kernel)
set_option maxRecDepth 20000 in
theorem mi_X2_leapYearDays : MIs yX2_leapYearDays cX2_leapYearDays 1 (some .int) 1 := ⟨gw 341 rfl rfl, gw 340 (by decide +kernel) (by decide +kernel), gw 45 (by decide +kernel) (by decide +kernel), by decide +kernel, by decide +kernel, by decide +kernel⟩
theorem kc_RX2_29 : Cond.constantLong RX2 29 (365 : Int64) ∈ lw_good := gw 342 (by decide +kernel) (by decide +kernel)
theorem kc_RX2_31 : Cond.constantLong RX2 31 (366 : Int64) ∈ lw_good := gw 343 (by decide +kernel) (by decide +kernel)
theorem ml_RX2_26 : Cond.methodLink RX2 26 yX2_leapYearDays ∈ lw_good := gw 339 (by decide +kernel) (by decide +kernel)
set_option maxRecDepth 20000 in
theorem mi_X2_thirties : MIs yX2_thirties cX2_thirties 2 (some .int) 1 := ⟨gw 334 rfl rfl, gw 333 (by decide +kernel) (by decide +kernel), gw 45 (by decide +kernel) (by decide +kernel), by decide +kernel, by decide +kernel, by decide +kernel⟩
theorem ml_RX2_23 : Cond.methodLink RX2 23 yX2_thirties ∈ lw_good := gw 332 (by decide +kernel) (by decide +kernel)
theorem kc_RX2_35 : Cond.constantLong RX2 35 (133590 : Int64) ∈ lw_good := gw 348 (by decide +kernel) (by decide +kernel)
theorem kc_RX2_33 : Cond.constantLong RX2 33 (360 : Int64) ∈ lw_good := gw 347 (by decide +kernel) (by decide +kernel)
theorem kc_RX2_37 : Cond.constantLong RX2 37 (10000 : Int64) ∈ lw_good := gw 349 (by decide +kernel) (by decide +kernel)
theorem kc_RX2_39 : Cond.constantLong RX2 39 (2 : Int64) ∈ lw_good := gw 350 (by decide +kernel) (by decide +kernel)
set_option maxRecDepth 20000 in
theorem mi_J9_min_7cf53 : MIs yJ9_min_7cf53 cJ9_min_7cf53 2 (some .int) 2 := ⟨gw 338 rfl rfl, gw 337 (by decide +kernel) (by decide +kernel), gw 46 (by decide +kernel) (by decide +kernel), by decide +kernel, by decide +kernel, by decide +kernel⟩
theorem ml_RX2_44 : Cond.methodLink RX2 44 yJ9_min_7cf53 ∈ lw_good := gw 336 (by decide +kernel) (by decide +kernel)
theorem ml_RX2_41 : Cond.methodLink RX2 41 yX2_monthOf ∈ lw_good := gw 335 (by decide +kernel) (by decide +kernel)
theorem fw_RX3_11 : FldW RX3 11 1 0 .int := FldW.mk c7_1 (by decide) (gw 244 (by decide +kernel) (by decide +kernel)) rfl (by decide +kernel)
theorem fw_RX3_15 : FldW RX3 15 1 1 .int := FldW.mk c7_1 (by decide) (gw 246 (by decide +kernel) (by decide +kernel)) rfl (by decide +kernel)
theorem fw_RX3_21 : FldW RX3 21 1 3 .long := FldW.mk c7_1 (by decide) (gw 250 (by decide +kernel) (by decide +kernel)) rfl (by decide +kernel)
theorem fw_RX3_18 : FldW RX3 18 1 2 .int := FldW.mk c7_1 (by decide) (gw 248 (by decide +kernel) (by decide +kernel)) rfl (by decide +kernel)
theorem fr_RX3_25 : Fld RX3 25 1 4 := Fld.mk c7_1 (by decide) (gw 252 (by decide +kernel) (by decide +kernel))
set_option maxRecDepth 20000 in
theorem mi_J7_fill_d0a16 : MIs yJ7_fill_d0a16 cJ7_fill_d0a16 5 none 2 := ⟨gw 699 rfl rfl, gw 698 (by decide +kernel) (by decide +kernel), gw 52 (by decide +kernel) (by decide +kernel), by decide +kernel, by decide +kernel, by decide +kernel⟩
theorem ml_RX3_29 : Cond.methodLink RX3 29 yJ7_fill_d0a16 ∈ lw_good := gw 697 (by decide +kernel) (by decide +kernel)
theorem fr_RX4_32 : Fld RX4 32 2 0 := Fld.mk c7_2 (by decide) (gw 74 (by decide +kernel) (by decide +kernel))
theorem fw_RX4_32 : FldW RX4 32 2 0 .long := FldW.mk c7_2 (by decide) (gw 74 (by decide +kernel) (by decide +kernel)) rfl (by decide +kernel)
theorem fr_RX4_36 : Fld RX4 36 2 1 := Fld.mk c7_2 (by decide) (gw 77 (by decide +kernel) (by decide +kernel))
theorem fw_RX4_36 : FldW RX4 36 2 1 .long := FldW.mk c7_2 (by decide) (gw 77 (by decide +kernel) (by decide +kernel)) rfl (by decide +kernel)
theorem fr_RX4_39 : Fld RX4 39 2 2 := Fld.mk c7_2 (by decide) (gw 81 (by decide +kernel) (by decide +kernel))
theorem fw_RX4_39 : FldW RX4 39 2 2 .long := FldW.mk c7_2 (by decide) (gw 81 (by decide +kernel) (by decide +kernel)) rfl (by decide +kernel)
theorem fr_RX4_42 : Fld RX4 42 2 3 := Fld.mk c7_2 (by decide) (gw 83 (by decide +kernel) (by decide +kernel))
theorem fw_RX4_42 : FldW RX4 42 2 3 .long := FldW.mk c7_2 (by decide) (gw 83 (by decide +kernel) (by decide +kernel)) rfl (by decide +kernel)
theorem fr_RX4_45 : Fld RX4 45 2 4 := Fld.mk c7_2 (by decide) (gw 85 (by decide +kernel) (by decide +kernel))
theorem fw_RX4_45 : FldW RX4 45 2 4 .long := FldW.mk c7_2 (by decide) (gw 85 (by decide +kernel) (by decide +kernel)) rfl (by decide +kernel)
theorem fr_RX4_48 : Fld RX4 48 2 5 := Fld.mk c7_2 (by decide) (gw 87 (by decide +kernel) (by decide +kernel))
theorem fw_RX4_48 : FldW RX4 48 2 5 .long := FldW.mk c7_2 (by decide) (gw 87 (by decide +kernel) (by decide +kernel)) rfl (by decide +kernel)
theorem fr_RX4_51 : Fld RX4 51 2 6 := Fld.mk c7_2 (by decide) (gw 89 (by decide +kernel) (by decide +kernel))
theorem fw_RX4_51 : FldW RX4 51 2 6 .long := FldW.mk c7_2 (by decide) (gw 89 (by decide +kernel) (by decide +kernel)) rfl (by decide +kernel)
theorem fr_RX4_54 : Fld RX4 54 2 7 := Fld.mk c7_2 (by decide) (gw 91 (by decide +kernel) (by decide +kernel))
theorem fw_RX4_54 : FldW RX4 54 2 7 .int := FldW.mk c7_2 (by decide) (gw 91 (by decide +kernel) (by decide +kernel)) rfl (by decide +kernel)
theorem fr_RX4_58 : Fld RX4 58 2 8 := Fld.mk c7_2 (by decide) (gw 94 (by decide +kernel) (by decide +kernel))
theorem fw_RX4_58 : FldW RX4 58 2 8 .int := FldW.mk c7_2 (by decide) (gw 94 (by decide +kernel) (by decide +kernel)) rfl (by decide +kernel)
theorem fr_RX4_61 : Fld RX4 61 2 9 := Fld.mk c7_2 (by decide) (gw 97 (by decide +kernel) (by decide +kernel))
theorem fw_RX4_61 : FldW RX4 61 2 9 .int := FldW.mk c7_2 (by decide) (gw 97 (by decide +kernel) (by decide +kernel)) rfl (by decide +kernel)
theorem fr_RX4_64 : Fld RX4 64 2 10 := Fld.mk c7_2 (by decide) (gw 100 (by decide +kernel) (by decide +kernel))
theorem fw_RX4_64 : FldW RX4 64 2 10 .int := FldW.mk c7_2 (by decide) (gw 100 (by decide +kernel) (by decide +kernel)) rfl (by decide +kernel)
theorem fr_RX4_67 : Fld RX4 67 2 11 := Fld.mk c7_2 (by decide) (gw 104 (by decide +kernel) (by decide +kernel))
theorem fw_RX4_67 : FldW RX4 67 2 11 .int := FldW.mk c7_2 (by decide) (gw 104 (by decide +kernel) (by decide +kernel)) rfl (by decide +kernel)
theorem fr_RX4_70 : Fld RX4 70 2 12 := Fld.mk c7_2 (by decide) (gw 108 (by decide +kernel) (by decide +kernel))
theorem fw_RX4_70 : FldW RX4 70 2 12 .int := FldW.mk c7_2 (by decide) (gw 108 (by decide +kernel) (by decide +kernel)) rfl (by decide +kernel)
theorem fr_RX4_9 : Fld RX4 9 2 13 := Fld.mk c7_2 (by decide) (gw 110 (by decide +kernel) (by decide +kernel))
theorem ml_RX4_73 : Cond.methodLink RX4 73 arraycopyName ∈ lw_good := gw 607 (by decide +kernel) (by decide +kernel)
theorem ac_nat : Cond.native arraycopyName ∈ lw_good := gw 609 (by decide +kernel) (by decide +kernel)
theorem ac_sta : Cond.static arraycopyName ∈ lw_good := gw 608 (by decide +kernel) (by decide +kernel)
theorem ac_ini : Cond.initialized "java/lang/System" ∈ lw_good := gw 51 (by decide +kernel) (by decide +kernel)
theorem fr_RX4_15 : Fld RX4 15 2 14 := Fld.mk c7_2 (by decide) (gw 112 (by decide +kernel) (by decide +kernel))
theorem fr_RX4_19 : Fld RX4 19 2 15 := Fld.mk c7_2 (by decide) (gw 113 (by decide +kernel) (by decide +kernel))
theorem fr_RX4_22 : Fld RX4 22 2 16 := Fld.mk c7_2 (by decide) (gw 115 (by decide +kernel) (by decide +kernel))
theorem fr_RX4_25 : Fld RX4 25 2 17 := Fld.mk c7_2 (by decide) (gw 117 (by decide +kernel) (by decide +kernel))
theorem fr_RX4_28 : Fld RX4 28 2 18 := Fld.mk c7_2 (by decide) (gw 119 (by decide +kernel) (by decide +kernel))
set_option maxRecDepth 20000 in
theorem mi_X4_clearArrears : MIv yX4_clearArrears cX4_clearArrears 2 none 0 := ⟨gw 372 rfl rfl, gw 370 (by decide +kernel) (by decide +kernel), gw 371 (by decide +kernel) (by decide +kernel), gw 40 (by decide +kernel) (by decide +kernel), by decide +kernel, by decide +kernel, by decide +kernel⟩
theorem ml_RX4_79 : Cond.methodLink RX4 79 yX4_clearArrears ∈ lw_good := gw 369 (by decide +kernel) (by decide +kernel)
theorem ml_RX4_88 : Cond.methodLink RX4 88 yX2_firstOf ∈ lw_good := gw 378 (by decide +kernel) (by decide +kernel)
theorem ml_RX4_82 : Cond.methodLink RX4 82 yX2_monthOf ∈ lw_good := gw 377 (by decide +kernel) (by decide +kernel)
set_option maxRecDepth 20000 in
theorem mi_X2_lengthOf : MIs yX2_lengthOf cX2_lengthOf 1 (some .int) 1 := ⟨gw 318 rfl rfl, gw 317 (by decide +kernel) (by decide +kernel), gw 45 (by decide +kernel) (by decide +kernel), by decide +kernel, by decide +kernel, by decide +kernel⟩
set_option maxRecDepth 20000 in
theorem mi_X2_partsBetween : MIs yX2_partsBetween cX2_partsBetween 5 (some .long) 3 := ⟨gw 331 rfl rfl, gw 330 (by decide +kernel) (by decide +kernel), gw 45 (by decide +kernel) (by decide +kernel), by decide +kernel, by decide +kernel, by decide +kernel⟩
theorem ml_RX4_100 : Cond.methodLink RX4 100 yX2_partsBetween ∈ lw_good := gw 381 (by decide +kernel) (by decide +kernel)
theorem ml_RX4_94 : Cond.methodLink RX4 94 yJ9_min_7cf53 ∈ lw_good := gw 380 (by decide +kernel) (by decide +kernel)
theorem ml_RX4_91 : Cond.methodLink RX4 91 yX2_lengthOf ∈ lw_good := gw 379 (by decide +kernel) (by decide +kernel)
set_option maxRecDepth 20000 in
theorem mi_X2_cents : MIs yX2_cents cX2_cents 9 (some .long) 3 := ⟨gw 346 rfl rfl, gw 345 (by decide +kernel) (by decide +kernel), gw 45 (by decide +kernel) (by decide +kernel), by decide +kernel, by decide +kernel, by decide +kernel⟩
theorem ml_RX4_104 : Cond.methodLink RX4 104 yX2_cents ∈ lw_good := gw 396 (by decide +kernel) (by decide +kernel)
set_option maxRecDepth 20000 in
theorem mi_X4_repaidBy : MIs yX4_repaidBy cX4_repaidBy 6 (some .long) 3 := ⟨gw 399 rfl rfl, gw 398 (by decide +kernel) (by decide +kernel), gw 40 (by decide +kernel) (by decide +kernel), by decide +kernel, by decide +kernel, by decide +kernel⟩
theorem ml_RX4_108 : Cond.methodLink RX4 108 yX4_repaidBy ∈ lw_good := gw 397 (by decide +kernel) (by decide +kernel)
set_option maxRecDepth 20000 in
theorem mi_J9_max_f86c9 : MIs yJ9_max_f86c9 cJ9_max_f86c9 4 (some .long) 2 := ⟨gw 402 rfl rfl, gw 401 (by decide +kernel) (by decide +kernel), gw 46 (by decide +kernel) (by decide +kernel), by decide +kernel, by decide +kernel, by decide +kernel⟩
set_option maxRecDepth 20000 in
theorem mi_J9_min_f86c9 : MIs yJ9_min_f86c9 cJ9_min_f86c9 4 (some .long) 2 := ⟨gw 405 rfl rfl, gw 404 (by decide +kernel) (by decide +kernel), gw 46 (by decide +kernel) (by decide +kernel), by decide +kernel, by decide +kernel, by decide +kernel⟩
theorem ml_RX4_116 : Cond.methodLink RX4 116 yJ9_min_f86c9 ∈ lw_good := gw 403 (by decide +kernel) (by decide +kernel)
theorem ml_RX4_112 : Cond.methodLink RX4 112 yJ9_max_f86c9 ∈ lw_good := gw 400 (by decide +kernel) (by decide +kernel)
theorem kc_RX4_118 : Cond.constantLong RX4 118 (200000000 : Int64) ∈ lw_good := gw 386 (by decide +kernel) (by decide +kernel)
theorem kc_RX4_120 : Cond.constantLong RX4 120 (2 : Int64) ∈ lw_good := gw 387 (by decide +kernel) (by decide +kernel)
set_option maxRecDepth 20000 in
theorem mi_X4_isRepaidBy : MIv yX4_isRepaidBy cX4_isRepaidBy 6 (some .boolean) 1 := ⟨gw 391 rfl rfl, gw 390 (by decide +kernel) (by decide +kernel), gw 0 (by decide +kernel) (by decide +kernel), gw 40 (by decide +kernel) (by decide +kernel), by decide +kernel, by decide +kernel, by decide +kernel⟩
theorem ml_RX4_122 : Cond.methodLink RX4 122 yX4_isRepaidBy ∈ lw_good := gw 388 (by decide +kernel) (by decide +kernel)
set_option maxRecDepth 20000 in
theorem mi_X4_interestOf : MIv yX4_interestOf cX4_interestOf 4 (some .long) 2 := ⟨gw 395 rfl rfl, gw 393 (by decide +kernel) (by decide +kernel), gw 394 (by decide +kernel) (by decide +kernel), gw 40 (by decide +kernel) (by decide +kernel), by decide +kernel, by decide +kernel, by decide +kernel⟩
theorem ml_RX4_126 : Cond.methodLink RX4 126 yX4_interestOf ∈ lw_good := gw 392 (by decide +kernel) (by decide +kernel)
set_option maxRecDepth 20000 in
theorem mi_X4_principalOf : MIv yX4_principalOf cX4_principalOf 7 (some .long) 3 := ⟨gw 421 rfl rfl, gw 419 (by decide +kernel) (by decide +kernel), gw 420 (by decide +kernel) (by decide +kernel), gw 40 (by decide +kernel) (by decide +kernel), by decide +kernel, by decide +kernel, by decide +kernel⟩
set_option maxRecDepth 20000 in
theorem mi_X4_asks : MIv yX4_asks cX4_asks 2 (some .long) 1 := ⟨gw 425 rfl rfl, gw 423 (by decide +kernel) (by decide +kernel), gw 424 (by decide +kernel) (by decide +kernel), gw 40 (by decide +kernel) (by decide +kernel), by decide +kernel, by decide +kernel, by decide +kernel⟩
theorem ml_RX4_134 : Cond.methodLink RX4 134 yX4_asks ∈ lw_good := gw 422 (by decide +kernel) (by decide +kernel)
theorem ml_RX4_130 : Cond.methodLink RX4 130 yX4_principalOf ∈ lw_good := gw 418 (by decide +kernel) (by decide +kernel)
set_option maxRecDepth 20000 in
theorem mi_X4_payBill : MIv yX4_payBill cX4_payBill 10 (some .long) 2 := ⟨gw 449 rfl rfl, gw 448 (by decide +kernel) (by decide +kernel), gw 1 (by decide +kernel) (by decide +kernel), gw 40 (by decide +kernel) (by decide +kernel), by decide +kernel, by decide +kernel, by decide +kernel⟩
theorem ml_RX4_138 : Cond.methodLink RX4 138 yX4_payBill ∈ lw_good := gw 446 (by decide +kernel) (by decide +kernel)
theorem ml_RX4_141 : Cond.methodLink RX4 141 yX4_findLevel ∈ lw_good := gw 450 (by decide +kernel) (by decide +kernel)
set_option maxRecDepth 20000 in
theorem mi_X4_owed : MIv yX4_owed cX4_owed 4 (some .long) 0 := ⟨gw 467 rfl rfl, gw 465 (by decide +kernel) (by decide +kernel), gw 466 (by decide +kernel) (by decide +kernel), gw 40 (by decide +kernel) (by decide +kernel), by decide +kernel, by decide +kernel, by decide +kernel⟩
theorem ml_RX4_144 : Cond.methodLink RX4 144 yX4_owed ∈ lw_good := gw 464 (by decide +kernel) (by decide +kernel)
set_option maxRecDepth 20000 in
theorem mi_X4_periodOfBill : MIv yX4_periodOfBill cX4_periodOfBill 4 (some .int) 1 := ⟨gw 492 rfl rfl, gw 490 (by decide +kernel) (by decide +kernel), gw 491 (by decide +kernel) (by decide +kernel), gw 40 (by decide +kernel) (by decide +kernel), by decide +kernel, by decide +kernel, by decide +kernel⟩
theorem ml_RX4_148 : Cond.methodLink RX4 148 yX4_periodOfBill ∈ lw_good := gw 489 (by decide +kernel) (by decide +kernel)
theorem fr_RX5_28 : Fld RX5 28 2 12 := Fld.mk c7_2 (by decide) (gw 107 (by decide +kernel) (by decide +kernel))
theorem fw_RX5_9 : FldW RX5 9 3 0 .int := FldW.mk c7_3 (by decide) (gw 191 (by decide +kernel) (by decide +kernel)) rfl (by decide +kernel)
theorem fr_RX5_31 : Fld RX5 31 2 11 := Fld.mk c7_2 (by decide) (gw 103 (by decide +kernel) (by decide +kernel))
theorem fw_RX5_15 : FldW RX5 15 3 1 .int := FldW.mk c7_3 (by decide) (gw 192 (by decide +kernel) (by decide +kernel)) rfl (by decide +kernel)
theorem fr_RX5_32 : Fld RX5 32 2 1 := Fld.mk c7_2 (by decide) (gw 78 (by decide +kernel) (by decide +kernel))
theorem fr_RX5_9 : Fld RX5 9 3 0 := Fld.mk c7_3 (by decide) (gw 191 (by decide +kernel) (by decide +kernel))
theorem fr_RX5_15 : Fld RX5 15 3 1 := Fld.mk c7_3 (by decide) (gw 192 (by decide +kernel) (by decide +kernel))
theorem fr_RX5_18 : Fld RX5 18 3 2 := Fld.mk c7_3 (by decide) (gw 193 (by decide +kernel) (by decide +kernel))
theorem fr_RX5_22 : Fld RX5 22 3 3 := Fld.mk c7_3 (by decide) (gw 195 (by decide +kernel) (by decide +kernel))
theorem fr_RX5_25 : Fld RX5 25 3 4 := Fld.mk c7_3 (by decide) (gw 197 (by decide +kernel) (by decide +kernel))
theorem ml_RX5_39 : Cond.methodLink RX5 39 yX4_principalOf ∈ lw_good := gw 503 (by decide +kernel) (by decide +kernel)
theorem ml_RX5_35 : Cond.methodLink RX5 35 yX4_interestOf ∈ lw_good := gw 502 (by decide +kernel) (by decide +kernel)
set_option maxRecDepth 20000 in
theorem mi_X5_flow : MIv yX5_flow cX5_flow 2 (some .long) 1 := ⟨gw 525 rfl rfl, gw 523 (by decide +kernel) (by decide +kernel), gw 524 (by decide +kernel) (by decide +kernel), gw 41 (by decide +kernel) (by decide +kernel), by decide +kernel, by decide +kernel, by decide +kernel⟩
theorem ml_RX5_43 : Cond.methodLink RX5 43 yX5_flow ∈ lw_good := gw 522 (by decide +kernel) (by decide +kernel)
theorem ml_RX5_47 : Cond.methodLink RX5 47 yJ9_max_f86c9 ∈ lw_good := gw 538 (by decide +kernel) (by decide +kernel)
theorem kc_RX5_53 : Cond.constantDouble RX5 53 (4611686018427387904 : UInt64) ∈ lw_good := gw 573 (by decide +kernel) (by decide +kernel)
set_option maxRecDepth 20000 in
theorem mi_X5_worth : MIv yX5_worth cX5_worth 6 (some .double) 1 := ⟨gw 560 rfl rfl, gw 558 (by decide +kernel) (by decide +kernel), gw 559 (by decide +kernel) (by decide +kernel), gw 41 (by decide +kernel) (by decide +kernel), by decide +kernel, by decide +kernel, by decide +kernel⟩
theorem ml_RX5_55 : Cond.methodLink RX5 55 yX5_worth ∈ lw_good := gw 574 (by decide +kernel) (by decide +kernel)
theorem fw_RX6_15 : FldW RX6 15 4 1 .int := FldW.mk c7_4 (by decide) (gw 218 (by decide +kernel) (by decide +kernel)) rfl (by decide +kernel)
theorem fr_RX6_15 : Fld RX6 15 4 1 := Fld.mk c7_4 (by decide) (gw 218 (by decide +kernel) (by decide +kernel))
set_option maxRecDepth 20000 in
theorem mi_X6_readLine : MIv yX6_readLine cX6_readLine 3 (some .boolean) 0 := ⟨gw 641 rfl rfl, gw 639 (by decide +kernel) (by decide +kernel), gw 640 (by decide +kernel) (by decide +kernel), gw 42 (by decide +kernel) (by decide +kernel), by decide +kernel, by decide +kernel, by decide +kernel⟩
theorem fr_RX6_9 : Fld RX6 9 4 0 := Fld.mk c7_4 (by decide) (gw 216 (by decide +kernel) (by decide +kernel))
set_option maxRecDepth 20000 in
theorem mi_X6_here : MIv yX6_here cX6_here 1 (some .int) 0 := ⟨gw 645 rfl rfl, gw 644 (by decide +kernel) (by decide +kernel), gw 2 (by decide +kernel) (by decide +kernel), gw 42 (by decide +kernel) (by decide +kernel), by decide +kernel, by decide +kernel, by decide +kernel⟩
theorem ml_RX6_32 : Cond.methodLink RX6 32 yX6_here ∈ lw_good := gw 642 (by decide +kernel) (by decide +kernel)
theorem ml_RX6_28 : Cond.methodLink RX6 28 yX6_readLine ∈ lw_good := gw 638 (by decide +kernel) (by decide +kernel)
theorem fw_RX6_18 : FldW RX6 18 4 2 .int := FldW.mk c7_4 (by decide) (gw 220 (by decide +kernel) (by decide +kernel)) rfl (by decide +kernel)
theorem fr_RX6_18 : Fld RX6 18 4 2 := Fld.mk c7_4 (by decide) (gw 220 (by decide +kernel) (by decide +kernel))
set_option maxRecDepth 20000 in
theorem mi_X6_numbersOf : MIs yX6_numbersOf cX6_numbersOf 1 (some .int) 1 := ⟨gw 648 rfl rfl, gw 647 (by decide +kernel) (by decide +kernel), gw 42 (by decide +kernel) (by decide +kernel), by decide +kernel, by decide +kernel, by decide +kernel⟩
theorem ml_RX6_36 : Cond.methodLink RX6 36 yX6_numbersOf ∈ lw_good := gw 646 (by decide +kernel) (by decide +kernel)
set_option maxRecDepth 20000 in
theorem mi_X6_readNumber : MIv yX6_readNumber cX6_readNumber 4 (some .boolean) 1 := ⟨gw 652 rfl rfl, gw 651 (by decide +kernel) (by decide +kernel), gw 3 (by decide +kernel) (by decide +kernel), gw 42 (by decide +kernel) (by decide +kernel), by decide +kernel, by decide +kernel, by decide +kernel⟩
theorem ml_RX6_40 : Cond.methodLink RX6 40 yX6_readNumber ∈ lw_good := gw 649 (by decide +kernel) (by decide +kernel)
theorem fr_RX6_25 : Fld RX6 25 4 4 := Fld.mk c7_4 (by decide) (gw 224 (by decide +kernel) (by decide +kernel))
theorem fr_RX6_21 : Fld RX6 21 4 3 := Fld.mk c7_4 (by decide) (gw 222 (by decide +kernel) (by decide +kernel))
set_option maxRecDepth 20000 in
theorem mi_X7_isDay : MIs yX7_isDay cX7_isDay 1 (some .boolean) 1 := ⟨gw 296 rfl rfl, gw 295 (by decide +kernel) (by decide +kernel), gw 38 (by decide +kernel) (by decide +kernel), by decide +kernel, by decide +kernel, by decide +kernel⟩
theorem ml_RX7_64 : Cond.methodLink RX7 64 yX2_firstOf ∈ lw_good := gw 306 (by decide +kernel) (by decide +kernel)
theorem ml_RX7_58 : Cond.methodLink RX7 58 yX2_monthOf ∈ lw_good := gw 301 (by decide +kernel) (by decide +kernel)
theorem ml_RX7_54 : Cond.methodLink RX7 54 yX7_isDay ∈ lw_good := gw 294 (by decide +kernel) (by decide +kernel)
theorem ml_RX7_67 : Cond.methodLink RX7 67 yX7_isWithin ∈ lw_good := gw 298 (by decide +kernel) (by decide +kernel)
theorem ml_RX7_71 : Cond.methodLink RX7 71 yX2_lengthOf ∈ lw_good := gw 316 (by decide +kernel) (by decide +kernel)
theorem kc_RX7_74 : Cond.constantLong RX7 74 (100000000 : Int64) ∈ lw_good := gw 324 (by decide +kernel) (by decide +kernel)
theorem ml_RX7_85 : Cond.methodLink RX7 85 yX2_cents ∈ lw_good := gw 344 (by decide +kernel) (by decide +kernel)
theorem ml_RX7_81 : Cond.methodLink RX7 81 yX2_partsBetween ∈ lw_good := gw 329 (by decide +kernel) (by decide +kernel)
theorem ml_RX7_76 : Cond.methodLink RX7 76 yX7_isRate ∈ lw_good := gw 325 (by decide +kernel) (by decide +kernel)
theorem kc_RX7_79 : Cond.constantLong RX7 79 (-1 : Int64) ∈ lw_good := gw 328 (by decide +kernel) (by decide +kernel)
theorem fr_RX7_10 : Fld RX7 10 5 0 := Fld.mk c7_5 (by decide) (gw 265 (by decide +kernel) (by decide +kernel))
set_option maxRecDepth 20000 in
theorem mi_X1_lend : MIv yX1_lend cX1_lend 9 (some .int) 6 := ⟨gw 358 rfl rfl, gw 356 (by decide +kernel) (by decide +kernel), gw 357 (by decide +kernel) (by decide +kernel), gw 39 (by decide +kernel) (by decide +kernel), by decide +kernel, by decide +kernel, by decide +kernel⟩
theorem ml_RX7_89 : Cond.methodLink RX7 89 yX1_lend ∈ lw_good := gw 355 (by decide +kernel) (by decide +kernel)
theorem fr_RX7_93 : Fld RX7 93 0 0 := Fld.mk c7_0 (by decide) (gw 163 (by decide +kernel) (by decide +kernel))
theorem kc_RX7_97 : Cond.constant RX7 97 (36524 : Int32) ∈ lw_good := gw 297 (by decide +kernel) (by decide +kernel)
set_option maxRecDepth 20000 in
theorem mi_X1_passDays : MIv yX1_passDays cX1_passDays 4 (some .int) 1 := ⟨gw 413 rfl rfl, gw 411 (by decide +kernel) (by decide +kernel), gw 412 (by decide +kernel) (by decide +kernel), gw 39 (by decide +kernel) (by decide +kernel), by decide +kernel, by decide +kernel, by decide +kernel⟩
theorem ml_RX7_98 : Cond.methodLink RX7 98 yX1_passDays ∈ lw_good := gw 410 (by decide +kernel) (by decide +kernel)
set_option maxRecDepth 20000 in
theorem mi_X1_has : MIv yX1_has cX1_has 2 (some .boolean) 1 := ⟨gw 437 rfl rfl, gw 435 (by decide +kernel) (by decide +kernel), gw 436 (by decide +kernel) (by decide +kernel), gw 39 (by decide +kernel) (by decide +kernel), by decide +kernel, by decide +kernel, by decide +kernel⟩
set_option maxRecDepth 20000 in
theorem mi_X7_isAmount : MIs yX7_isAmount cX7_isAmount 2 (some .boolean) 1 := ⟨gw 440 rfl rfl, gw 439 (by decide +kernel) (by decide +kernel), gw 38 (by decide +kernel) (by decide +kernel), by decide +kernel, by decide +kernel, by decide +kernel⟩
theorem fr_RX7_108 : Fld RX7 108 0 4 := Fld.mk c7_0 (by decide) (gw 171 (by decide +kernel) (by decide +kernel))
set_option maxRecDepth 20000 in
theorem mi_X4_receive : MIv yX4_receive cX4_receive 7 (some .long) 1 := ⟨gw 445 rfl rfl, gw 443 (by decide +kernel) (by decide +kernel), gw 444 (by decide +kernel) (by decide +kernel), gw 40 (by decide +kernel) (by decide +kernel), by decide +kernel, by decide +kernel, by decide +kernel⟩
theorem ml_RX7_112 : Cond.methodLink RX7 112 yX4_receive ∈ lw_good := gw 442 (by decide +kernel) (by decide +kernel)
theorem ml_RX7_104 : Cond.methodLink RX7 104 yX7_isAmount ∈ lw_good := gw 438 (by decide +kernel) (by decide +kernel)
theorem ml_RX7_101 : Cond.methodLink RX7 101 yX1_has ∈ lw_good := gw 434 (by decide +kernel) (by decide +kernel)
theorem fw_RX7_116 : FldW RX7 116 2 7 .int := FldW.mk c7_2 (by decide) (gw 93 (by decide +kernel) (by decide +kernel)) rfl (by decide +kernel)
theorem fr_RX7_122 : Fld RX7 122 2 2 := Fld.mk c7_2 (by decide) (gw 82 (by decide +kernel) (by decide +kernel))
theorem ml_RX7_119 : Cond.methodLink RX7 119 yX4_findLevel ∈ lw_good := gw 455 (by decide +kernel) (by decide +kernel)
set_option maxRecDepth 20000 in
theorem mi_X4_giveUp : MIv yX4_giveUp cX4_giveUp 4 (some .long) 0 := ⟨gw 472 rfl rfl, gw 470 (by decide +kernel) (by decide +kernel), gw 471 (by decide +kernel) (by decide +kernel), gw 40 (by decide +kernel) (by decide +kernel), by decide +kernel, by decide +kernel, by decide +kernel⟩
theorem ml_RX7_132 : Cond.methodLink RX7 132 yX4_giveUp ∈ lw_good := gw 469 (by decide +kernel) (by decide +kernel)
theorem kc_RX7_130 : Cond.constantLong RX7 130 (-5 : Int64) ∈ lw_good := gw 468 (by decide +kernel) (by decide +kernel)
theorem ml_RX7_126 : Cond.methodLink RX7 126 yX4_isSettled ∈ lw_good := gw 460 (by decide +kernel) (by decide +kernel)
theorem fr_RX7_136 : Fld RX7 136 0 1 := Fld.mk c7_0 (by decide) (gw 165 (by decide +kernel) (by decide +kernel))
theorem fw_RX7_136 : FldW RX7 136 0 1 .int := FldW.mk c7_0 (by decide) (gw 165 (by decide +kernel) (by decide +kernel)) rfl (by decide +kernel)
theorem fr_RX7_139 : Fld RX7 139 0 2 := Fld.mk c7_0 (by decide) (gw 167 (by decide +kernel) (by decide +kernel))
theorem fw_RX7_139 : FldW RX7 139 0 2 .int := FldW.mk c7_0 (by decide) (gw 167 (by decide +kernel) (by decide +kernel)) rfl (by decide +kernel)
theorem fr_RX7_116 : Fld RX7 116 2 7 := Fld.mk c7_2 (by decide) (gw 93 (by decide +kernel) (by decide +kernel))
theorem fr_RX7_142 : Fld RX7 142 2 8 := Fld.mk c7_2 (by decide) (gw 96 (by decide +kernel) (by decide +kernel))
theorem fr_RX7_145 : Fld RX7 145 2 9 := Fld.mk c7_2 (by decide) (gw 99 (by decide +kernel) (by decide +kernel))
theorem fr_RX7_148 : Fld RX7 148 2 11 := Fld.mk c7_2 (by decide) (gw 106 (by decide +kernel) (by decide +kernel))
theorem fr_RX7_151 : Fld RX7 151 2 10 := Fld.mk c7_2 (by decide) (gw 102 (by decide +kernel) (by decide +kernel))
theorem fr_RX7_154 : Fld RX7 154 2 13 := Fld.mk c7_2 (by decide) (gw 111 (by decide +kernel) (by decide +kernel))
theorem fr_RX7_158 : Fld RX7 158 2 12 := Fld.mk c7_2 (by decide) (gw 109 (by decide +kernel) (by decide +kernel))
theorem ml_RX7_161 : Cond.methodLink RX7 161 yX4_billsInArrears ∈ lw_good := gw 481 (by decide +kernel) (by decide +kernel)
set_option maxRecDepth 20000 in
theorem mi_X4_daysLate : MIv yX4_daysLate cX4_daysLate 3 (some .int) 1 := ⟨gw 488 rfl rfl, gw 486 (by decide +kernel) (by decide +kernel), gw 487 (by decide +kernel) (by decide +kernel), gw 40 (by decide +kernel) (by decide +kernel), by decide +kernel, by decide +kernel, by decide +kernel⟩
theorem ml_RX7_165 : Cond.methodLink RX7 165 yX4_daysLate ∈ lw_good := gw 485 (by decide +kernel) (by decide +kernel)
theorem fr_RX7_168 : Fld RX7 168 2 0 := Fld.mk c7_2 (by decide) (gw 76 (by decide +kernel) (by decide +kernel))
theorem fr_RX7_171 : Fld RX7 171 2 1 := Fld.mk c7_2 (by decide) (gw 80 (by decide +kernel) (by decide +kernel))
theorem ml_RX7_174 : Cond.methodLink RX7 174 yX4_owed ∈ lw_good := gw 497 (by decide +kernel) (by decide +kernel)
theorem fr_RX7_177 : Fld RX7 177 2 3 := Fld.mk c7_2 (by decide) (gw 84 (by decide +kernel) (by decide +kernel))
theorem fr_RX7_180 : Fld RX7 180 2 4 := Fld.mk c7_2 (by decide) (gw 86 (by decide +kernel) (by decide +kernel))
theorem fr_RX7_183 : Fld RX7 183 2 5 := Fld.mk c7_2 (by decide) (gw 88 (by decide +kernel) (by decide +kernel))
theorem fr_RX7_186 : Fld RX7 186 2 6 := Fld.mk c7_2 (by decide) (gw 90 (by decide +kernel) (by decide +kernel))
theorem fr_RX7_36 : Fld RX7 36 5 5 := Fld.mk c7_5 (by decide) (gw 270 (by decide +kernel) (by decide +kernel))
set_option maxRecDepth 20000 in
theorem mi_X5_follow : MIv yX5_follow cX5_follow 5 none 1 := ⟨gw 501 rfl rfl, gw 499 (by decide +kernel) (by decide +kernel), gw 500 (by decide +kernel) (by decide +kernel), gw 41 (by decide +kernel) (by decide +kernel), by decide +kernel, by decide +kernel, by decide +kernel⟩
set_option maxRecDepth 20000 in
theorem mi_X5_totalInterest : MIv yX5_totalInterest cX5_totalInterest 4 (some .long) 0 := ⟨gw 507 rfl rfl, gw 505 (by decide +kernel) (by decide +kernel), gw 506 (by decide +kernel) (by decide +kernel), gw 41 (by decide +kernel) (by decide +kernel), by decide +kernel, by decide +kernel, by decide +kernel⟩
theorem ml_RX7_193 : Cond.methodLink RX7 193 yX5_totalInterest ∈ lw_good := gw 504 (by decide +kernel) (by decide +kernel)
theorem ml_RX7_189 : Cond.methodLink RX7 189 yX5_follow ∈ lw_good := gw 498 (by decide +kernel) (by decide +kernel)
theorem fr_RX7_201 : Fld RX7 201 2 16 := Fld.mk c7_2 (by decide) (gw 116 (by decide +kernel) (by decide +kernel))
theorem fr_RX7_205 : Fld RX7 205 2 17 := Fld.mk c7_2 (by decide) (gw 118 (by decide +kernel) (by decide +kernel))
theorem fr_RX7_208 : Fld RX7 208 2 15 := Fld.mk c7_2 (by decide) (gw 114 (by decide +kernel) (by decide +kernel))
theorem kc_RX7_199 : Cond.constantLong RX7 199 (-2 : Int64) ∈ lw_good := gw 513 (by decide +kernel) (by decide +kernel)
theorem ml_RX7_196 : Cond.methodLink RX7 196 yX4_periodOfBill ∈ lw_good := gw 512 (by decide +kernel) (by decide +kernel)
set_option maxRecDepth 20000 in
theorem mi_X5_periodOfBill : MIv yX5_periodOfBill cX5_periodOfBill 4 (some .int) 1 := ⟨gw 521 rfl rfl, gw 519 (by decide +kernel) (by decide +kernel), gw 520 (by decide +kernel) (by decide +kernel), gw 41 (by decide +kernel) (by decide +kernel), by decide +kernel, by decide +kernel, by decide +kernel⟩
theorem fr_RX7_212 : Fld RX7 212 3 2 := Fld.mk c7_3 (by decide) (gw 194 (by decide +kernel) (by decide +kernel))
theorem fr_RX7_215 : Fld RX7 215 3 3 := Fld.mk c7_3 (by decide) (gw 196 (by decide +kernel) (by decide +kernel))
theorem fr_RX7_218 : Fld RX7 218 3 4 := Fld.mk c7_3 (by decide) (gw 198 (by decide +kernel) (by decide +kernel))
theorem ml_RX7_211 : Cond.methodLink RX7 211 yX5_periodOfBill ∈ lw_good := gw 518 (by decide +kernel) (by decide +kernel)
set_option maxRecDepth 20000 in
theorem mi_X5_bills : MIv yX5_bills cX5_bills 3 (some .int) 0 := ⟨gw 533 rfl rfl, gw 531 (by decide +kernel) (by decide +kernel), gw 532 (by decide +kernel) (by decide +kernel), gw 41 (by decide +kernel) (by decide +kernel), by decide +kernel, by decide +kernel, by decide +kernel⟩
set_option maxRecDepth 20000 in
theorem mi_X5_greatestFlow : MIv yX5_greatestFlow cX5_greatestFlow 4 (some .long) 0 := ⟨gw 537 rfl rfl, gw 535 (by decide +kernel) (by decide +kernel), gw 536 (by decide +kernel) (by decide +kernel), gw 41 (by decide +kernel) (by decide +kernel), by decide +kernel, by decide +kernel, by decide +kernel⟩
theorem ml_RX7_223 : Cond.methodLink RX7 223 yX5_greatestFlow ∈ lw_good := gw 534 (by decide +kernel) (by decide +kernel)
theorem ml_RX7_220 : Cond.methodLink RX7 220 yX5_bills ∈ lw_good := gw 530 (by decide +kernel) (by decide +kernel)
set_option maxRecDepth 20000 in
theorem mi_X0_isRateOfPeriod : MIs yX0_isRateOfPeriod cX0_isRateOfPeriod 2 (some .boolean) 1 := ⟨gw 545 rfl rfl, gw 544 (by decide +kernel) (by decide +kernel), gw 47 (by decide +kernel) (by decide +kernel), by decide +kernel, by decide +kernel, by decide +kernel⟩
set_option maxRecDepth 20000 in
theorem mi_X0_toDouble : MIs yX0_toDouble cX0_toDouble 9 (some .double) 1 := ⟨gw 550 rfl rfl, gw 549 (by decide +kernel) (by decide +kernel), gw 47 (by decide +kernel) (by decide +kernel), by decide +kernel, by decide +kernel, by decide +kernel⟩
theorem ml_RX7_239 : Cond.methodLink RX7 239 yX0_ofDouble ∈ lw_good := gw 561 (by decide +kernel) (by decide +kernel)
theorem ml_RX7_235 : Cond.methodLink RX7 235 yX5_worth ∈ lw_good := gw 557 (by decide +kernel) (by decide +kernel)
theorem ml_RX7_231 : Cond.methodLink RX7 231 yX0_toDouble ∈ lw_good := gw 548 (by decide +kernel) (by decide +kernel)
theorem ml_RX7_226 : Cond.methodLink RX7 226 yX0_isRateOfPeriod ∈ lw_good := gw 543 (by decide +kernel) (by decide +kernel)
set_option maxRecDepth 20000 in
theorem mi_X5_yieldBy : MIv yX5_yieldBy cX5_yieldBy 10 (some .double) 1 := ⟨gw 572 rfl rfl, gw 570 (by decide +kernel) (by decide +kernel), gw 571 (by decide +kernel) (by decide +kernel), gw 41 (by decide +kernel) (by decide +kernel), by decide +kernel, by decide +kernel, by decide +kernel⟩
theorem ml_RX7_243 : Cond.methodLink RX7 243 yX5_yieldBy ∈ lw_good := gw 569 (by decide +kernel) (by decide +kernel)
set_option maxRecDepth 20000 in
theorem mi_X0_ofFloat : MIs yX0_ofFloat cX0_ofFloat 4 (some .int) 1 := ⟨gw 581 rfl rfl, gw 580 (by decide +kernel) (by decide +kernel), gw 47 (by decide +kernel) (by decide +kernel), by decide +kernel, by decide +kernel, by decide +kernel⟩
theorem ml_RX7_246 : Cond.methodLink RX7 246 yX0_ofFloat ∈ lw_good := gw 579 (by decide +kernel) (by decide +kernel)
set_option maxRecDepth 20000 in
theorem mi_X5_worthByNumber : MIv yX5_worthByNumber cX5_worthByNumber 6 (some .double) 1 := ⟨gw 590 rfl rfl, gw 588 (by decide +kernel) (by decide +kernel), gw 589 (by decide +kernel) (by decide +kernel), gw 41 (by decide +kernel) (by decide +kernel), by decide +kernel, by decide +kernel, by decide +kernel⟩
theorem ml_RX7_250 : Cond.methodLink RX7 250 yX5_worthByNumber ∈ lw_good := gw 587 (by decide +kernel) (by decide +kernel)
theorem fr_RX7_253 : Fld RX7 253 0 3 := Fld.mk c7_0 (by decide) (gw 169 (by decide +kernel) (by decide +kernel))
theorem fr_RX7_29 : Fld RX7 29 5 4 := Fld.mk c7_5 (by decide) (gw 269 (by decide +kernel) (by decide +kernel))
theorem ml_RX7_256 : Cond.methodLink RX7 256 yX4_copyFrom ∈ lw_good := gw 603 (by decide +kernel) (by decide +kernel)
set_option maxRecDepth 20000 in
theorem mi_X5_lastWithPrincipal : MIv yX5_lastWithPrincipal cX5_lastWithPrincipal 3 (some .int) 0 := ⟨gw 617 rfl rfl, gw 615 (by decide +kernel) (by decide +kernel), gw 616 (by decide +kernel) (by decide +kernel), gw 41 (by decide +kernel) (by decide +kernel), by decide +kernel, by decide +kernel, by decide +kernel⟩
theorem ml_RX7_262 : Cond.methodLink RX7 262 yJ9_max_7cf53 ∈ lw_good := gw 618 (by decide +kernel) (by decide +kernel)
theorem ml_RX7_259 : Cond.methodLink RX7 259 yX5_lastWithPrincipal ∈ lw_good := gw 614 (by decide +kernel) (by decide +kernel)
set_option maxRecDepth 20000 in
theorem mi_X7_isHolder : MIs yX7_isHolder cX7_isHolder 1 (some .boolean) 1 := ⟨gw 625 rfl rfl, gw 624 (by decide +kernel) (by decide +kernel), gw 38 (by decide +kernel) (by decide +kernel), by decide +kernel, by decide +kernel, by decide +kernel⟩
theorem fr_RX7_49 : Fld RX7 49 5 7 := Fld.mk c7_5 (by decide) (gw 272 (by decide +kernel) (by decide +kernel))
theorem fr_RX7_271 : Fld RX7 271 1 0 := Fld.mk c7_1 (by decide) (gw 245 (by decide +kernel) (by decide +kernel))
theorem ml_RX7_268 : Cond.methodLink RX7 268 yX7_isHolder ∈ lw_good := gw 623 (by decide +kernel) (by decide +kernel)
theorem fr_RX7_274 : Fld RX7 274 1 2 := Fld.mk c7_1 (by decide) (gw 249 (by decide +kernel) (by decide +kernel))
theorem fr_RX7_275 : Fld RX7 275 1 4 := Fld.mk c7_1 (by decide) (gw 253 (by decide +kernel) (by decide +kernel))
theorem fr_RX7_43 : Fld RX7 43 5 6 := Fld.mk c7_5 (by decide) (gw 271 (by decide +kernel) (by decide +kernel))
theorem fr_RX7_278 : Fld RX7 278 4 0 := Fld.mk c7_4 (by decide) (gw 217 (by decide +kernel) (by decide +kernel))
theorem fr_RX7_281 : Fld RX7 281 4 3 := Fld.mk c7_4 (by decide) (gw 223 (by decide +kernel) (by decide +kernel))
theorem fw_RX7_278 : FldW RX7 278 4 0 .int := FldW.mk c7_4 (by decide) (gw 217 (by decide +kernel) (by decide +kernel)) rfl (by decide +kernel)
set_option maxRecDepth 20000 in
theorem mi_X6_placeOfFault : MIv yX6_placeOfFault cX6_placeOfFault 2 (some .int) 0 := ⟨gw 637 rfl rfl, gw 635 (by decide +kernel) (by decide +kernel), gw 636 (by decide +kernel) (by decide +kernel), gw 42 (by decide +kernel) (by decide +kernel), by decide +kernel, by decide +kernel, by decide +kernel⟩
theorem fr_RX7_16 : Fld RX7 16 5 1 := Fld.mk c7_5 (by decide) (gw 266 (by decide +kernel) (by decide +kernel))
set_option maxRecDepth 20000 in
theorem mi_X1_copyFrom : MIv yX1_copyFrom cX1_copyFrom 3 none 1 := ⟨gw 656 rfl rfl, gw 654 (by decide +kernel) (by decide +kernel), gw 655 (by decide +kernel) (by decide +kernel), gw 39 (by decide +kernel) (by decide +kernel), by decide +kernel, by decide +kernel, by decide +kernel⟩
theorem fw_RX7_290 : FldW RX7 290 4 1 .int := FldW.mk c7_4 (by decide) (gw 219 (by decide +kernel) (by decide +kernel)) rfl (by decide +kernel)
theorem ml_RX7_287 : Cond.methodLink RX7 287 yX1_copyFrom ∈ lw_good := gw 653 (by decide +kernel) (by decide +kernel)
theorem ml_RX7_284 : Cond.methodLink RX7 284 yX6_placeOfFault ∈ lw_good := gw 634 (by decide +kernel) (by decide +kernel)
set_option maxRecDepth 20000 in
theorem mi_X7_doLine : MIv yX7_doLine cX7_doLine 2 (some .long) 0 := ⟨gw 662 rfl rfl, gw 661 (by decide +kernel) (by decide +kernel), gw 4 (by decide +kernel) (by decide +kernel), gw 38 (by decide +kernel) (by decide +kernel), by decide +kernel, by decide +kernel, by decide +kernel⟩
theorem ml_RX7_296 : Cond.methodLink RX7 296 yX7_doLine ∈ lw_good := gw 659 (by decide +kernel) (by decide +kernel)
theorem ml_RX7_293 : Cond.methodLink RX7 293 yX6_readLine ∈ lw_good := gw 658 (by decide +kernel) (by decide +kernel)
theorem fr_RX7_290 : Fld RX7 290 4 1 := Fld.mk c7_4 (by decide) (gw 219 (by decide +kernel) (by decide +kernel))
theorem fr_RX7_19 : Fld RX7 19 5 2 := Fld.mk c7_5 (by decide) (gw 267 (by decide +kernel) (by decide +kernel))
theorem fw_RX7_22 : FldW RX7 22 5 3 .boolean := FldW.mk c7_5 (by decide) (gw 268 (by decide +kernel) (by decide +kernel)) rfl (by decide +kernel)
theorem fr_RX7_22 : Fld RX7 22 5 3 := Fld.mk c7_5 (by decide) (gw 268 (by decide +kernel) (by decide +kernel))
theorem fr_RX7_299 : Fld RX7 299 1 1 := Fld.mk c7_1 (by decide) (gw 247 (by decide +kernel) (by decide +kernel))
theorem fw_RX7_271 : FldW RX7 271 1 0 .int := FldW.mk c7_1 (by decide) (gw 245 (by decide +kernel) (by decide +kernel)) rfl (by decide +kernel)
set_option maxRecDepth 20000 in
theorem mi_X3_takeBill : MIv yX3_takeBill cX3_takeBill 4 none 2 := ⟨gw 688 rfl rfl, gw 686 (by decide +kernel) (by decide +kernel), gw 687 (by decide +kernel) (by decide +kernel), gw 43 (by decide +kernel) (by decide +kernel), by decide +kernel, by decide +kernel, by decide +kernel⟩
theorem ml_RX7_310 : Cond.methodLink RX7 310 yX3_takeBill ∈ lw_good := gw 685 (by decide +kernel) (by decide +kernel)
theorem ml_RX7_306 : Cond.methodLink RX7 306 yX4_asks ∈ lw_good := gw 684 (by decide +kernel) (by decide +kernel)
set_option maxRecDepth 20000 in
theorem mi_X3_takeLoan : MIv yX3_takeLoan cX3_takeLoan 2 none 1 := ⟨gw 683 rfl rfl, gw 681 (by decide +kernel) (by decide +kernel), gw 682 (by decide +kernel) (by decide +kernel), gw 43 (by decide +kernel) (by decide +kernel), by decide +kernel, by decide +kernel, by decide +kernel⟩
theorem ml_RX7_302 : Cond.methodLink RX7 302 yX3_takeLoan ∈ lw_good := gw 680 (by decide +kernel) (by decide +kernel)
set_option maxRecDepth 20000 in
theorem mi_X3_takeRow : MIv yX3_takeRow cX3_takeRow 2 none 1 := ⟨gw 696 rfl rfl, gw 694 (by decide +kernel) (by decide +kernel), gw 695 (by decide +kernel) (by decide +kernel), gw 43 (by decide +kernel) (by decide +kernel), by decide +kernel, by decide +kernel, by decide +kernel⟩
theorem ml_RX7_314 : Cond.methodLink RX7 314 yX3_takeRow ∈ lw_good := gw 693 (by decide +kernel) (by decide +kernel)
set_option maxRecDepth 20000 in
theorem mi_X7_loanTells : MIv yX7_loanTells cX7_loanTells 4 (some .long) 2 := ⟨gw 711 rfl rfl, gw 710 (by decide +kernel) (by decide +kernel), gw 5 (by decide +kernel) (by decide +kernel), gw 38 (by decide +kernel) (by decide +kernel), by decide +kernel, by decide +kernel, by decide +kernel⟩
theorem ml_RX7_317 : Cond.methodLink RX7 317 yX7_loanTells ∈ lw_good := gw 708 (by decide +kernel) (by decide +kernel)
set_option maxRecDepth 20000 in
theorem mi_X7_billTells : MIs yX7_billTells cX7_billTells 2 (some .long) 2 := ⟨gw 716 rfl rfl, gw 715 (by decide +kernel) (by decide +kernel), gw 38 (by decide +kernel) (by decide +kernel), by decide +kernel, by decide +kernel, by decide +kernel⟩
theorem ml_RX7_321 : Cond.methodLink RX7 321 yX7_billTells ∈ lw_good := gw 714 (by decide +kernel) (by decide +kernel)
theorem kc_RX7_325 : Cond.constantLong RX7 325 (-12 : Int64) ∈ lw_good := gw 713 (by decide +kernel) (by decide +kernel)
theorem kc_RX7_327 : Cond.constantLong RX7 327 (-11 : Int64) ∈ lw_good := gw 712 (by decide +kernel) (by decide +kernel)
set_option maxRecDepth 20000 in
theorem mi_X1_billsInArrears : MIv yX1_billsInArrears cX1_billsInArrears 3 (some .int) 0 := ⟨gw 724 rfl rfl, gw 722 (by decide +kernel) (by decide +kernel), gw 723 (by decide +kernel) (by decide +kernel), gw 39 (by decide +kernel) (by decide +kernel), by decide +kernel, by decide +kernel, by decide +kernel⟩
theorem ml_RX7_329 : Cond.methodLink RX7 329 yX1_billsInArrears ∈ lw_good := gw 721 (by decide +kernel) (by decide +kernel)
set_option maxRecDepth 20000 in
theorem mi_X1_settledLoans : MIv yX1_settledLoans cX1_settledLoans 3 (some .int) 0 := ⟨gw 729 rfl rfl, gw 727 (by decide +kernel) (by decide +kernel), gw 728 (by decide +kernel) (by decide +kernel), gw 39 (by decide +kernel) (by decide +kernel), by decide +kernel, by decide +kernel, by decide +kernel⟩
theorem ml_RX7_330 : Cond.methodLink RX7 330 yX1_settledLoans ∈ lw_good := gw 726 (by decide +kernel) (by decide +kernel)
set_option maxRecDepth 20000 in
theorem mi_X7_fullHolders : MIv yX7_fullHolders cX7_fullHolders 3 (some .int) 0 := ⟨gw 734 rfl rfl, gw 733 (by decide +kernel) (by decide +kernel), gw 6 (by decide +kernel) (by decide +kernel), gw 38 (by decide +kernel) (by decide +kernel), by decide +kernel, by decide +kernel, by decide +kernel⟩
theorem ml_RX7_333 : Cond.methodLink RX7 333 yX7_fullHolders ∈ lw_good := gw 731 (by decide +kernel) (by decide +kernel)
theorem kc_RX7_336 : Cond.constantLong RX7 336 (1000000000 : Int64) ∈ lw_good := gw 441 (by decide +kernel) (by decide +kernel)
theorem fr_RX7_338 : Fld RX7 338 1 3 := Fld.mk c7_1 (by decide) (gw 251 (by decide +kernel) (by decide +kernel))
theorem fr_RX7_340 : Fld RX7 340 4 4 := Fld.mk c7_4 (by decide) (gw 225 (by decide +kernel) (by decide +kernel))
theorem fr_RX7_343 : Fld RX7 343 4 2 := Fld.mk c7_4 (by decide) (gw 221 (by decide +kernel) (by decide +kernel))
set_option maxRecDepth 20000 in
theorem mi_X7_days : MIv yX7_days cX7_days 2 (some .int) 1 := ⟨gw 409 rfl rfl, gw 407 (by decide +kernel) (by decide +kernel), gw 408 (by decide +kernel) (by decide +kernel), gw 38 (by decide +kernel) (by decide +kernel), by decide +kernel, by decide +kernel, by decide +kernel⟩
theorem ml_RX7_353 : Cond.methodLink RX7 353 yX7_days ∈ lw_good := gw 665 (by decide +kernel) (by decide +kernel)
set_option maxRecDepth 20000 in
theorem mi_X7_rule : MIv yX7_rule cX7_rule 4 (some .int) 2 := ⟨gw 476 rfl rfl, gw 474 (by decide +kernel) (by decide +kernel), gw 475 (by decide +kernel) (by decide +kernel), gw 38 (by decide +kernel) (by decide +kernel), by decide +kernel, by decide +kernel, by decide +kernel⟩
theorem ml_RX7_359 : Cond.methodLink RX7 359 yX7_rule ∈ lw_good := gw 667 (by decide +kernel) (by decide +kernel)
set_option maxRecDepth 20000 in
theorem mi_X7_pay : MIv yX7_pay cX7_pay 4 (some .long) 2 := ⟨gw 433 rfl rfl, gw 431 (by decide +kernel) (by decide +kernel), gw 432 (by decide +kernel) (by decide +kernel), gw 38 (by decide +kernel) (by decide +kernel), by decide +kernel, by decide +kernel, by decide +kernel⟩
theorem ml_RX7_346 : Cond.methodLink RX7 346 yX7_pay ∈ lw_good := gw 663 (by decide +kernel) (by decide +kernel)
set_option maxRecDepth 20000 in
theorem mi_X7_reset : MIv yX7_reset cX7_reset 4 (some .long) 2 := ⟨gw 454 rfl rfl, gw 452 (by decide +kernel) (by decide +kernel), gw 453 (by decide +kernel) (by decide +kernel), gw 38 (by decide +kernel) (by decide +kernel), by decide +kernel, by decide +kernel, by decide +kernel⟩
theorem ml_RX7_350 : Cond.methodLink RX7 350 yX7_reset ∈ lw_good := gw 664 (by decide +kernel) (by decide +kernel)
set_option maxRecDepth 20000 in
theorem mi_X7_writeOff : MIv yX7_writeOff cX7_writeOff 3 (some .long) 1 := ⟨gw 459 rfl rfl, gw 457 (by decide +kernel) (by decide +kernel), gw 458 (by decide +kernel) (by decide +kernel), gw 38 (by decide +kernel) (by decide +kernel), by decide +kernel, by decide +kernel, by decide +kernel⟩
theorem ml_RX7_356 : Cond.methodLink RX7 356 yX7_writeOff ∈ lw_good := gw 666 (by decide +kernel) (by decide +kernel)
set_option maxRecDepth 20000 in
theorem mi_X8_isLeap : MIs yX8_isLeap cX8_isLeap 1 (some .boolean) 1 := ⟨gw 838 rfl rfl, gw 837 (by decide +kernel) (by decide +kernel), gw 44 (by decide +kernel) (by decide +kernel), by decide +kernel, by decide +kernel, by decide +kernel⟩
theorem ml_RX8_68 : Cond.methodLink RX8 68 yX8_isLeap ∈ lw_good := gw 836 (by decide +kernel) (by decide +kernel)
set_option maxRecDepth 20000 in
theorem mi_X8_yearOf : MIs yX8_yearOf cX8_yearOf 3 (some .int) 1 := ⟨gw 826 rfl rfl, gw 825 (by decide +kernel) (by decide +kernel), gw 44 (by decide +kernel) (by decide +kernel), by decide +kernel, by decide +kernel, by decide +kernel⟩
set_option maxRecDepth 20000 in
theorem mi_X8_yearStart : MIs yX8_yearStart cX8_yearStart 2 (some .int) 1 := ⟨gw 832 rfl rfl, gw 831 (by decide +kernel) (by decide +kernel), gw 44 (by decide +kernel) (by decide +kernel), by decide +kernel, by decide +kernel, by decide +kernel⟩
theorem ml_RX8_76 : Cond.methodLink RX8 76 yX8_yearStart ∈ lw_good := gw 830 (by decide +kernel) (by decide +kernel)
theorem ml_RX8_72 : Cond.methodLink RX8 72 yX8_yearOf ∈ lw_good := gw 824 (by decide +kernel) (by decide +kernel)
set_option maxRecDepth 20000 in
theorem mi_X8_lastOf : MIs yX8_lastOf cX8_lastOf 2 (some .int) 2 := ⟨gw 835 rfl rfl, gw 834 (by decide +kernel) (by decide +kernel), gw 44 (by decide +kernel) (by decide +kernel), by decide +kernel, by decide +kernel, by decide +kernel⟩
theorem ml_RX8_79 : Cond.methodLink RX8 79 yX8_lastOf ∈ lw_good := gw 833 (by decide +kernel) (by decide +kernel)
theorem kc_RX8_83 : Cond.constantLong RX8 83 (36524 : Int64) ∈ lw_good := gw 819 (by decide +kernel) (by decide +kernel)
set_option maxRecDepth 20000 in
theorem mi_X8_in : MIs yX8_in cX8_in 6 (some .boolean) 3 := ⟨gw 822 rfl rfl, gw 821 (by decide +kernel) (by decide +kernel), gw 44 (by decide +kernel) (by decide +kernel), by decide +kernel, by decide +kernel, by decide +kernel⟩
theorem ml_RX8_85 : Cond.methodLink RX8 85 yX8_in ∈ lw_good := gw 820 (by decide +kernel) (by decide +kernel)
set_option maxRecDepth 20000 in
theorem mi_X8_isDay : MIs yX8_isDay cX8_isDay 1 (some .boolean) 1 := ⟨gw 818 rfl rfl, gw 817 (by decide +kernel) (by decide +kernel), gw 44 (by decide +kernel) (by decide +kernel), by decide +kernel, by decide +kernel, by decide +kernel⟩
theorem kc_RX8_92 : Cond.constantLong RX8 92 (3 : Int64) ∈ lw_good := gw 823 (by decide +kernel) (by decide +kernel)
set_option maxRecDepth 20000 in
theorem mi_X8_monthAndDay : MIs yX8_monthAndDay cX8_monthAndDay 4 (some .int) 1 := ⟨gw 829 rfl rfl, gw 828 (by decide +kernel) (by decide +kernel), gw 44 (by decide +kernel) (by decide +kernel), by decide +kernel, by decide +kernel, by decide +kernel⟩
theorem ml_RX8_94 : Cond.methodLink RX8 94 yX8_monthAndDay ∈ lw_good := gw 827 (by decide +kernel) (by decide +kernel)
theorem ml_RX8_89 : Cond.methodLink RX8 89 yX8_isDay ∈ lw_good := gw 816 (by decide +kernel) (by decide +kernel)
theorem kc_RX8_97 : Cond.constantLong RX8 97 (2000 : Int64) ∈ lw_good := gw 843 (by decide +kernel) (by decide +kernel)
theorem kc_RX8_99 : Cond.constantLong RX8 99 (2099 : Int64) ∈ lw_good := gw 844 (by decide +kernel) (by decide +kernel)
theorem kc_RX8_101 : Cond.constantLong RX8 101 (12 : Int64) ∈ lw_good := gw 845 (by decide +kernel) (by decide +kernel)
set_option maxRecDepth 20000 in
theorem mi_X8_toDay : MIs yX8_toDay cX8_toDay 5 (some .int) 3 := ⟨gw 848 rfl rfl, gw 847 (by decide +kernel) (by decide +kernel), gw 44 (by decide +kernel) (by decide +kernel), by decide +kernel, by decide +kernel, by decide +kernel⟩
theorem ml_RX8_103 : Cond.methodLink RX8 103 yX8_toDay ∈ lw_good := gw 846 (by decide +kernel) (by decide +kernel)
theorem kc_RX8_107 : Cond.constant RX8 107 (36525 : Int32) ∈ lw_good := gw 880 (by decide +kernel) (by decide +kernel)
set_option maxRecDepth 20000 in
theorem mi_X8_thirties : MIs yX8_thirties cX8_thirties 6 (some .int) 2 := ⟨gw 860 rfl rfl, gw 859 (by decide +kernel) (by decide +kernel), gw 44 (by decide +kernel) (by decide +kernel), by decide +kernel, by decide +kernel, by decide +kernel⟩
theorem ml_RX8_108 : Cond.methodLink RX8 108 yX8_thirties ∈ lw_good := gw 858 (by decide +kernel) (by decide +kernel)
theorem kc_RX8_113 : Cond.constantLong RX8 113 (360 : Int64) ∈ lw_good := gw 862 (by decide +kernel) (by decide +kernel)
theorem kc_RX8_111 : Cond.constantLong RX8 111 (365 : Int64) ∈ lw_good := gw 861 (by decide +kernel) (by decide +kernel)
set_option maxRecDepth 20000 in
theorem mi_X8_leapDays : MIs yX8_leapDays cX8_leapDays 8 (some .int) 2 := ⟨gw 865 rfl rfl, gw 864 (by decide +kernel) (by decide +kernel), gw 44 (by decide +kernel) (by decide +kernel), by decide +kernel, by decide +kernel, by decide +kernel⟩
theorem kc_RX8_118 : Cond.constantLong RX8 118 (366 : Int64) ∈ lw_good := gw 866 (by decide +kernel) (by decide +kernel)
theorem kc_RX8_120 : Cond.constantLong RX8 120 (133590 : Int64) ∈ lw_good := gw 867 (by decide +kernel) (by decide +kernel)
theorem ml_RX8_115 : Cond.methodLink RX8 115 yX8_leapDays ∈ lw_good := gw 863 (by decide +kernel) (by decide +kernel)
theorem kc_RX8_122 : Cond.constantLong RX8 122 (10000 : Int64) ∈ lw_good := gw 868 (by decide +kernel) (by decide +kernel)
theorem kc_RX8_124 : Cond.constantLong RX8 124 (2 : Int64) ∈ lw_good := gw 869 (by decide +kernel) (by decide +kernel)
theorem kc_RX8_126 : Cond.constantLong RX8 126 (100000000 : Int64) ∈ lw_good := gw 853 (by decide +kernel) (by decide +kernel)
theorem kc_RX8_128 : Cond.constantLong RX8 128 (5000 : Int64) ∈ lw_good := gw 854 (by decide +kernel) (by decide +kernel)
theorem kc_RX8_134 : Cond.constantLong RX8 134 (-1 : Int64) ∈ lw_good := gw 870 (by decide +kernel) (by decide +kernel)
set_option maxRecDepth 20000 in
theorem mi_X8_interestOf : MIs yX8_interestOf cX8_interestOf 15 (some .long) 5 := ⟨gw 857 rfl rfl, gw 856 (by decide +kernel) (by decide +kernel), gw 44 (by decide +kernel) (by decide +kernel), by decide +kernel, by decide +kernel, by decide +kernel⟩
theorem ml_RX8_130 : Cond.methodLink RX8 130 yX8_interestOf ∈ lw_good := gw 855 (by decide +kernel) (by decide +kernel)
theorem fr_RX8_9 : Fld RX8 9 6 0 := Fld.mk c7_6 (by decide) (gw 745 (by decide +kernel) (by decide +kernel))
set_option maxRecDepth 20000 in
theorem mi_X8_at : MIv yX8_at cX8_at 3 (some .long) 2 := ⟨gw 894 rfl rfl, gw 893 (by decide +kernel) (by decide +kernel), gw 9 (by decide +kernel) (by decide +kernel), gw 44 (by decide +kernel) (by decide +kernel), by decide +kernel, by decide +kernel, by decide +kernel⟩
set_option maxRecDepth 20000 in
theorem mi_X8_monthsBehind : MIs yX8_monthsBehind cX8_monthsBehind 8 (some .int) 2 := ⟨gw 879 rfl rfl, gw 878 (by decide +kernel) (by decide +kernel), gw 44 (by decide +kernel) (by decide +kernel), by decide +kernel, by decide +kernel, by decide +kernel⟩
theorem ml_RX8_140 : Cond.methodLink RX8 140 yX8_monthsBehind ∈ lw_good := gw 877 (by decide +kernel) (by decide +kernel)
theorem ml_RX8_136 : Cond.methodLink RX8 136 yX8_at ∈ lw_good := gw 891 (by decide +kernel) (by decide +kernel)
set_option maxRecDepth 20000 in
theorem mi_X8_endOf : MIv yX8_endOf cX8_endOf 3 (some .int) 2 := ⟨gw 907 rfl rfl, gw 906 (by decide +kernel) (by decide +kernel), gw 12 (by decide +kernel) (by decide +kernel), gw 44 (by decide +kernel) (by decide +kernel), by decide +kernel, by decide +kernel, by decide +kernel⟩
theorem ml_RX8_143 : Cond.methodLink RX8 143 yX8_endOf ∈ lw_good := gw 904 (by decide +kernel) (by decide +kernel)
set_option maxRecDepth 20000 in
theorem mi_X8_periodInterest : MIv yX8_periodInterest cX8_periodInterest 5 (some .long) 3 := ⟨gw 903 rfl rfl, gw 902 (by decide +kernel) (by decide +kernel), gw 11 (by decide +kernel) (by decide +kernel), gw 44 (by decide +kernel) (by decide +kernel), by decide +kernel, by decide +kernel, by decide +kernel⟩
set_option maxRecDepth 20000 in
theorem mi_X8_cut : MIs yX8_cut cX8_cut 6 (some .long) 3 := ⟨gw 910 rfl rfl, gw 909 (by decide +kernel) (by decide +kernel), gw 44 (by decide +kernel) (by decide +kernel), by decide +kernel, by decide +kernel, by decide +kernel⟩
theorem ml_RX8_150 : Cond.methodLink RX8 150 yX8_cut ∈ lw_good := gw 908 (by decide +kernel) (by decide +kernel)
theorem ml_RX8_146 : Cond.methodLink RX8 146 yX8_periodInterest ∈ lw_good := gw 900 (by decide +kernel) (by decide +kernel)
theorem kc_RX8_154 : Cond.constantLong RX8 154 (200000000 : Int64) ∈ lw_good := gw 895 (by decide +kernel) (by decide +kernel)
set_option maxRecDepth 20000 in
theorem mi_X8_sets : MIv yX8_sets cX8_sets 5 none 3 := ⟨gw 886 rfl rfl, gw 885 (by decide +kernel) (by decide +kernel), gw 7 (by decide +kernel) (by decide +kernel), gw 44 (by decide +kernel) (by decide +kernel), by decide +kernel, by decide +kernel, by decide +kernel⟩
theorem ml_RX8_160 : Cond.methodLink RX8 160 yX8_sets ∈ lw_good := gw 883 (by decide +kernel) (by decide +kernel)
set_option maxRecDepth 20000 in
theorem mi_X8_repays : MIv yX8_repays cX8_repays 7 (some .boolean) 2 := ⟨gw 899 rfl rfl, gw 898 (by decide +kernel) (by decide +kernel), gw 10 (by decide +kernel) (by decide +kernel), gw 44 (by decide +kernel) (by decide +kernel), by decide +kernel, by decide +kernel, by decide +kernel⟩
theorem ml_RX8_156 : Cond.methodLink RX8 156 yX8_repays ∈ lw_good := gw 896 (by decide +kernel) (by decide +kernel)
theorem kc_RX8_164 : Cond.constantLong RX8 164 (2999 : Int64) ∈ lw_good := gw 875 (by decide +kernel) (by decide +kernel)
theorem kc_RX8_166 : Cond.constantLong RX8 166 (60 : Int64) ∈ lw_good := gw 876 (by decide +kernel) (by decide +kernel)
theorem kc_RX8_168 : Cond.constant RX8 168 (36524 : Int32) ∈ lw_good := gw 881 (by decide +kernel) (by decide +kernel)
theorem kc_RX8_169 : Cond.constantLong RX8 169 (8 : Int64) ∈ lw_good := gw 882 (by decide +kernel) (by decide +kernel)
set_option maxRecDepth 20000 in
theorem mi_X8_level : MIv yX8_level cX8_level 8 none 1 := ⟨gw 890 rfl rfl, gw 889 (by decide +kernel) (by decide +kernel), gw 8 (by decide +kernel) (by decide +kernel), gw 44 (by decide +kernel) (by decide +kernel), by decide +kernel, by decide +kernel, by decide +kernel⟩
theorem ml_RX8_171 : Cond.methodLink RX8 171 yX8_level ∈ lw_good := gw 887 (by decide +kernel) (by decide +kernel)
set_option maxRecDepth 20000 in
theorem mi_X8_principalOf : MIv yX8_principalOf cX8_principalOf 8 (some .long) 4 := ⟨gw 923 rfl rfl, gw 922 (by decide +kernel) (by decide +kernel), gw 14 (by decide +kernel) (by decide +kernel), gw 44 (by decide +kernel) (by decide +kernel), by decide +kernel, by decide +kernel, by decide +kernel⟩
theorem ml_RX8_175 : Cond.methodLink RX8 175 yX8_principalOf ∈ lw_good := gw 920 (by decide +kernel) (by decide +kernel)
theorem kc_RX8_179 : Cond.constantLong RX8 179 (4000 : Int64) ∈ lw_good := gw 915 (by decide +kernel) (by decide +kernel)
set_option maxRecDepth 20000 in
theorem mi_X8_ends : MIv yX8_ends cX8_ends 10 (some .boolean) 1 := ⟨gw 919 rfl rfl, gw 918 (by decide +kernel) (by decide +kernel), gw 13 (by decide +kernel) (by decide +kernel), gw 44 (by decide +kernel) (by decide +kernel), by decide +kernel, by decide +kernel, by decide +kernel⟩
theorem ml_RX8_181 : Cond.methodLink RX8 181 yX8_ends ∈ lw_good := gw 916 (by decide +kernel) (by decide +kernel)
set_option maxRecDepth 20000 in
theorem mi_X8_fees : MIv yX8_fees cX8_fees 4 none 1 := ⟨gw 927 rfl rfl, gw 926 (by decide +kernel) (by decide +kernel), gw 15 (by decide +kernel) (by decide +kernel), gw 44 (by decide +kernel) (by decide +kernel), by decide +kernel, by decide +kernel, by decide +kernel⟩
theorem ml_RX8_184 : Cond.methodLink RX8 184 yX8_fees ∈ lw_good := gw 924 (by decide +kernel) (by decide +kernel)
theorem fr_RX8_35 : Fld RX8 35 6 10 := Fld.mk c7_6 (by decide) (gw 755 (by decide +kernel) (by decide +kernel))
set_option maxRecDepth 20000 in
theorem mi_X8_paidOff : MIv yX8_paidOff cX8_paidOff 7 (some .long) 3 := ⟨gw 948 rfl rfl, gw 947 (by decide +kernel) (by decide +kernel), gw 19 (by decide +kernel) (by decide +kernel), gw 44 (by decide +kernel) (by decide +kernel), by decide +kernel, by decide +kernel, by decide +kernel⟩
theorem ml_RX8_187 : Cond.methodLink RX8 187 yX8_paidOff ∈ lw_good := gw 945 (by decide +kernel) (by decide +kernel)
set_option maxRecDepth 20000 in
theorem mi_X8_asks : MIv yX8_asks cX8_asks 4 (some .long) 2 := ⟨gw 952 rfl rfl, gw 951 (by decide +kernel) (by decide +kernel), gw 20 (by decide +kernel) (by decide +kernel), gw 44 (by decide +kernel) (by decide +kernel), by decide +kernel, by decide +kernel, by decide +kernel⟩
set_option maxRecDepth 20000 in
theorem mi_X8_firstGoes : MIv yX8_firstGoes cX8_firstGoes 4 none 1 := ⟨gw 956 rfl rfl, gw 955 (by decide +kernel) (by decide +kernel), gw 21 (by decide +kernel) (by decide +kernel), gw 44 (by decide +kernel) (by decide +kernel), by decide +kernel, by decide +kernel, by decide +kernel⟩
theorem ml_RX8_194 : Cond.methodLink RX8 194 yX8_firstGoes ∈ lw_good := gw 953 (by decide +kernel) (by decide +kernel)
theorem ml_RX8_191 : Cond.methodLink RX8 191 yX8_asks ∈ lw_good := gw 949 (by decide +kernel) (by decide +kernel)
set_option maxRecDepth 20000 in
theorem mi_X8_isLoan : MIv yX8_isLoan cX8_isLoan 2 (some .boolean) 1 := ⟨gw 939 rfl rfl, gw 938 (by decide +kernel) (by decide +kernel), gw 17 (by decide +kernel) (by decide +kernel), gw 44 (by decide +kernel) (by decide +kernel), by decide +kernel, by decide +kernel, by decide +kernel⟩
theorem kc_RX8_200 : Cond.constantLong RX8 200 (1000000000 : Int64) ∈ lw_good := gw 940 (by decide +kernel) (by decide +kernel)
theorem ml_RX8_197 : Cond.methodLink RX8 197 yX8_isLoan ∈ lw_good := gw 936 (by decide +kernel) (by decide +kernel)
set_option maxRecDepth 20000 in
theorem mi_X8_isPaid : MIv yX8_isPaid cX8_isPaid 4 (some .boolean) 2 := ⟨gw 935 rfl rfl, gw 934 (by decide +kernel) (by decide +kernel), gw 16 (by decide +kernel) (by decide +kernel), gw 44 (by decide +kernel) (by decide +kernel), by decide +kernel, by decide +kernel, by decide +kernel⟩
set_option maxRecDepth 20000 in
theorem mi_X8_pays : MIv yX8_pays cX8_pays 9 none 2 := ⟨gw 944 rfl rfl, gw 943 (by decide +kernel) (by decide +kernel), gw 18 (by decide +kernel) (by decide +kernel), gw 44 (by decide +kernel) (by decide +kernel), by decide +kernel, by decide +kernel, by decide +kernel⟩
theorem ml_RX8_205 : Cond.methodLink RX8 205 yX8_pays ∈ lw_good := gw 941 (by decide +kernel) (by decide +kernel)
theorem ml_RX8_202 : Cond.methodLink RX8 202 yX8_isPaid ∈ lw_good := gw 932 (by decide +kernel) (by decide +kernel)
theorem kc_RX8_209 : Cond.constantLong RX8 209 (-5 : Int64) ∈ lw_good := gw 965 (by decide +kernel) (by decide +kernel)
theorem kc_RX8_211 : Cond.constantLong RX8 211 (90 : Int64) ∈ lw_good := gw 970 (by decide +kernel) (by decide +kernel)
theorem kc_RX8_213 : Cond.constantLong RX8 213 (9 : Int64) ∈ lw_good := gw 975 (by decide +kernel) (by decide +kernel)
set_option maxRecDepth 20000 in
theorem mi_X8_owed : MIv yX8_owed cX8_owed 5 (some .long) 1 := ⟨gw 983 rfl rfl, gw 982 (by decide +kernel) (by decide +kernel), gw 22 (by decide +kernel) (by decide +kernel), gw 44 (by decide +kernel) (by decide +kernel), by decide +kernel, by decide +kernel, by decide +kernel⟩
theorem ml_RX8_215 : Cond.methodLink RX8 215 yX8_owed ∈ lw_good := gw 980 (by decide +kernel) (by decide +kernel)
set_option maxRecDepth 20000 in
theorem mi_X8_comes : MIv yX8_comes cX8_comes 6 none 1 := ⟨gw 987 rfl rfl, gw 986 (by decide +kernel) (by decide +kernel), gw 23 (by decide +kernel) (by decide +kernel), gw 44 (by decide +kernel) (by decide +kernel), by decide +kernel, by decide +kernel, by decide +kernel⟩
theorem ml_RX8_219 : Cond.methodLink RX8 219 yX8_comes ∈ lw_good := gw 984 (by decide +kernel) (by decide +kernel)
theorem fr_RX8_222 : Fld RX8 222 6 9 := Fld.mk c7_6 (by decide) (gw 754 (by decide +kernel) (by decide +kernel))
theorem fr_RX8_26 : Fld RX8 26 6 6 := Fld.mk c7_6 (by decide) (gw 751 (by decide +kernel) (by decide +kernel))
theorem kc_RX8_226 : Cond.constantLong RX8 226 (-2 : Int64) ∈ lw_good := gw 992 (by decide +kernel) (by decide +kernel)
theorem fw_RX8_222 : FldW RX8 222 6 9 .int := FldW.mk c7_6 (by decide) (gw 754 (by decide +kernel) (by decide +kernel)) rfl (by decide +kernel)
theorem fr_RX8_22 : Fld RX8 22 6 5 := Fld.mk c7_6 (by decide) (gw 750 (by decide +kernel) (by decide +kernel))
theorem fr_RX8_29 : Fld RX8 29 6 7 := Fld.mk c7_6 (by decide) (gw 752 (by decide +kernel) (by decide +kernel))
theorem fr_RX8_32 : Fld RX8 32 6 8 := Fld.mk c7_6 (by decide) (gw 753 (by decide +kernel) (by decide +kernel))
set_option maxRecDepth 20000 in
theorem mi_X8_flow : MIv yX8_flow cX8_flow 2 (some .long) 1 := ⟨gw 1004 rfl rfl, gw 1003 (by decide +kernel) (by decide +kernel), gw 25 (by decide +kernel) (by decide +kernel), gw 44 (by decide +kernel) (by decide +kernel), by decide +kernel, by decide +kernel, by decide +kernel⟩
theorem ml_RX8_228 : Cond.methodLink RX8 228 yX8_flow ∈ lw_good := gw 1001 (by decide +kernel) (by decide +kernel)
set_option maxRecDepth 20000 in
theorem mi_X8_nth : MIv yX8_nth cX8_nth 4 (some .int) 1 := ⟨gw 1000 rfl rfl, gw 999 (by decide +kernel) (by decide +kernel), gw 24 (by decide +kernel) (by decide +kernel), gw 44 (by decide +kernel) (by decide +kernel), by decide +kernel, by decide +kernel, by decide +kernel⟩
theorem ml_RX8_231 : Cond.methodLink RX8 231 yX8_nth ∈ lw_good := gw 997 (by decide +kernel) (by decide +kernel)
theorem kc_RX8_234 : Cond.constantDouble RX8 234 (4621819117588971520 : UInt64) ∈ lw_good := gw 1019 (by decide +kernel) (by decide +kernel)
theorem ml_RX8_236 : Cond.methodLink RX8 236 ⟨"java/lang/Double", "longBitsToDouble", "(J)D"⟩ ∈ lw_good := gw 1013 (by decide +kernel) (by decide +kernel)
theorem nt_longBitsToDouble : Cond.native ⟨"java/lang/Double", "longBitsToDouble", "(J)D"⟩ ∈ lw_good := gw 1015 (by decide +kernel) (by decide +kernel)
theorem ns_longBitsToDouble : Cond.static ⟨"java/lang/Double", "longBitsToDouble", "(J)D"⟩ ∈ lw_good := gw 1014 (by decide +kernel) (by decide +kernel)
theorem ni_longBitsToDouble : Cond.initialized "java/lang/Double" ∈ lw_good := gw 49 (by decide +kernel) (by decide +kernel)
set_option maxRecDepth 20000 in
theorem mi_X8_isRate : MIs yX8_isRate cX8_isRate 2 (some .boolean) 1 := ⟨gw 1018 rfl rfl, gw 1017 (by decide +kernel) (by decide +kernel), gw 44 (by decide +kernel) (by decide +kernel), by decide +kernel, by decide +kernel, by decide +kernel⟩
set_option maxRecDepth 20000 in
theorem mi_X8_valueOf : MIv yX8_valueOf cX8_valueOf 9 (some .double) 2 := ⟨gw 1023 rfl rfl, gw 1022 (by decide +kernel) (by decide +kernel), gw 26 (by decide +kernel) (by decide +kernel), gw 44 (by decide +kernel) (by decide +kernel), by decide +kernel, by decide +kernel, by decide +kernel⟩
set_option maxRecDepth 20000 in
theorem mi_Jxe99ae_doubleToLongBits_ccdee : MIs yJxe99ae_doubleToLongBits_ccdee cJxe99ae_doubleToLongBits_ccdee 2 (some .long) 1 := ⟨gw 1026 rfl rfl, gw 1025 (by decide +kernel) (by decide +kernel), gw 49 (by decide +kernel) (by decide +kernel), by decide +kernel, by decide +kernel, by decide +kernel⟩
theorem ml_RX8_250 : Cond.methodLink RX8 250 yJxe99ae_doubleToLongBits_ccdee ∈ lw_good := gw 1024 (by decide +kernel) (by decide +kernel)
theorem ml_RX8_246 : Cond.methodLink RX8 246 yX8_valueOf ∈ lw_good := gw 1020 (by decide +kernel) (by decide +kernel)
theorem ml_RX8_242 : Cond.methodLink RX8 242 yX8_isRate ∈ lw_good := gw 1016 (by decide +kernel) (by decide +kernel)
theorem kc_RX8_254 : Cond.constantDouble RX8 254 (4611686018427387904 : UInt64) ∈ lw_good := gw 1042 (by decide +kernel) (by decide +kernel)
set_option maxRecDepth 20000 in
theorem mi_X8_yields : MIv yX8_yields cX8_yields 10 (some .double) 1 := ⟨gw 1041 rfl rfl, gw 1040 (by decide +kernel) (by decide +kernel), gw 27 (by decide +kernel) (by decide +kernel), gw 44 (by decide +kernel) (by decide +kernel), by decide +kernel, by decide +kernel, by decide +kernel⟩
theorem ml_RX8_256 : Cond.methodLink RX8 256 yX8_yields ∈ lw_good := gw 1038 (by decide +kernel) (by decide +kernel)
set_option maxRecDepth 20000 in
theorem mi_Jxf58ca_floatToIntBits_5c35a : MIs yJxf58ca_floatToIntBits_5c35a cJxf58ca_floatToIntBits_5c35a 1 (some .int) 1 := ⟨gw 1049 rfl rfl, gw 1048 (by decide +kernel) (by decide +kernel), gw 50 (by decide +kernel) (by decide +kernel), by decide +kernel, by decide +kernel, by decide +kernel⟩
theorem ml_RX8_259 : Cond.methodLink RX8 259 yJxf58ca_floatToIntBits_5c35a ∈ lw_good := gw 1047 (by decide +kernel) (by decide +kernel)
theorem kc_RX8_265 : Cond.constantLong RX8 265 (5 : Int64) ∈ lw_good := gw 1073 (by decide +kernel) (by decide +kernel)
theorem fr_RX8_13 : Fld RX8 13 6 1 := Fld.mk c7_6 (by decide) (gw 746 (by decide +kernel) (by decide +kernel))
set_option maxRecDepth 20000 in
theorem mi_X8_take : MIs yX8_take cX8_take 3 none 2 := ⟨gw 1076 rfl rfl, gw 1075 (by decide +kernel) (by decide +kernel), gw 44 (by decide +kernel) (by decide +kernel), by decide +kernel, by decide +kernel, by decide +kernel⟩
theorem ml_RX8_267 : Cond.methodLink RX8 267 yX8_take ∈ lw_good := gw 1074 (by decide +kernel) (by decide +kernel)
set_option maxRecDepth 20000 in
theorem mi_X8_lastPrincipal : MIv yX8_lastPrincipal cX8_lastPrincipal 4 (some .int) 1 := ⟨gw 1084 rfl rfl, gw 1083 (by decide +kernel) (by decide +kernel), gw 28 (by decide +kernel) (by decide +kernel), gw 44 (by decide +kernel) (by decide +kernel), by decide +kernel, by decide +kernel, by decide +kernel⟩
theorem ml_RX8_271 : Cond.methodLink RX8 271 yX8_lastPrincipal ∈ lw_good := gw 1081 (by decide +kernel) (by decide +kernel)
set_option maxRecDepth 20000 in
theorem mi_X8_isHolder : MIv yX8_isHolder cX8_isHolder 2 (some .boolean) 1 := ⟨gw 1092 rfl rfl, gw 1091 (by decide +kernel) (by decide +kernel), gw 29 (by decide +kernel) (by decide +kernel), gw 44 (by decide +kernel) (by decide +kernel), by decide +kernel, by decide +kernel, by decide +kernel⟩
theorem fr_RX8_41 : Fld RX8 41 6 13 := Fld.mk c7_6 (by decide) (gw 758 (by decide +kernel) (by decide +kernel))
theorem ml_RX8_274 : Cond.methodLink RX8 274 yX8_isHolder ∈ lw_good := gw 1089 (by decide +kernel) (by decide +kernel)
theorem fr_RX8_53 : Fld RX8 53 6 17 := Fld.mk c7_6 (by decide) (gw 762 (by decide +kernel) (by decide +kernel))
theorem fr_RX8_58 : Fld RX8 58 6 18 := Fld.mk c7_6 (by decide) (gw 763 (by decide +kernel) (by decide +kernel))
theorem kc_RX8_277 : Cond.constantLong RX8 277 (255 : Int64) ∈ lw_good := gw 1097 (by decide +kernel) (by decide +kernel)
theorem fr_RX8_279 : Fld RX8 279 6 12 := Fld.mk c7_6 (by decide) (gw 757 (by decide +kernel) (by decide +kernel))
theorem fr_RX8_38 : Fld RX8 38 6 11 := Fld.mk c7_6 (by decide) (gw 756 (by decide +kernel) (by decide +kernel))
theorem fw_RX8_279 : FldW RX8 279 6 12 .int := FldW.mk c7_6 (by decide) (gw 757 (by decide +kernel) (by decide +kernel)) rfl (by decide +kernel)
theorem fr_RX8_282 : Fld RX8 282 6 20 := Fld.mk c7_6 (by decide) (gw 765 (by decide +kernel) (by decide +kernel))
theorem fr_RX8_285 : Fld RX8 285 6 19 := Fld.mk c7_6 (by decide) (gw 764 (by decide +kernel) (by decide +kernel))
set_option maxRecDepth 20000 in
theorem mi_X8_sees : MIv yX8_sees cX8_sees 3 (some .boolean) 2 := ⟨gw 1124 rfl rfl, gw 1123 (by decide +kernel) (by decide +kernel), gw 34 (by decide +kernel) (by decide +kernel), gw 44 (by decide +kernel) (by decide +kernel), by decide +kernel, by decide +kernel, by decide +kernel⟩
theorem fw_RX8_285 : FldW RX8 285 6 19 .int := FldW.mk c7_6 (by decide) (gw 764 (by decide +kernel) (by decide +kernel)) rfl (by decide +kernel)
theorem ml_RX8_288 : Cond.methodLink RX8 288 yX8_sees ∈ lw_good := gw 1121 (by decide +kernel) (by decide +kernel)
theorem fw_RX8_282 : FldW RX8 282 6 20 .int := FldW.mk c7_6 (by decide) (gw 765 (by decide +kernel) (by decide +kernel)) rfl (by decide +kernel)
set_option maxRecDepth 20000 in
theorem mi_X8_must : MIv yX8_must cX8_must 3 (some .int) 2 := ⟨gw 1120 rfl rfl, gw 1119 (by decide +kernel) (by decide +kernel), gw 33 (by decide +kernel) (by decide +kernel), gw 44 (by decide +kernel) (by decide +kernel), by decide +kernel, by decide +kernel, by decide +kernel⟩
theorem ml_RX8_292 : Cond.methodLink RX8 292 yX8_must ∈ lw_good := gw 1117 (by decide +kernel) (by decide +kernel)
set_option maxRecDepth 20000 in
theorem mi_X8_partsOf : MIs yX8_partsOf cX8_partsOf 1 (some .int) 1 := ⟨gw 1112 rfl rfl, gw 1111 (by decide +kernel) (by decide +kernel), gw 44 (by decide +kernel) (by decide +kernel), by decide +kernel, by decide +kernel, by decide +kernel⟩
theorem ml_RX8_295 : Cond.methodLink RX8 295 yX8_partsOf ∈ lw_good := gw 1110 (by decide +kernel) (by decide +kernel)
theorem fr_RX8_61 : Fld RX8 61 6 21 := Fld.mk c7_6 (by decide) (gw 766 (by decide +kernel) (by decide +kernel))
set_option maxRecDepth 20000 in
theorem mi_X8_number : MIv yX8_number cX8_number 3 (some .int) 0 := ⟨gw 1116 rfl rfl, gw 1115 (by decide +kernel) (by decide +kernel), gw 32 (by decide +kernel) (by decide +kernel), gw 44 (by decide +kernel) (by decide +kernel), by decide +kernel, by decide +kernel, by decide +kernel⟩
theorem ml_RX8_298 : Cond.methodLink RX8 298 yX8_number ∈ lw_good := gw 1113 (by decide +kernel) (by decide +kernel)
set_option maxRecDepth 20000 in
theorem mi_X8_line : MIv yX8_line cX8_line 4 (some .int) 0 := ⟨gw 1109 rfl rfl, gw 1108 (by decide +kernel) (by decide +kernel), gw 31 (by decide +kernel) (by decide +kernel), gw 44 (by decide +kernel) (by decide +kernel), by decide +kernel, by decide +kernel, by decide +kernel⟩
theorem ml_RX8_302 : Cond.methodLink RX8 302 yX8_line ∈ lw_good := gw 1106 (by decide +kernel) (by decide +kernel)
set_option maxRecDepth 20000 in
theorem mi_X8_days : MIv yX8_days cX8_days 6 (some .int) 1 := ⟨gw 914 rfl rfl, gw 912 (by decide +kernel) (by decide +kernel), gw 913 (by decide +kernel) (by decide +kernel), gw 44 (by decide +kernel) (by decide +kernel), by decide +kernel, by decide +kernel, by decide +kernel⟩
theorem ml_RX8_316 : Cond.methodLink RX8 316 yX8_days ∈ lw_good := gw 1132 (by decide +kernel) (by decide +kernel)
set_option maxRecDepth 20000 in
theorem mi_X8_rule : MIv yX8_rule cX8_rule 4 (some .int) 2 := ⟨gw 969 rfl rfl, gw 967 (by decide +kernel) (by decide +kernel), gw 968 (by decide +kernel) (by decide +kernel), gw 44 (by decide +kernel) (by decide +kernel), by decide +kernel, by decide +kernel, by decide +kernel⟩
theorem ml_RX8_322 : Cond.methodLink RX8 322 yX8_rule ∈ lw_good := gw 1134 (by decide +kernel) (by decide +kernel)
set_option maxRecDepth 20000 in
theorem mi_X8_pay : MIv yX8_pay cX8_pay 4 (some .long) 2 := ⟨gw 931 rfl rfl, gw 929 (by decide +kernel) (by decide +kernel), gw 930 (by decide +kernel) (by decide +kernel), gw 44 (by decide +kernel) (by decide +kernel), by decide +kernel, by decide +kernel, by decide +kernel⟩
theorem ml_RX8_309 : Cond.methodLink RX8 309 yX8_pay ∈ lw_good := gw 1130 (by decide +kernel) (by decide +kernel)
set_option maxRecDepth 20000 in
theorem mi_X8_reset : MIv yX8_reset cX8_reset 3 (some .long) 2 := ⟨gw 960 rfl rfl, gw 958 (by decide +kernel) (by decide +kernel), gw 959 (by decide +kernel) (by decide +kernel), gw 44 (by decide +kernel) (by decide +kernel), by decide +kernel, by decide +kernel, by decide +kernel⟩
theorem ml_RX8_313 : Cond.methodLink RX8 313 yX8_reset ∈ lw_good := gw 1131 (by decide +kernel) (by decide +kernel)
set_option maxRecDepth 20000 in
theorem mi_X8_writeOff : MIv yX8_writeOff cX8_writeOff 5 (some .long) 1 := ⟨gw 964 rfl rfl, gw 962 (by decide +kernel) (by decide +kernel), gw 963 (by decide +kernel) (by decide +kernel), gw 44 (by decide +kernel) (by decide +kernel), by decide +kernel, by decide +kernel, by decide +kernel⟩
theorem ml_RX8_319 : Cond.methodLink RX8 319 yX8_writeOff ∈ lw_good := gw 1133 (by decide +kernel) (by decide +kernel)
set_option maxRecDepth 20000 in
theorem mi_X8_loan : MIv yX8_loan cX8_loan 9 (some .int) 4 := ⟨gw 874 rfl rfl, gw 872 (by decide +kernel) (by decide +kernel), gw 873 (by decide +kernel) (by decide +kernel), gw 44 (by decide +kernel) (by decide +kernel), by decide +kernel, by decide +kernel, by decide +kernel⟩
theorem ml_RX8_305 : Cond.methodLink RX8 305 yX8_loan ∈ lw_good := gw 1129 (by decide +kernel) (by decide +kernel)
set_option maxRecDepth 20000 in
theorem mi_X8_isForm : MIv yX8_isForm cX8_isForm 1 (some .boolean) 0 := ⟨gw 1105 rfl rfl, gw 1104 (by decide +kernel) (by decide +kernel), gw 30 (by decide +kernel) (by decide +kernel), gw 44 (by decide +kernel) (by decide +kernel), by decide +kernel, by decide +kernel, by decide +kernel⟩
theorem fr_RX8_16 : Fld RX8 16 6 2 := Fld.mk c7_6 (by decide) (gw 747 (by decide +kernel) (by decide +kernel))
theorem ml_RX8_325 : Cond.methodLink RX8 325 yX8_isForm ∈ lw_good := gw 1102 (by decide +kernel) (by decide +kernel)
set_option maxRecDepth 20000 in
theorem mi_X8_does : MIv yX8_does cX8_does 5 (some .long) 1 := ⟨gw 1128 rfl rfl, gw 1127 (by decide +kernel) (by decide +kernel), gw 35 (by decide +kernel) (by decide +kernel), gw 44 (by decide +kernel) (by decide +kernel), by decide +kernel, by decide +kernel, by decide +kernel⟩
theorem ml_RX8_329 : Cond.methodLink RX8 329 yX8_does ∈ lw_good := gw 1125 (by decide +kernel) (by decide +kernel)
theorem fr_RX8_19 : Fld RX8 19 6 3 := Fld.mk c7_6 (by decide) (gw 748 (by decide +kernel) (by decide +kernel))
theorem fw_RX8_332 : FldW RX8 332 6 4 .boolean := FldW.mk c7_6 (by decide) (gw 749 (by decide +kernel) (by decide +kernel)) rfl (by decide +kernel)
theorem fr_RX8_332 : Fld RX8 332 6 4 := Fld.mk c7_6 (by decide) (gw 749 (by decide +kernel) (by decide +kernel))
theorem fr_RX8_44 : Fld RX8 44 6 14 := Fld.mk c7_6 (by decide) (gw 759 (by decide +kernel) (by decide +kernel))
theorem fr_RX8_47 : Fld RX8 47 6 15 := Fld.mk c7_6 (by decide) (gw 760 (by decide +kernel) (by decide +kernel))
theorem fr_RX8_50 : Fld RX8 50 6 16 := Fld.mk c7_6 (by decide) (gw 761 (by decide +kernel) (by decide +kernel))
theorem kc_RX8_338 : Cond.constantLong RX8 338 (-12 : Int64) ∈ lw_good := gw 1160 (by decide +kernel) (by decide +kernel)
theorem kc_RX8_336 : Cond.constantLong RX8 336 (-11 : Int64) ∈ lw_good := gw 1159 (by decide +kernel) (by decide +kernel)
set_option maxRecDepth 20000 in
theorem mi_X8_bills : MIv yX8_bills cX8_bills 3 (some .int) 0 := ⟨gw 1168 rfl rfl, gw 1167 (by decide +kernel) (by decide +kernel), gw 36 (by decide +kernel) (by decide +kernel), gw 44 (by decide +kernel) (by decide +kernel), by decide +kernel, by decide +kernel, by decide +kernel⟩
theorem ml_RX8_340 : Cond.methodLink RX8 340 yX8_bills ∈ lw_good := gw 1165 (by decide +kernel) (by decide +kernel)
set_option maxRecDepth 20000 in
theorem mi_Jxe99ae_isNaN_b9ae7 : MIs yJxe99ae_isNaN_b9ae7 cJxe99ae_isNaN_b9ae7 2 (some .boolean) 1 := ⟨gw 1029 rfl rfl, gw 1028 (by decide +kernel) (by decide +kernel), gw 49 (by decide +kernel) (by decide +kernel), by decide +kernel, by decide +kernel, by decide +kernel⟩
theorem kc_RJxe99ae_137 : Cond.constantLong RJxe99ae 137 (9221120237041090560 : Int64) ∈ lw_good := gw 1033 (by decide +kernel) (by decide +kernel)
theorem ml_RJxe99ae_134 : Cond.methodLink RJxe99ae 134 ⟨"java/lang/Double", "doubleToRawLongBits", "(D)J"⟩ ∈ lw_good := gw 1030 (by decide +kernel) (by decide +kernel)
theorem nt_doubleToRawLongBits : Cond.native ⟨"java/lang/Double", "doubleToRawLongBits", "(D)J"⟩ ∈ lw_good := gw 1032 (by decide +kernel) (by decide +kernel)
theorem ns_doubleToRawLongBits : Cond.static ⟨"java/lang/Double", "doubleToRawLongBits", "(D)J"⟩ ∈ lw_good := gw 1031 (by decide +kernel) (by decide +kernel)
theorem ni_doubleToRawLongBits : Cond.initialized "java/lang/Double" ∈ lw_good := gw 49 (by decide +kernel) (by decide +kernel)
theorem ml_RJxe99ae_122 : Cond.methodLink RJxe99ae 122 yJxe99ae_isNaN_b9ae7 ∈ lw_good := gw 1027 (by decide +kernel) (by decide +kernel)
set_option maxRecDepth 20000 in
theorem mi_Jxf58ca_isNaN_12338 : MIs yJxf58ca_isNaN_12338 cJxf58ca_isNaN_12338 1 (some .boolean) 1 := ⟨gw 1052 rfl rfl, gw 1051 (by decide +kernel) (by decide +kernel), gw 50 (by decide +kernel) (by decide +kernel), by decide +kernel, by decide +kernel, by decide +kernel⟩
theorem kc_RJxf58ca_77 : Cond.constant RJxf58ca 77 (2143289344 : Int32) ∈ lw_good := gw 1056 (by decide +kernel) (by decide +kernel)
theorem ml_RJxf58ca_74 : Cond.methodLink RJxf58ca 74 ⟨"java/lang/Float", "floatToRawIntBits", "(F)I"⟩ ∈ lw_good := gw 1053 (by decide +kernel) (by decide +kernel)
theorem nt_floatToRawIntBits : Cond.native ⟨"java/lang/Float", "floatToRawIntBits", "(F)I"⟩ ∈ lw_good := gw 1055 (by decide +kernel) (by decide +kernel)
theorem ns_floatToRawIntBits : Cond.static ⟨"java/lang/Float", "floatToRawIntBits", "(F)I"⟩ ∈ lw_good := gw 1054 (by decide +kernel) (by decide +kernel)
theorem ni_floatToRawIntBits : Cond.initialized "java/lang/Float" ∈ lw_good := gw 50 (by decide +kernel) (by decide +kernel)
theorem ml_RJxf58ca_59 : Cond.methodLink RJxf58ca 59 yJxf58ca_isNaN_12338 ∈ lw_good := gw 1050 (by decide +kernel) (by decide +kernel)
abbrev rm_X0_isRateOfPeriod : Room := { frames := 0, cells := 0, slots := 0, locals := 0 }
abbrev rm_J9_max_7cf53 : Room := { frames := 0, cells := 0, slots := 0, locals := 0 }
abbrev rm_X0_toDouble : Room := { frames := 1, cells := 0, slots := 0, locals := 21 }
abbrev rm_X0_ofDouble : Room := { frames := 0, cells := 0, slots := 0, locals := 0 }
abbrev rm_X0_ofFloat : Room := { frames := 1, cells := 0, slots := 0, locals := 25 }
abbrev rm_X4_copyFrom : Room := { frames := 1, cells := 0, slots := 0, locals := 44 }
abbrev rm_X1_copyFrom : Room := { frames := 2, cells := 0, slots := 0, locals := 65 }
abbrev rm_X1_has : Room := { frames := 0, cells := 0, slots := 0, locals := 0 }
abbrev rm_X7_isWithin : Room := { frames := 0, cells := 0, slots := 0, locals := 0 }
abbrev rm_X7_isRate : Room := { frames := 1, cells := 0, slots := 0, locals := 22 }
abbrev rm_X2_monthOf : Room := { frames := 0, cells := 0, slots := 0, locals := 0 }
abbrev rm_J9_floorMod_7cf53 : Room := { frames := 0, cells := 0, slots := 0, locals := 0 }
abbrev rm_X2_firstOf : Room := { frames := 1, cells := 0, slots := 0, locals := 22 }
abbrev rm_X4_clearArrears : Room := { frames := 0, cells := 0, slots := 0, locals := 0 }
abbrev rm_X4_clear : Room := { frames := 1, cells := 0, slots := 0, locals := 21 }
abbrev rm_X2_lengthOf : Room := { frames := 2, cells := 0, slots := 0, locals := 44 }
abbrev rm_J9_min_7cf53 : Room := { frames := 0, cells := 0, slots := 0, locals := 0 }
abbrev rm_X2_leapYearDays : Room := { frames := 1, cells := 0, slots := 0, locals := 21 }
abbrev rm_X2_thirties : Room := { frames := 2, cells := 0, slots := 0, locals := 44 }
abbrev rm_X2_partsBetween : Room := { frames := 3, cells := 0, slots := 0, locals := 65 }
abbrev rm_X4_layPeriods : Room := { frames := 4, cells := 0, slots := 0, locals := 89 }
abbrev rm_X2_cents : Room := { frames := 0, cells := 0, slots := 0, locals := 0 }
abbrev rm_X4_interestOf : Room := { frames := 1, cells := 0, slots := 0, locals := 28 }
abbrev rm_J9_max_f86c9 : Room := { frames := 0, cells := 0, slots := 0, locals := 0 }
abbrev rm_J9_min_f86c9 : Room := { frames := 0, cells := 0, slots := 0, locals := 0 }
abbrev rm_X4_repaidBy : Room := { frames := 1, cells := 0, slots := 0, locals := 23 }
abbrev rm_X4_isRepaidBy : Room := { frames := 2, cells := 0, slots := 0, locals := 51 }
abbrev rm_X4_findLevel : Room := { frames := 3, cells := 0, slots := 0, locals := 76 }
abbrev rm_X1_lend : Room := { frames := 5, cells := 0, slots := 0, locals := 113 }
abbrev rm_X4_principalOf : Room := { frames := 2, cells := 0, slots := 0, locals := 48 }
abbrev rm_X4_asks : Room := { frames := 0, cells := 0, slots := 0, locals := 0 }
abbrev rm_X4_endPeriods : Room := { frames := 3, cells := 0, slots := 0, locals := 74 }
abbrev rm_X4_chargeLate : Room := { frames := 1, cells := 0, slots := 0, locals := 21 }
abbrev rm_X1_passDays : Room := { frames := 4, cells := 0, slots := 0, locals := 97 }
abbrev rm_X4_billsInArrears : Room := { frames := 1, cells := 0, slots := 0, locals := 21 }
abbrev rm_X1_billsInArrears : Room := { frames := 2, cells := 0, slots := 0, locals := 43 }
abbrev rm_X4_owed : Room := { frames := 1, cells := 0, slots := 0, locals := 21 }
abbrev rm_X4_isSettled : Room := { frames := 2, cells := 0, slots := 0, locals := 44 }
abbrev rm_X1_settledLoans : Room := { frames := 3, cells := 0, slots := 0, locals := 64 }
abbrev rm_X3_takeLoan : Room := { frames := 0, cells := 0, slots := 0, locals := 0 }
abbrev rm_X3_takeBill : Room := { frames := 0, cells := 0, slots := 0, locals := 0 }
abbrev rm_J7_fill_d0a16 : Room := { frames := 0, cells := 0, slots := 0, locals := 0 }
abbrev rm_X3_takeRow : Room := { frames := 1, cells := 0, slots := 0, locals := 24 }
abbrev rm_X4_payBill : Room := { frames := 1, cells := 0, slots := 0, locals := 23 }
abbrev rm_X4_receive : Room := { frames := 4, cells := 0, slots := 0, locals := 103 }
abbrev rm_X4_giveUp : Room := { frames := 1, cells := 0, slots := 0, locals := 21 }
abbrev rm_X4_periodOfBill : Room := { frames := 1, cells := 0, slots := 0, locals := 21 }
abbrev rm_X4_daysLate : Room := { frames := 2, cells := 0, slots := 0, locals := 44 }
abbrev rm_X5_follow : Room := { frames := 3, cells := 0, slots := 0, locals := 74 }
abbrev rm_X5_flow : Room := { frames := 0, cells := 0, slots := 0, locals := 0 }
abbrev rm_X5_bills : Room := { frames := 1, cells := 0, slots := 0, locals := 21 }
abbrev rm_X5_periodOfBill : Room := { frames := 1, cells := 0, slots := 0, locals := 21 }
abbrev rm_X5_totalInterest : Room := { frames := 0, cells := 0, slots := 0, locals := 0 }
abbrev rm_X5_greatestFlow : Room := { frames := 1, cells := 0, slots := 0, locals := 23 }
abbrev rm_X5_lastWithPrincipal : Room := { frames := 0, cells := 0, slots := 0, locals := 0 }
abbrev rm_X5_worth : Room := { frames := 1, cells := 0, slots := 0, locals := 21 }
abbrev rm_X5_worthByNumber : Room := { frames := 1, cells := 0, slots := 0, locals := 21 }
abbrev rm_X5_yieldBy : Room := { frames := 2, cells := 0, slots := 0, locals := 46 }
abbrev rm_X6_here : Room := { frames := 0, cells := 0, slots := 0, locals := 0 }
abbrev rm_X6_numbersOf : Room := { frames := 0, cells := 0, slots := 0, locals := 0 }
abbrev rm_X6_readNumber : Room := { frames := 1, cells := 0, slots := 0, locals := 20 }
abbrev rm_X6_readLine : Room := { frames := 2, cells := 0, slots := 0, locals := 43 }
abbrev rm_X6_placeOfFault : Room := { frames := 3, cells := 0, slots := 0, locals := 65 }
abbrev rm_X7_isDay : Room := { frames := 1, cells := 0, slots := 0, locals := 22 }
abbrev rm_X7_date : Room := { frames := 2, cells := 0, slots := 0, locals := 44 }
abbrev rm_X7_dayOf : Room := { frames := 3, cells := 0, slots := 0, locals := 64 }
abbrev rm_X7_interest : Room := { frames := 4, cells := 0, slots := 0, locals := 89 }
abbrev rm_X7_loan : Room := { frames := 6, cells := 0, slots := 0, locals := 141 }
abbrev rm_X7_days : Room := { frames := 5, cells := 0, slots := 0, locals := 120 }
abbrev rm_X7_isAmount : Room := { frames := 0, cells := 0, slots := 0, locals := 0 }
abbrev rm_X7_pay : Room := { frames := 5, cells := 0, slots := 0, locals := 129 }
abbrev rm_X7_reset : Room := { frames := 4, cells := 0, slots := 0, locals := 103 }
abbrev rm_X7_writeOff : Room := { frames := 3, cells := 0, slots := 0, locals := 64 }
abbrev rm_X7_rule : Room := { frames := 1, cells := 0, slots := 0, locals := 22 }
abbrev rm_X7_of : Room := { frames := 3, cells := 0, slots := 0, locals := 66 }
abbrev rm_X7_sum : Room := { frames := 4, cells := 0, slots := 0, locals := 98 }
abbrev rm_X7_bill : Room := { frames := 2, cells := 0, slots := 0, locals := 44 }
abbrev rm_X7_toCome : Room := { frames := 4, cells := 0, slots := 0, locals := 98 }
abbrev rm_X7_coming : Room := { frames := 4, cells := 0, slots := 0, locals := 98 }
abbrev rm_X7_value : Room := { frames := 4, cells := 0, slots := 0, locals := 98 }
abbrev rm_X7_yieldOf : Room := { frames := 4, cells := 0, slots := 0, locals := 98 }
abbrev rm_X7_near : Room := { frames := 4, cells := 0, slots := 0, locals := 98 }
abbrev rm_X7_duration : Room := { frames := 4, cells := 0, slots := 0, locals := 98 }
abbrev rm_X7_behind : Room := { frames := 3, cells := 0, slots := 0, locals := 66 }
abbrev rm_X7_settles : Room := { frames := 1, cells := 0, slots := 0, locals := 21 }
abbrev rm_X7_would : Room := { frames := 5, cells := 0, slots := 0, locals := 129 }
abbrev rm_X7_sooner : Room := { frames := 5, cells := 0, slots := 0, locals := 129 }
abbrev rm_X7_isHolder : Room := { frames := 1, cells := 0, slots := 0, locals := 22 }
abbrev rm_X7_judge : Room := { frames := 4, cells := 0, slots := 0, locals := 98 }
abbrev rm_X7_feed : Room := { frames := 1, cells := 0, slots := 0, locals := 22 }
abbrev rm_X7_doLine : Room := { frames := 6, cells := 0, slots := 0, locals := 152 }
abbrev rm_X7_script : Room := { frames := 7, cells := 0, slots := 0, locals := 173 }
abbrev rm_X7_image : Room := { frames := 3, cells := 0, slots := 0, locals := 87 }
abbrev rm_X7_back : Room := { frames := 3, cells := 0, slots := 0, locals := 87 }
abbrev rm_X7_hold : Room := { frames := 2, cells := 0, slots := 0, locals := 44 }
abbrev rm_X7_row : Room := { frames := 2, cells := 0, slots := 0, locals := 45 }
abbrev rm_X7_put : Room := { frames := 2, cells := 0, slots := 0, locals := 42 }
abbrev rm_X7_loanTells : Room := { frames := 1, cells := 0, slots := 0, locals := 21 }
abbrev rm_X7_billTells : Room := { frames := 0, cells := 0, slots := 0, locals := 0 }
abbrev rm_X7_tells : Room := { frames := 2, cells := 0, slots := 0, locals := 44 }
abbrev rm_X7_fullHolders : Room := { frames := 0, cells := 0, slots := 0, locals := 0 }
abbrev rm_X7_count : Room := { frames := 4, cells := 0, slots := 0, locals := 86 }
abbrev rm_X8_in : Room := { frames := 0, cells := 0, slots := 0, locals := 0 }
abbrev rm_X8_take : Room := { frames := 0, cells := 0, slots := 0, locals := 0 }
abbrev rm_X8_isLeap : Room := { frames := 0, cells := 0, slots := 0, locals := 0 }
abbrev rm_X8_lastOf : Room := { frames := 1, cells := 0, slots := 0, locals := 20 }
abbrev rm_X8_yearOf : Room := { frames := 0, cells := 0, slots := 0, locals := 0 }
abbrev rm_X8_yearStart : Room := { frames := 0, cells := 0, slots := 0, locals := 0 }
abbrev rm_X8_monthAndDay : Room := { frames := 2, cells := 0, slots := 0, locals := 41 }
abbrev rm_X8_toDay : Room := { frames := 2, cells := 0, slots := 0, locals := 41 }
abbrev rm_X8_isDay : Room := { frames := 1, cells := 0, slots := 0, locals := 25 }
abbrev rm_X8_date : Room := { frames := 3, cells := 0, slots := 0, locals := 64 }
abbrev rm_X8_dayOf : Room := { frames := 3, cells := 0, slots := 0, locals := 65 }
abbrev rm_X8_monthsBehind : Room := { frames := 3, cells := 0, slots := 0, locals := 65 }
abbrev rm_X8_leapDays : Room := { frames := 1, cells := 0, slots := 0, locals := 21 }
abbrev rm_X8_thirties : Room := { frames := 3, cells := 0, slots := 0, locals := 64 }
abbrev rm_X8_interestOf : Room := { frames := 4, cells := 0, slots := 0, locals := 89 }
abbrev rm_X8_interest : Room := { frames := 5, cells := 0, slots := 0, locals := 123 }
abbrev rm_X8_isLoan : Room := { frames := 1, cells := 0, slots := 0, locals := 25 }
abbrev rm_X8_at : Room := { frames := 0, cells := 0, slots := 0, locals := 0 }
abbrev rm_X8_sets : Room := { frames := 0, cells := 0, slots := 0, locals := 0 }
abbrev rm_X8_endOf : Room := { frames := 4, cells := 0, slots := 0, locals := 92 }
abbrev rm_X8_periodInterest : Room := { frames := 5, cells := 0, slots := 0, locals := 123 }
abbrev rm_X8_cut : Room := { frames := 0, cells := 0, slots := 0, locals := 0 }
abbrev rm_X8_repays : Room := { frames := 6, cells := 0, slots := 0, locals := 147 }
abbrev rm_X8_level : Room := { frames := 7, cells := 0, slots := 0, locals := 173 }
abbrev rm_X8_loan : Room := { frames := 8, cells := 0, slots := 0, locals := 200 }
abbrev rm_X8_principalOf : Room := { frames := 1, cells := 0, slots := 0, locals := 25 }
abbrev rm_X8_ends : Room := { frames := 6, cells := 0, slots := 0, locals := 147 }
abbrev rm_X8_fees : Room := { frames := 1, cells := 0, slots := 0, locals := 24 }
abbrev rm_X8_days : Room := { frames := 7, cells := 0, slots := 0, locals := 176 }
abbrev rm_X8_paidOff : Room := { frames := 1, cells := 0, slots := 0, locals := 24 }
abbrev rm_X8_firstGoes : Room := { frames := 1, cells := 0, slots := 0, locals := 24 }
abbrev rm_X8_asks : Room := { frames := 1, cells := 0, slots := 0, locals := 22 }
abbrev rm_X8_pays : Room := { frames := 8, cells := 0, slots := 0, locals := 200 }
abbrev rm_X8_isPaid : Room := { frames := 2, cells := 0, slots := 0, locals := 46 }
abbrev rm_X8_pay : Room := { frames := 9, cells := 0, slots := 0, locals := 228 }
abbrev rm_X8_reset : Room := { frames := 8, cells := 0, slots := 0, locals := 200 }
abbrev rm_X8_writeOff : Room := { frames := 2, cells := 0, slots := 0, locals := 46 }
abbrev rm_X8_rule : Room := { frames := 1, cells := 0, slots := 0, locals := 25 }
abbrev rm_X8_of : Room := { frames := 5, cells := 0, slots := 0, locals := 114 }
abbrev rm_X8_owed : Room := { frames := 2, cells := 0, slots := 0, locals := 45 }
abbrev rm_X8_comes : Room := { frames := 6, cells := 0, slots := 0, locals := 147 }
abbrev rm_X8_sum : Room := { frames := 7, cells := 0, slots := 0, locals := 172 }
abbrev rm_X8_bill : Room := { frames := 2, cells := 0, slots := 0, locals := 46 }
abbrev rm_X8_flow : Room := { frames := 0, cells := 0, slots := 0, locals := 0 }
abbrev rm_X8_nth : Room := { frames := 1, cells := 0, slots := 0, locals := 21 }
abbrev rm_X8_toCome : Room := { frames := 7, cells := 0, slots := 0, locals := 172 }
abbrev rm_X8_coming : Room := { frames := 7, cells := 0, slots := 0, locals := 172 }
abbrev rm_X8_valueOf : Room := { frames := 1, cells := 0, slots := 0, locals := 21 }
abbrev rm_X8_isRate : Room := { frames := 0, cells := 0, slots := 0, locals := 0 }
abbrev rm_Jxe99ae_isNaN_b9ae7 : Room := { frames := 0, cells := 0, slots := 0, locals := 0 }
abbrev rm_Jxe99ae_doubleToLongBits_ccdee : Room := { frames := 1, cells := 0, slots := 0, locals := 38 }
abbrev rm_X8_value : Room := { frames := 7, cells := 0, slots := 0, locals := 172 }
abbrev rm_X8_yields : Room := { frames := 2, cells := 0, slots := 0, locals := 49 }
abbrev rm_X8_yieldOf : Room := { frames := 7, cells := 0, slots := 0, locals := 172 }
abbrev rm_Jxf58ca_isNaN_12338 : Room := { frames := 0, cells := 0, slots := 0, locals := 0 }
abbrev rm_Jxf58ca_floatToIntBits_5c35a : Room := { frames := 1, cells := 0, slots := 0, locals := 38 }
abbrev rm_X8_near : Room := { frames := 7, cells := 0, slots := 0, locals := 172 }
abbrev rm_X8_duration : Room := { frames := 7, cells := 0, slots := 0, locals := 172 }
abbrev rm_X8_behind : Room := { frames := 1, cells := 0, slots := 0, locals := 22 }
abbrev rm_X8_settles : Room := { frames := 5, cells := 0, slots := 0, locals := 114 }
abbrev rm_X8_would : Room := { frames := 9, cells := 0, slots := 0, locals := 228 }
abbrev rm_X8_lastPrincipal : Room := { frames := 7, cells := 0, slots := 0, locals := 172 }
abbrev rm_X8_sooner : Room := { frames := 9, cells := 0, slots := 0, locals := 228 }
abbrev rm_X8_isHolder : Room := { frames := 1, cells := 0, slots := 0, locals := 25 }
abbrev rm_X8_judge : Room := { frames := 7, cells := 0, slots := 0, locals := 172 }
abbrev rm_X8_feed : Room := { frames := 1, cells := 0, slots := 0, locals := 25 }
abbrev rm_X8_sees : Room := { frames := 1, cells := 0, slots := 0, locals := 25 }
abbrev rm_X8_must : Room := { frames := 2, cells := 0, slots := 0, locals := 47 }
abbrev rm_X8_number : Room := { frames := 3, cells := 0, slots := 0, locals := 69 }
abbrev rm_X8_partsOf : Room := { frames := 0, cells := 0, slots := 0, locals := 0 }
abbrev rm_X8_line : Room := { frames := 4, cells := 0, slots := 0, locals := 91 }
abbrev rm_X8_isForm : Room := { frames := 5, cells := 0, slots := 0, locals := 114 }
abbrev rm_X8_does : Room := { frames := 10, cells := 0, slots := 0, locals := 251 }
abbrev rm_X8_script : Room := { frames := 11, cells := 0, slots := 0, locals := 275 }
abbrev rm_X8_image : Room := { frames := 1, cells := 0, slots := 0, locals := 22 }
abbrev rm_X8_back : Room := { frames := 2, cells := 0, slots := 0, locals := 46 }
abbrev rm_X8_hold : Room := { frames := 2, cells := 0, slots := 0, locals := 46 }
abbrev rm_X8_row : Room := { frames := 2, cells := 0, slots := 0, locals := 46 }
abbrev rm_X8_put : Room := { frames := 2, cells := 0, slots := 0, locals := 46 }
abbrev rm_X8_tells : Room := { frames := 2, cells := 0, slots := 0, locals := 46 }
abbrev rm_X8_bills : Room := { frames := 1, cells := 0, slots := 0, locals := 22 }
abbrev rm_X8_count : Room := { frames := 2, cells := 0, slots := 0, locals := 44 }

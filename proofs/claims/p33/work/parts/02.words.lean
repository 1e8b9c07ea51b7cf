theorem se_yX5_skipBlanks : Cond.selects RX5 yX5_skipBlanks yX5_skipBlanks ∈ lw_gd := gd_c0 (i := 0) rfl rfl
theorem se_yX5_readItem : Cond.selects RX5 yX5_readItem yX5_readItem ∈ lw_gd := gd_c0 (i := 1) rfl rfl
theorem se_yX5_nextWord : Cond.selects RX5 yX5_nextWord yX5_nextWord ∈ lw_gd := gd_c0 (i := 2) rfl rfl
theorem se_yX5_isMarked : Cond.selects RX5 yX5_isMarked yX5_isMarked ∈ lw_gd := gd_c0 (i := 3) rfl rfl
theorem se_yX5_readDay : Cond.selects RX5 yX5_readDay yX5_readDay ∈ lw_gd := gd_c0 (i := 4) rfl rfl
theorem se_yX5_nextNumber : Cond.selects RX5 yX5_nextNumber yX5_nextNumber ∈ lw_gd := gd_c0 (i := 5) rfl rfl
theorem se_yX5_failAt : Cond.selects RX5 yX5_failAt yX5_failAt ∈ lw_gd := gd_c0 (i := 6) rfl rfl
theorem se_yX5_readSick : Cond.selects RX5 yX5_readSick yX5_readSick ∈ lw_gd := gd_c0 (i := 7) rfl rfl
theorem se_yX5_readChild : Cond.selects RX5 yX5_readChild yX5_readChild ∈ lw_gd := gd_c0 (i := 8) rfl rfl
theorem se_yX2_spreadFrom : Cond.selects RX2 yX2_spreadFrom yX2_spreadFrom ∈ lw_gd := gd_c0 (i := 9) rfl rfl
theorem se_yX2_isTouched : Cond.selects RX2 yX2_isTouched yX2_isTouched ∈ lw_gd := gd_c0 (i := 10) rfl rfl
theorem se_yX2_bookFits : Cond.selects RX2 yX2_bookFits yX2_bookFits ∈ lw_gd := gd_c0 (i := 11) rfl rfl
theorem se_yX8_holdsChild : Cond.selects RX8 yX8_holdsChild yX8_holdsChild ∈ lw_gd := gd_c0 (i := 12) rfl rfl
theorem se_yX6_runAct : Cond.selects RX6 yX6_runAct yX6_runAct ∈ lw_gd := gd_c0 (i := 13) rfl rfl
theorem se_yX6_runBody : Cond.selects RX6 yX6_runBody yX6_runBody ∈ lw_gd := gd_c0 (i := 14) rfl rfl
theorem se_yX6_shared : Cond.selects RX6 yX6_shared yX6_shared ∈ lw_gd := gd_c0 (i := 15) rfl rfl
theorem se_yX9_advance : Cond.selects RX9 yX9_advance yX9_advance ∈ lw_gd := gd_c0 (i := 16) rfl rfl
theorem se_yX9_byteAt : Cond.selects RX9 yX9_byteAt yX9_byteAt ∈ lw_gd := gd_c0 (i := 17) rfl rfl
theorem se_yX9_wantClause : Cond.selects RX9 yX9_wantClause yX9_wantClause ∈ lw_gd := gd_c0 (i := 18) rfl rfl
theorem se_yX9_kindHere : Cond.selects RX9 yX9_kindHere yX9_kindHere ∈ lw_gd := gd_c0 (i := 19) rfl rfl
theorem se_yX9_isWord : Cond.selects RX9 yX9_isWord yX9_isWord ∈ lw_gd := gd_c0 (i := 20) rfl rfl
theorem se_yX9_wantChild : Cond.selects RX9 yX9_wantChild yX9_wantChild ∈ lw_gd := gd_c0 (i := 21) rfl rfl
theorem se_yX9_wantNumber : Cond.selects RX9 yX9_wantNumber yX9_wantNumber ∈ lw_gd := gd_c0 (i := 22) rfl rfl
theorem se_yX9_wantEnd : Cond.selects RX9 yX9_wantEnd yX9_wantEnd ∈ lw_gd := gd_c0 (i := 23) rfl rfl
theorem se_yX9_isMark : Cond.selects RX9 yX9_isMark yX9_isMark ∈ lw_gd := gd_c0 (i := 24) rfl rfl
theorem se_yX9_wantLaw : Cond.selects RX9 yX9_wantLaw yX9_wantLaw ∈ lw_gd := gd_c0 (i := 25) rfl rfl
theorem se_yX9_isChild : Cond.selects RX9 yX9_isChild yX9_isChild ∈ lw_gd := gd_c0 (i := 26) rfl rfl
theorem se_yX9_its : Cond.selects RX9 yX9_its yX9_its ∈ lw_gd := gd_c0 (i := 27) rfl rfl
theorem se_yX9_wouldBe : Cond.selects RX9 yX9_wouldBe yX9_wouldBe ∈ lw_gd := gd_c0 (i := 28) rfl rfl
theorem se_yX9_isAway : Cond.selects RX9 yX9_isAway yX9_isAway ∈ lw_gd := gd_c0 (i := 29) rfl rfl
theorem se_yX9_staysAway : Cond.selects RX9 yX9_staysAway yX9_staysAway ∈ lw_gd := gd_c0 (i := 30) rfl rfl
theorem se_yX9_dayGoes : Cond.selects RX9 yX9_dayGoes yX9_dayGoes ∈ lw_gd := gd_c0 (i := 31) rfl rfl
theorem se_yX9_sickSet : Cond.selects RX9 yX9_sickSet yX9_sickSet ∈ lw_gd := gd_c0 (i := 32) rfl rfl
theorem se_yX9_catches : Cond.selects RX9 yX9_catches yX9_catches ∈ lw_gd := gd_c0 (i := 33) rfl rfl
theorem se_yX9_knocks : Cond.selects RX9 yX9_knocks yX9_knocks ∈ lw_gd := gd_c0 (i := 34) rfl rfl
theorem se_yX9_lends : Cond.selects RX9 yX9_lends yX9_lends ∈ lw_gd := gd_c0 (i := 35) rfl rfl
theorem se_yX9_comes : Cond.selects RX9 yX9_comes yX9_comes ∈ lw_gd := gd_c0 (i := 36) rfl rfl
theorem se_yX9_isOf : Cond.selects RX9 yX9_isOf yX9_isOf ∈ lw_gd := gd_c0 (i := 37) rfl rfl
theorem se_yX9_findRows : Cond.selects RX9 yX9_findRows yX9_findRows ∈ lw_gd := gd_c0 (i := 38) rfl rfl
theorem se_yX9_isRow : Cond.selects RX9 yX9_isRow yX9_isRow ∈ lw_gd := gd_c0 (i := 39) rfl rfl
theorem se_yX9_lacksSort : Cond.selects RX9 yX9_lacksSort yX9_lacksSort ∈ lw_gd := gd_c0 (i := 40) rfl rfl
theorem se_yX9_isHeld : Cond.selects RX9 yX9_isHeld yX9_isHeld ∈ lw_gd := gd_c0 (i := 41) rfl rfl
theorem se_yX9_kindOn : Cond.selects RX9 yX9_kindOn yX9_kindOn ∈ lw_gd := gd_c0 (i := 42) rfl rfl
theorem se_yX9_knocksIt : Cond.selects RX9 yX9_knocksIt yX9_knocksIt ∈ lw_gd := gd_c0 (i := 43) rfl rfl
theorem se_yX9_illKnocks : Cond.selects RX9 yX9_illKnocks yX9_illKnocks ∈ lw_gd := gd_c0 (i := 44) rfl rfl
theorem se_yX9_ran : Cond.selects RX9 yX9_ran yX9_ran ∈ lw_gd := gd_c0 (i := 45) rfl rfl
theorem se_yX9_plainKnocks : Cond.selects RX9 yX9_plainKnocks yX9_plainKnocks ∈ lw_gd := gd_c0 (i := 46) rfl rfl
theorem se_yX9_crossesIt : Cond.selects RX9 yX9_crossesIt yX9_crossesIt ∈ lw_gd := gd_c0 (i := 47) rfl rfl
theorem se_yX9_plainCrosses : Cond.selects RX9 yX9_plainCrosses yX9_plainCrosses ∈ lw_gd := gd_c0 (i := 48) rfl rfl
theorem se_yX9_sharesIt : Cond.selects RX9 yX9_sharesIt yX9_sharesIt ∈ lw_gd := gd_c0 (i := 49) rfl rfl
theorem se_yX9_plainShares : Cond.selects RX9 yX9_plainShares yX9_plainShares ∈ lw_gd := gd_c0 (i := 50) rfl rfl
theorem se_yX9_tellsIt : Cond.selects RX9 yX9_tellsIt yX9_tellsIt ∈ lw_gd := gd_c0 (i := 51) rfl rfl
theorem se_yX9_plainTells : Cond.selects RX9 yX9_plainTells yX9_plainTells ∈ lw_gd := gd_c0 (i := 52) rfl rfl
theorem se_yX9_moveAll : Cond.selects RX9 yX9_moveAll yX9_moveAll ∈ lw_gd := gd_c0 (i := 53) rfl rfl
theorem se_yX9_moveRow : Cond.selects RX9 yX9_moveRow yX9_moveRow ∈ lw_gd := gd_c0 (i := 54) rfl rfl
theorem ini_RL : Cond.initialized RL ∈ lw_gd := gd_c1 (i := 0) rfl rfl
theorem ini_RX8 : Cond.initialized RX8 ∈ lw_gd := gd_c1 (i := 1) rfl rfl
theorem ini_RX2 : Cond.initialized RX2 ∈ lw_gd := gd_c1 (i := 2) rfl rfl
theorem ini_RX0 : Cond.initialized RX0 ∈ lw_gd := gd_c1 (i := 3) rfl rfl
theorem ini_RJ10 : Cond.initialized RJ10 ∈ lw_gd := gd_c1 (i := 4) rfl rfl
theorem ini_RX7 : Cond.initialized RX7 ∈ lw_gd := gd_c1 (i := 5) rfl rfl
theorem ini_RX5 : Cond.initialized RX5 ∈ lw_gd := gd_c1 (i := 6) rfl rfl
theorem ini_RX1 : Cond.initialized RX1 ∈ lw_gd := gd_c1 (i := 7) rfl rfl
theorem ini_RX6 : Cond.initialized RX6 ∈ lw_gd := gd_c1 (i := 8) rfl rfl
theorem ini_RX3 : Cond.initialized RX3 ∈ lw_gd := gd_c1 (i := 9) rfl rfl
theorem ini_RX4 : Cond.initialized RX4 ∈ lw_gd := gd_c1 (i := 10) rfl rfl
theorem ini_RX9 : Cond.initialized RX9 ∈ lw_gd := gd_c1 (i := 11) rfl rfl
theorem ini_RJ0 : Cond.initialized RJ0 ∈ lw_gd := gd_c1 (i := 12) rfl rfl
theorem ini_RJ1 : Cond.initialized RJ1 ∈ lw_gd := gd_c1 (i := 13) rfl rfl
theorem ini_RJ3 : Cond.initialized RJ3 ∈ lw_gd := gd_c1 (i := 14) rfl rfl
theorem ini_RJ2 : Cond.initialized RJ2 ∈ lw_gd := gd_c1 (i := 15) rfl rfl
theorem ini_RJ9 : Cond.initialized RJ9 ∈ lw_gd := gd_c1 (i := 16) rfl rfl
theorem ini_RJ6 : Cond.initialized RJ6 ∈ lw_gd := gd_c1 (i := 17) rfl rfl
theorem kl_L_7 : Cond.classLink RL 7 "CrossBook" ∈ lw_gd := gd_c1 (i := 18) rfl rfl
theorem ins_RX8 : Cond.instantiable RX8 9 ∈ lw_gd := gd_c1 (i := 19) rfl rfl
theorem ml_L_9 : Cond.methodLink RL 9 yX8_init ∈ lw_gd := gd_c1 (i := 20) rfl rfl
theorem im_yX8_init : Cond.instanceMethod yX8_init ∈ lw_gd := gd_c1 (i := 21) rfl rfl
theorem co_yX8_init : Cond.code yX8_init cX8_init 2 (none : Option FieldType) ∈ lw_gd := gd_c1 (i := 22) rfl rfl
theorem ml_X8_1 : Cond.methodLink RX8 1 objectInit ∈ lw_gd := gd_c1 (i := 23) rfl rfl
theorem im_objectInit : Cond.instanceMethod objectInit ∈ lw_gd := gd_c1 (i := 24) rfl rfl
theorem co_objectInit : Cond.code objectInit ⟨#[0xb1]⟩ 1 (none : Option FieldType) ∈ lw_gd := gd_c1 (i := 25) rfl rfl
theorem kl_X8_7 : Cond.classLink RX8 7 "CrossBook$School" ∈ lw_gd := gd_c1 (i := 26) rfl rfl
theorem ins_RX2 : Cond.instantiable RX2 15 ∈ lw_gd := gd_c1 (i := 27) rfl rfl
theorem ml_X8_9 : Cond.methodLink RX8 9 yX2_init ∈ lw_gd := gd_c1 (i := 28) rfl rfl
theorem im_yX2_init : Cond.instanceMethod yX2_init ∈ lw_gd := gd_c1 (i := 29) rfl rfl
theorem co_yX2_init : Cond.code yX2_init cX2_init 1 (none : Option FieldType) ∈ lw_gd := gd_c1 (i := 30) rfl rfl
theorem ml_X2_3 : Cond.methodLink RX2 3 objectInit ∈ lw_gd := gd_c1 (i := 31) rfl rfl
theorem kl_X2_55 : Cond.classLink RX2 55 "CrossBook$Absence" ∈ lw_gd := gd_c1 (i := 32) rfl rfl
theorem ins_RX0 : Cond.instantiable RX0 9 ∈ lw_gd := gd_c1 (i := 33) rfl rfl
theorem im_yX0_init : Cond.instanceMethod yX0_init ∈ lw_gd := gd_c1 (i := 35) rfl rfl
theorem co_yX0_init : Cond.code yX0_init cX0_init 1 (none : Option FieldType) ∈ lw_gd := gd_c1 (i := 36) rfl rfl
theorem ml_X0_3 : Cond.methodLink RX0 3 objectInit ∈ lw_gd := gd_c1 (i := 37) rfl rfl
theorem fl_X0_27 : Cond.fieldLink RX0 27 "CrossBook$Absence" "kind" "I" ∈ lw_gd := gd_c1 (i := 38) rfl rfl
theorem fl_X2_75 : Cond.fieldLink RX2 75 "CrossBook$Absence" "kind" "I" ∈ lw_gd := gd_c1 (i := 39) rfl rfl
theorem fl_X0_24 : Cond.fieldLink RX0 24 "CrossBook$Absence" "a" "I" ∈ lw_gd := gd_c1 (i := 40) rfl rfl
theorem fl_X2_77 : Cond.fieldLink RX2 77 "CrossBook$Absence" "a" "I" ∈ lw_gd := gd_c1 (i := 41) rfl rfl
theorem fl_X0_15 : Cond.fieldLink RX0 15 "CrossBook$Absence" "far" "I" ∈ lw_gd := gd_c1 (i := 42) rfl rfl
theorem fl_X2_79 : Cond.fieldLink RX2 79 "CrossBook$Absence" "far" "I" ∈ lw_gd := gd_c1 (i := 43) rfl rfl
theorem fl_X0_30 : Cond.fieldLink RX0 30 "CrossBook$Absence" "sick" "I" ∈ lw_gd := gd_c1 (i := 44) rfl rfl
theorem fl_X2_81 : Cond.fieldLink RX2 81 "CrossBook$Absence" "sick" "I" ∈ lw_gd := gd_c1 (i := 45) rfl rfl
theorem fl_X0_18 : Cond.fieldLink RX0 18 "CrossBook$Absence" "knock" "I" ∈ lw_gd := gd_c1 (i := 46) rfl rfl
theorem fl_X2_83 : Cond.fieldLink RX2 83 "CrossBook$Absence" "knock" "I" ∈ lw_gd := gd_c1 (i := 47) rfl rfl
theorem fl_X0_33 : Cond.fieldLink RX0 33 "CrossBook$Absence" "away" "I" ∈ lw_gd := gd_c1 (i := 48) rfl rfl
theorem fl_X2_85 : Cond.fieldLink RX2 85 "CrossBook$Absence" "away" "I" ∈ lw_gd := gd_c1 (i := 49) rfl rfl
theorem fl_X0_21 : Cond.fieldLink RX0 21 "CrossBook$Absence" "day" "I" ∈ lw_gd := gd_c1 (i := 50) rfl rfl
theorem fl_X2_87 : Cond.fieldLink RX2 87 "CrossBook$Absence" "day" "I" ∈ lw_gd := gd_c1 (i := 51) rfl rfl
theorem fl_X0_9 : Cond.fieldLink RX0 9 "CrossBook$Absence" "events" "I" ∈ lw_gd := gd_c1 (i := 52) rfl rfl
theorem fl_X2_90 : Cond.fieldLink RX2 90 "CrossBook$Absence" "events" "I" ∈ lw_gd := gd_c1 (i := 53) rfl rfl
theorem fl_X0_36 : Cond.fieldLink RX0 36 "CrossBook$Absence" "lost" "I" ∈ lw_gd := gd_c1 (i := 54) rfl rfl
theorem fl_X2_92 : Cond.fieldLink RX2 92 "CrossBook$Absence" "lost" "I" ∈ lw_gd := gd_c1 (i := 55) rfl rfl
theorem ac_FieldType_int : Cond.arrayClass FieldType.int ∈ lw_gd := gd_c1 (i := 75) rfl rfl
theorem ml_X2_65 : Cond.methodLink RX2 65 arraycopyName ∈ lw_gd := gd_c1 (i := 78) rfl rfl
theorem sm_arraycopy : Cond.static arraycopyName ∈ lw_gd := gd_c1 (i := 79) rfl rfl
theorem nt_arraycopy : Cond.native arraycopyName ∈ lw_gd := gd_c1 (i := 80) rfl rfl
theorem fl_X2_9 : Cond.fieldLink RX2 9 "CrossBook$School" "kind" "[I" ∈ lw_gd := gd_c1 (i := 81) rfl rfl
theorem fl_X8_109 : Cond.fieldLink RX8 109 "CrossBook$School" "kind" "[I" ∈ lw_gd := gd_c1 (i := 82) rfl rfl
theorem fl_X2_15 : Cond.fieldLink RX2 15 "CrossBook$School" "a" "[I" ∈ lw_gd := gd_c1 (i := 83) rfl rfl
theorem fl_X8_113 : Cond.fieldLink RX8 113 "CrossBook$School" "a" "[I" ∈ lw_gd := gd_c1 (i := 84) rfl rfl
theorem fl_X2_18 : Cond.fieldLink RX2 18 "CrossBook$School" "house" "[I" ∈ lw_gd := gd_c1 (i := 85) rfl rfl
theorem fl_X2_21 : Cond.fieldLink RX2 21 "CrossBook$School" "far" "[I" ∈ lw_gd := gd_c1 (i := 86) rfl rfl
theorem fl_X2_24 : Cond.fieldLink RX2 24 "CrossBook$School" "sick" "[I" ∈ lw_gd := gd_c1 (i := 87) rfl rfl
theorem fl_X5_85 : Cond.fieldLink RX5 85 "CrossBook$School" "sick" "[I" ∈ lw_gd := gd_c1 (i := 88) rfl rfl
theorem fl_X8_116 : Cond.fieldLink RX8 116 "CrossBook$School" "sick" "[I" ∈ lw_gd := gd_c1 (i := 89) rfl rfl
theorem fl_X2_27 : Cond.fieldLink RX2 27 "CrossBook$School" "knock" "[I" ∈ lw_gd := gd_c1 (i := 90) rfl rfl
theorem fl_X2_30 : Cond.fieldLink RX2 30 "CrossBook$School" "away" "[I" ∈ lw_gd := gd_c1 (i := 91) rfl rfl
theorem fl_X7_43 : Cond.fieldLink RX7 43 "CrossBook$School" "away" "[I" ∈ lw_gd := gd_c1 (i := 92) rfl rfl
theorem fl_X2_33 : Cond.fieldLink RX2 33 "CrossBook$School" "count" "I" ∈ lw_gd := gd_c1 (i := 93) rfl rfl
theorem fl_X8_87 : Cond.fieldLink RX8 87 "CrossBook$School" "count" "I" ∈ lw_gd := gd_c1 (i := 94) rfl rfl
theorem fl_X5_82 : Cond.fieldLink RX5 82 "CrossBook$School" "count" "I" ∈ lw_gd := gd_c1 (i := 95) rfl rfl
theorem fl_X2_37 : Cond.fieldLink RX2 37 "CrossBook$School" "events" "[I" ∈ lw_gd := gd_c1 (i := 96) rfl rfl
theorem fl_X5_79 : Cond.fieldLink RX5 79 "CrossBook$School" "events" "[I" ∈ lw_gd := gd_c1 (i := 97) rfl rfl
theorem fl_X8_122 : Cond.fieldLink RX8 122 "CrossBook$School" "events" "[I" ∈ lw_gd := gd_c1 (i := 98) rfl rfl
theorem fl_X2_40 : Cond.fieldLink RX2 40 "CrossBook$School" "crosses" "[I" ∈ lw_gd := gd_c1 (i := 99) rfl rfl
theorem fl_X8_125 : Cond.fieldLink RX8 125 "CrossBook$School" "crosses" "[I" ∈ lw_gd := gd_c1 (i := 100) rfl rfl
theorem fl_X2_43 : Cond.fieldLink RX2 43 "CrossBook$School" "truly" "[I" ∈ lw_gd := gd_c1 (i := 101) rfl rfl
theorem fl_X8_128 : Cond.fieldLink RX8 128 "CrossBook$School" "truly" "[I" ∈ lw_gd := gd_c1 (i := 102) rfl rfl
theorem fl_X2_46 : Cond.fieldLink RX2 46 "CrossBook$School" "laws" "[I" ∈ lw_gd := gd_c1 (i := 103) rfl rfl
theorem fl_X7_47 : Cond.fieldLink RX7 47 "CrossBook$School" "laws" "[I" ∈ lw_gd := gd_c1 (i := 104) rfl rfl
theorem fl_X5_62 : Cond.fieldLink RX5 62 "CrossBook$School" "laws" "[I" ∈ lw_gd := gd_c1 (i := 105) rfl rfl
theorem fl_X8_137 : Cond.fieldLink RX8 137 "CrossBook$School" "laws" "[I" ∈ lw_gd := gd_c1 (i := 106) rfl rfl
theorem fl_X2_49 : Cond.fieldLink RX2 49 "CrossBook$School" "today" "I" ∈ lw_gd := gd_c1 (i := 107) rfl rfl
theorem fl_X7_50 : Cond.fieldLink RX7 50 "CrossBook$School" "today" "I" ∈ lw_gd := gd_c1 (i := 108) rfl rfl
theorem fl_X5_59 : Cond.fieldLink RX5 59 "CrossBook$School" "today" "I" ∈ lw_gd := gd_c1 (i := 109) rfl rfl
theorem fl_X8_140 : Cond.fieldLink RX8 140 "CrossBook$School" "today" "I" ∈ lw_gd := gd_c1 (i := 110) rfl rfl
theorem fl_X2_52 : Cond.fieldLink RX2 52 "CrossBook$School" "z" "I" ∈ lw_gd := gd_c1 (i := 111) rfl rfl
theorem fl_X8_197 : Cond.fieldLink RX8 197 "CrossBook$School" "z" "I" ∈ lw_gd := gd_c1 (i := 112) rfl rfl
theorem fl_X2_58 : Cond.fieldLink RX2 58 "CrossBook$School" "asked" "LCrossBook$Absence;" ∈ lw_gd := gd_c1 (i := 113) rfl rfl
theorem kl_X8_23 : Cond.classLink RX8 23 "CrossBook$Trial" ∈ lw_gd := gd_c1 (i := 145) rfl rfl
theorem ins_RX7 : Cond.instantiable RX7 1 ∈ lw_gd := gd_c1 (i := 146) rfl rfl
theorem im_yX7_init : Cond.instanceMethod yX7_init ∈ lw_gd := gd_c1 (i := 148) rfl rfl
theorem co_yX7_init : Cond.code yX7_init cX7_init 1 (none : Option FieldType) ∈ lw_gd := gd_c1 (i := 149) rfl rfl
theorem ml_X7_3 : Cond.methodLink RX7 3 objectInit ∈ lw_gd := gd_c1 (i := 150) rfl rfl
theorem kl_X7_9 : Cond.classLink RX7 9 "CrossBook$School" ∈ lw_gd := gd_c1 (i := 151) rfl rfl
theorem ml_X7_11 : Cond.methodLink RX7 11 yX2_init ∈ lw_gd := gd_c1 (i := 152) rfl rfl
theorem fl_X7_12 : Cond.fieldLink RX7 12 "CrossBook$Trial" "ahead" "LCrossBook$School;" ∈ lw_gd := gd_c1 (i := 153) rfl rfl
theorem kl_X8_30 : Cond.classLink RX8 30 "CrossBook$Teller" ∈ lw_gd := gd_c1 (i := 157) rfl rfl
theorem ins_RX5 : Cond.instantiable RX5 6 ∈ lw_gd := gd_c1 (i := 158) rfl rfl
theorem im_yX5_init : Cond.instanceMethod yX5_init ∈ lw_gd := gd_c1 (i := 160) rfl rfl
theorem co_yX5_init : Cond.code yX5_init cX5_init 1 (none : Option FieldType) ∈ lw_gd := gd_c1 (i := 161) rfl rfl
theorem ml_X5_3 : Cond.methodLink RX5 3 objectInit ∈ lw_gd := gd_c1 (i := 162) rfl rfl
theorem kl_X5_19 : Cond.classLink RX5 19 "CrossBook$School" ∈ lw_gd := gd_c1 (i := 163) rfl rfl
theorem ml_X5_21 : Cond.methodLink RX5 21 yX2_init ∈ lw_gd := gd_c1 (i := 164) rfl rfl
theorem fl_X5_11 : Cond.fieldLink RX5 11 "CrossBook$Teller" "tape" "[B" ∈ lw_gd := gd_c1 (i := 165) rfl rfl
theorem fl_X5_15 : Cond.fieldLink RX5 15 "CrossBook$Teller" "size" "I" ∈ lw_gd := gd_c1 (i := 166) rfl rfl
theorem fl_X8_69 : Cond.fieldLink RX8 69 "CrossBook$Teller" "size" "I" ∈ lw_gd := gd_c1 (i := 167) rfl rfl
theorem fl_X5_22 : Cond.fieldLink RX5 22 "CrossBook$Teller" "told" "LCrossBook$School;" ∈ lw_gd := gd_c1 (i := 168) rfl rfl
theorem fl_X8_77 : Cond.fieldLink RX8 77 "CrossBook$Teller" "told" "LCrossBook$School;" ∈ lw_gd := gd_c1 (i := 169) rfl rfl
theorem fl_X5_26 : Cond.fieldLink RX5 26 "CrossBook$Teller" "at" "I" ∈ lw_gd := gd_c1 (i := 170) rfl rfl
theorem fl_X5_29 : Cond.fieldLink RX5 29 "CrossBook$Teller" "mark" "I" ∈ lw_gd := gd_c1 (i := 171) rfl rfl
theorem fl_X5_32 : Cond.fieldLink RX5 32 "CrossBook$Teller" "fault" "I" ∈ lw_gd := gd_c1 (i := 172) rfl rfl
theorem ac_FieldType_byte : Cond.arrayClass FieldType.byte ∈ lw_gd := gd_c1 (i := 186) rfl rfl
theorem kl_X8_37 : Cond.classLink RX8 37 "CrossBook$Rows" ∈ lw_gd := gd_c1 (i := 187) rfl rfl
theorem ins_RX1 : Cond.instantiable RX1 2 ∈ lw_gd := gd_c1 (i := 188) rfl rfl
theorem im_yX1_init : Cond.instanceMethod yX1_init ∈ lw_gd := gd_c1 (i := 190) rfl rfl
theorem co_yX1_init : Cond.code yX1_init cX1_init 1 (none : Option FieldType) ∈ lw_gd := gd_c1 (i := 191) rfl rfl
theorem ml_X1_3 : Cond.methodLink RX1 3 objectInit ∈ lw_gd := gd_c1 (i := 192) rfl rfl
theorem fl_X1_11 : Cond.fieldLink RX1 11 "CrossBook$Rows" "cells" "[I" ∈ lw_gd := gd_c1 (i := 193) rfl rfl
theorem fl_X8_213 : Cond.fieldLink RX8 213 "CrossBook$Rows" "cells" "[I" ∈ lw_gd := gd_c1 (i := 194) rfl rfl
theorem fl_X1_15 : Cond.fieldLink RX1 15 "CrossBook$Rows" "count" "I" ∈ lw_gd := gd_c1 (i := 195) rfl rfl
theorem fl_X8_84 : Cond.fieldLink RX8 84 "CrossBook$Rows" "count" "I" ∈ lw_gd := gd_c1 (i := 196) rfl rfl
theorem fl_X7_54 : Cond.fieldLink RX7 54 "CrossBook$Rows" "count" "I" ∈ lw_gd := gd_c1 (i := 197) rfl rfl
theorem kl_X8_44 : Cond.classLink RX8 44 "CrossBook$Sheet" ∈ lw_gd := gd_c1 (i := 203) rfl rfl
theorem kl_X8_50 : Cond.classLink RX8 50 "CrossBook$Shelf" ∈ lw_gd := gd_c1 (i := 205) rfl rfl
theorem kl_X8_56 : Cond.classLink RX8 56 "CrossBook$Thing" ∈ lw_gd := gd_c1 (i := 207) rfl rfl
theorem ins_RX6 : Cond.instantiable RX6 6 ∈ lw_gd := gd_c1 (i := 208) rfl rfl
theorem im_yX6_init : Cond.instanceMethod yX6_init ∈ lw_gd := gd_c1 (i := 210) rfl rfl
theorem co_yX6_init : Cond.code yX6_init cX6_init 1 (none : Option FieldType) ∈ lw_gd := gd_c1 (i := 211) rfl rfl
theorem ml_X6_3 : Cond.methodLink RX6 3 objectInit ∈ lw_gd := gd_c1 (i := 212) rfl rfl
theorem fl_X6_11 : Cond.fieldLink RX6 11 "CrossBook$Thing" "trace" "[I" ∈ lw_gd := gd_c1 (i := 213) rfl rfl
theorem fl_X8_284 : Cond.fieldLink RX8 284 "CrossBook$Thing" "trace" "[I" ∈ lw_gd := gd_c1 (i := 214) rfl rfl
theorem fl_X6_15 : Cond.fieldLink RX6 15 "CrossBook$Thing" "ran" "I" ∈ lw_gd := gd_c1 (i := 215) rfl rfl
theorem fl_X8_281 : Cond.fieldLink RX8 281 "CrossBook$Thing" "ran" "I" ∈ lw_gd := gd_c1 (i := 216) rfl rfl
theorem fl_X6_19 : Cond.fieldLink RX6 19 "CrossBook$Thing" "kind" "I" ∈ lw_gd := gd_c1 (i := 217) rfl rfl
theorem fl_X6_22 : Cond.fieldLink RX6 22 "CrossBook$Thing" "n" "I" ∈ lw_gd := gd_c1 (i := 218) rfl rfl
theorem fl_X6_25 : Cond.fieldLink RX6 25 "CrossBook$Thing" "a" "I" ∈ lw_gd := gd_c1 (i := 219) rfl rfl
theorem fl_X6_28 : Cond.fieldLink RX6 28 "CrossBook$Thing" "isParted" "Z" ∈ lw_gd := gd_c1 (i := 220) rfl rfl
theorem ins_RX3 : Cond.instantiable RX3 3 ∈ lw_gd := gd_c1 (i := 234) rfl rfl
theorem im_yX3_init : Cond.instanceMethod yX3_init ∈ lw_gd := gd_c1 (i := 236) rfl rfl
theorem co_yX3_init : Cond.code yX3_init cX3_init 1 (none : Option FieldType) ∈ lw_gd := gd_c1 (i := 237) rfl rfl
theorem ml_X3_3 : Cond.methodLink RX3 3 objectInit ∈ lw_gd := gd_c1 (i := 238) rfl rfl
theorem fl_X3_9 : Cond.fieldLink RX3 9 "CrossBook$Sheet" "sort" "I" ∈ lw_gd := gd_c1 (i := 239) rfl rfl
theorem fl_X8_237 : Cond.fieldLink RX8 237 "CrossBook$Sheet" "sort" "I" ∈ lw_gd := gd_c2 (i := 0) rfl rfl
theorem fl_X3_15 : Cond.fieldLink RX3 15 "CrossBook$Sheet" "length" "I" ∈ lw_gd := gd_c2 (i := 1) rfl rfl
theorem fl_X8_226 : Cond.fieldLink RX8 226 "CrossBook$Sheet" "length" "I" ∈ lw_gd := gd_c2 (i := 2) rfl rfl
theorem fl_X3_18 : Cond.fieldLink RX3 18 "CrossBook$Sheet" "items" "[J" ∈ lw_gd := gd_c2 (i := 3) rfl rfl
theorem fl_X8_229 : Cond.fieldLink RX8 229 "CrossBook$Sheet" "items" "[J" ∈ lw_gd := gd_c2 (i := 4) rfl rfl
theorem ac_FieldType_long : Cond.arrayClass FieldType.long ∈ lw_gd := gd_c2 (i := 12) rfl rfl
theorem ins_RX4 : Cond.instantiable RX4 3 ∈ lw_gd := gd_c2 (i := 13) rfl rfl
theorem im_yX4_init : Cond.instanceMethod yX4_init ∈ lw_gd := gd_c2 (i := 15) rfl rfl
theorem co_yX4_init : Cond.code yX4_init cX4_init 1 (none : Option FieldType) ∈ lw_gd := gd_c2 (i := 16) rfl rfl
theorem ml_X4_3 : Cond.methodLink RX4 3 objectInit ∈ lw_gd := gd_c2 (i := 17) rfl rfl
theorem fl_X4_9 : Cond.fieldLink RX4 9 "CrossBook$Shelf" "holds" "I" ∈ lw_gd := gd_c2 (i := 18) rfl rfl
theorem fl_X8_260 : Cond.fieldLink RX8 260 "CrossBook$Shelf" "holds" "I" ∈ lw_gd := gd_c2 (i := 19) rfl rfl
theorem fl_X4_15 : Cond.fieldLink RX4 15 "CrossBook$Shelf" "number" "I" ∈ lw_gd := gd_c2 (i := 20) rfl rfl
theorem fl_X8_264 : Cond.fieldLink RX8 264 "CrossBook$Shelf" "number" "I" ∈ lw_gd := gd_c2 (i := 21) rfl rfl
theorem fl_X4_18 : Cond.fieldLink RX4 18 "CrossBook$Shelf" "sort" "I" ∈ lw_gd := gd_c2 (i := 22) rfl rfl
theorem fl_X8_263 : Cond.fieldLink RX8 263 "CrossBook$Shelf" "sort" "I" ∈ lw_gd := gd_c2 (i := 23) rfl rfl
theorem fl_X8_10 : Cond.fieldLink RX8 10 "CrossBook" "now" "LCrossBook$School;" ∈ lw_gd := gd_c2 (i := 31) rfl rfl
theorem fl_X8_16 : Cond.fieldLink RX8 16 "CrossBook" "kept" "LCrossBook$School;" ∈ lw_gd := gd_c2 (i := 32) rfl rfl
theorem fl_X8_19 : Cond.fieldLink RX8 19 "CrossBook" "isKept" "Z" ∈ lw_gd := gd_c2 (i := 33) rfl rfl
theorem fl_X8_26 : Cond.fieldLink RX8 26 "CrossBook" "trial" "LCrossBook$Trial;" ∈ lw_gd := gd_c2 (i := 34) rfl rfl
theorem fl_X8_33 : Cond.fieldLink RX8 33 "CrossBook" "teller" "LCrossBook$Teller;" ∈ lw_gd := gd_c2 (i := 35) rfl rfl
theorem fl_X8_40 : Cond.fieldLink RX8 40 "CrossBook" "rows" "LCrossBook$Rows;" ∈ lw_gd := gd_c2 (i := 36) rfl rfl
theorem fl_X8_46 : Cond.fieldLink RX8 46 "CrossBook" "sheets" "[LCrossBook$Sheet;" ∈ lw_gd := gd_c2 (i := 37) rfl rfl
theorem fl_X8_52 : Cond.fieldLink RX8 52 "CrossBook" "shelves" "[LCrossBook$Shelf;" ∈ lw_gd := gd_c2 (i := 38) rfl rfl
theorem fl_X8_59 : Cond.fieldLink RX8 59 "CrossBook" "thing" "LCrossBook$Thing;" ∈ lw_gd := gd_c2 (i := 39) rfl rfl
theorem ml_L_15 : Cond.methodLink RL 15 yX8_feed ∈ lw_gd := gd_c2 (i := 59) rfl rfl
theorem im_yX8_feed : Cond.instanceMethod yX8_feed ∈ lw_gd := gd_c2 (i := 60) rfl rfl
theorem se_yX8_feed : Cond.selects RX8 yX8_feed yX8_feed ∈ lw_gd := gd_c2 (i := 61) rfl rfl
theorem co_yX8_feed : Cond.code yX8_feed cX8_feed 4 (some FieldType.int) ∈ lw_gd := gd_c2 (i := 62) rfl rfl
theorem ml_X8_65 : Cond.methodLink RX8 65 yX5_takeBytes ∈ lw_gd := gd_c2 (i := 63) rfl rfl
theorem im_yX5_takeBytes : Cond.instanceMethod yX5_takeBytes ∈ lw_gd := gd_c2 (i := 64) rfl rfl
theorem se_yX5_takeBytes : Cond.selects RX5 yX5_takeBytes yX5_takeBytes ∈ lw_gd := gd_c2 (i := 65) rfl rfl
theorem co_yX5_takeBytes : Cond.code yX5_takeBytes cX5_takeBytes 5 (some FieldType.boolean) ∈ lw_gd := gd_c2 (i := 66) rfl rfl
theorem ml_L_20 : Cond.methodLink RL 20 yX8_school ∈ lw_gd := gd_c2 (i := 67) rfl rfl
theorem im_yX8_school : Cond.instanceMethod yX8_school ∈ lw_gd := gd_c2 (i := 68) rfl rfl
theorem se_yX8_school : Cond.selects RX8 yX8_school yX8_school ∈ lw_gd := gd_c2 (i := 69) rfl rfl
theorem co_yX8_school : Cond.code yX8_school cX8_school 2 (some FieldType.int) ∈ lw_gd := gd_c2 (i := 70) rfl rfl
theorem ml_X8_73 : Cond.methodLink RX8 73 yX5_readTape ∈ lw_gd := gd_c2 (i := 71) rfl rfl
theorem im_yX5_readTape : Cond.instanceMethod yX5_readTape ∈ lw_gd := gd_c2 (i := 72) rfl rfl
theorem se_yX5_readTape : Cond.selects RX5 yX5_readTape yX5_readTape ∈ lw_gd := gd_c2 (i := 73) rfl rfl
theorem co_yX5_readTape : Cond.code yX5_readTape cX5_readTape 3 (some FieldType.int) ∈ lw_gd := gd_c2 (i := 74) rfl rfl
theorem ml_X5_35 : Cond.methodLink RX5 35 yX2_becomeEmptyAfter ∈ lw_gd := gd_c2 (i := 75) rfl rfl
theorem im_yX2_becomeEmptyAfter : Cond.instanceMethod yX2_becomeEmptyAfter ∈ lw_gd := gd_c2 (i := 76) rfl rfl
theorem se_yX2_becomeEmptyAfter : Cond.selects RX2 yX2_becomeEmptyAfter yX2_becomeEmptyAfter ∈ lw_gd := gd_c2 (i := 77) rfl rfl
theorem co_yX2_becomeEmptyAfter : Cond.code yX2_becomeEmptyAfter cX2_becomeEmptyAfter 3 (none : Option FieldType) ∈ lw_gd := gd_c2 (i := 78) rfl rfl
theorem ml_X5_39 : Cond.methodLink RX5 39 yX5_skipBlanks ∈ lw_gd := gd_c2 (i := 79) rfl rfl
theorem im_yX5_skipBlanks : Cond.instanceMethod yX5_skipBlanks ∈ lw_gd := gd_c2 (i := 81) rfl rfl
theorem co_yX5_skipBlanks : Cond.code yX5_skipBlanks cX5_skipBlanks 1 (none : Option FieldType) ∈ lw_gd := gd_c2 (i := 82) rfl rfl
theorem ml_X5_42 : Cond.methodLink RX5 42 yX5_readItem ∈ lw_gd := gd_c2 (i := 83) rfl rfl
theorem im_yX5_readItem : Cond.instanceMethod yX5_readItem ∈ lw_gd := gd_c2 (i := 85) rfl rfl
theorem co_yX5_readItem : Cond.code yX5_readItem cX5_readItem 2 (none : Option FieldType) ∈ lw_gd := gd_c2 (i := 86) rfl rfl
theorem ml_X5_45 : Cond.methodLink RX5 45 yX5_nextWord ∈ lw_gd := gd_c2 (i := 87) rfl rfl
theorem im_yX5_nextWord : Cond.instanceMethod yX5_nextWord ∈ lw_gd := gd_c2 (i := 89) rfl rfl
theorem co_yX5_nextWord : Cond.code yX5_nextWord cX5_nextWord 2 (some FieldType.int) ∈ lw_gd := gd_c2 (i := 90) rfl rfl
theorem ml_X5_92 : Cond.methodLink RX5 92 yX5_isLetter ∈ lw_gd := gd_c2 (i := 91) rfl rfl
theorem sm_yX5_isLetter : Cond.static yX5_isLetter ∈ lw_gd := gd_c2 (i := 92) rfl rfl
theorem co_yX5_isLetter : Cond.code yX5_isLetter cX5_isLetter 1 (some FieldType.boolean) ∈ lw_gd := gd_c2 (i := 93) rfl rfl
theorem ml_X5_100 : Cond.methodLink RX5 100 yX5_nameOf ∈ lw_gd := gd_c2 (i := 94) rfl rfl
theorem sm_yX5_nameOf : Cond.static yX5_nameOf ∈ lw_gd := gd_c2 (i := 95) rfl rfl
theorem co_yX5_nameOf : Cond.code yX5_nameOf cX5_nameOf 1 (some (FieldType.object "java/lang/String")) ∈ lw_gd := gd_c2 (i := 96) rfl rfl
theorem sr_X5_117 : Cond.stringRef RX5 117 "child" ∈ lw_tbl := tb_c2 (List.mem_of_getElem? (i := 97) rfl)
theorem sr_X5_119 : Cond.stringRef RX5 119 "kept" ∈ lw_tbl := tb_c2 (List.mem_of_getElem? (i := 98) rfl)
theorem sr_X5_121 : Cond.stringRef RX5 121 "ill" ∈ lw_tbl := tb_c2 (List.mem_of_getElem? (i := 99) rfl)
theorem sr_X5_123 : Cond.stringRef RX5 123 "truant" ∈ lw_tbl := tb_c2 (List.mem_of_getElem? (i := 100) rfl)
theorem sr_X5_125 : Cond.stringRef RX5 125 "barefoot" ∈ lw_tbl := tb_c2 (List.mem_of_getElem? (i := 101) rfl)
theorem sr_X5_127 : Cond.stringRef RX5 127 "catching" ∈ lw_tbl := tb_c2 (List.mem_of_getElem? (i := 102) rfl)
theorem sr_X5_129 : Cond.stringRef RX5 129 "in" ∈ lw_tbl := tb_c2 (List.mem_of_getElem? (i := 103) rfl)
theorem sr_X5_131 : Cond.stringRef RX5 131 "far" ∈ lw_tbl := tb_c2 (List.mem_of_getElem? (i := 104) rfl)
theorem sr_X5_133 : Cond.stringRef RX5 133 "day" ∈ lw_tbl := tb_c2 (List.mem_of_getElem? (i := 105) rfl)
theorem sr_X5_135 : Cond.stringRef RX5 135 "sick" ∈ lw_tbl := tb_c2 (List.mem_of_getElem? (i := 106) rfl)
theorem sr_X5_136 : Cond.stringRef RX5 136 "today" ∈ lw_tbl := tb_c2 (List.mem_of_getElem? (i := 107) rfl)
theorem sr_X5_137 : Cond.stringRef RX5 137 "strong" ∈ lw_tbl := tb_c2 (List.mem_of_getElem? (i := 108) rfl)
theorem sr_X5_139 : Cond.stringRef RX5 139 "lost" ∈ lw_tbl := tb_c2 (List.mem_of_getElem? (i := 109) rfl)
theorem ml_X5_104 : Cond.methodLink RX5 104 yX5_isMarked ∈ lw_gd := gd_c2 (i := 110) rfl rfl
theorem im_yX5_isMarked : Cond.instanceMethod yX5_isMarked ∈ lw_gd := gd_c2 (i := 112) rfl rfl
theorem co_yX5_isMarked : Cond.code yX5_isMarked cX5_isMarked 4 (some FieldType.boolean) ∈ lw_gd := gd_c2 (i := 113) rfl rfl
theorem ml_X5_108 : Cond.methodLink RX5 108 yJ0_length_8abf5 ∈ lw_gd := gd_c2 (i := 114) rfl rfl
theorem im_yJ0_length_8abf5 : Cond.instanceMethod yJ0_length_8abf5 ∈ lw_gd := gd_c2 (i := 115) rfl rfl
theorem se_yJ0_length_8abf5 : Cond.selects RJ0 yJ0_length_8abf5 yJ0_length_8abf5 ∈ lw_gd := gd_c2 (i := 116) rfl rfl
theorem co_yJ0_length_8abf5 : Cond.code yJ0_length_8abf5 cJ0_length_8abf5 1 (some FieldType.int) ∈ lw_gd := gd_c2 (i := 117) rfl rfl
theorem ml_J0_335 : Cond.methodLink RJ0 335 yJ0_coder_7d493 ∈ lw_gd := gd_c2 (i := 118) rfl rfl
theorem im_yJ0_coder_7d493 : Cond.instanceMethod yJ0_coder_7d493 ∈ lw_gd := gd_c2 (i := 119) rfl rfl
theorem se_yJ0_coder_7d493 : Cond.selects RJ0 yJ0_coder_7d493 yJ0_coder_7d493 ∈ lw_gd := gd_c2 (i := 120) rfl rfl
theorem co_yJ0_coder_7d493 : Cond.code yJ0_coder_7d493 cJ0_coder_7d493 1 (some FieldType.byte) ∈ lw_gd := gd_c2 (i := 121) rfl rfl
theorem fl_J0_38 : Cond.fieldLink RJ0 38 "java/lang/String" "COMPACT_STRINGS" "Z" ∈ lw_gd := gd_c2 (i := 122) rfl rfl
theorem ml_X5_113 : Cond.methodLink RX5 113 yJ0_charAt_5068e ∈ lw_gd := gd_c2 (i := 124) rfl rfl
theorem im_yJ0_charAt_5068e : Cond.instanceMethod yJ0_charAt_5068e ∈ lw_gd := gd_c2 (i := 125) rfl rfl
theorem se_yJ0_charAt_5068e : Cond.selects RJ0 yJ0_charAt_5068e yJ0_charAt_5068e ∈ lw_gd := gd_c2 (i := 126) rfl rfl
theorem co_yJ0_charAt_5068e : Cond.code yJ0_charAt_5068e cJ0_charAt_5068e 2 (some FieldType.char) ∈ lw_gd := gd_c2 (i := 127) rfl rfl
theorem ml_J0_492 : Cond.methodLink RJ0 492 yJ0_isLatin1_aae02 ∈ lw_gd := gd_c2 (i := 128) rfl rfl
theorem im_yJ0_isLatin1_aae02 : Cond.instanceMethod yJ0_isLatin1_aae02 ∈ lw_gd := gd_c2 (i := 129) rfl rfl
theorem se_yJ0_isLatin1_aae02 : Cond.selects RJ0 yJ0_isLatin1_aae02 yJ0_isLatin1_aae02 ∈ lw_gd := gd_c2 (i := 130) rfl rfl
theorem co_yJ0_isLatin1_aae02 : Cond.code yJ0_isLatin1_aae02 cJ0_isLatin1_aae02 1 (some FieldType.boolean) ∈ lw_gd := gd_c2 (i := 131) rfl rfl
theorem ml_J0_495 : Cond.methodLink RJ0 495 yJ1_charAt_3b067 ∈ lw_gd := gd_c2 (i := 132) rfl rfl
theorem sm_yJ1_charAt_3b067 : Cond.static yJ1_charAt_3b067 ∈ lw_gd := gd_c2 (i := 133) rfl rfl
theorem co_yJ1_charAt_3b067 : Cond.code yJ1_charAt_3b067 cJ1_charAt_3b067 2 (some FieldType.char) ∈ lw_gd := gd_c2 (i := 134) rfl rfl
theorem ml_J1_9 : Cond.methodLink RJ1 9 yJ0_checkIndex_df160 ∈ lw_gd := gd_c2 (i := 135) rfl rfl
theorem sm_yJ0_checkIndex_df160 : Cond.static yJ0_checkIndex_df160 ∈ lw_gd := gd_c2 (i := 136) rfl rfl
theorem co_yJ0_checkIndex_df160 : Cond.code yJ0_checkIndex_df160 cJ0_checkIndex_df160 2 (none : Option FieldType) ∈ lw_gd := gd_c2 (i := 137) rfl rfl
theorem fl_J0_1053 : Cond.fieldLink RJ0 1053 "jdk/internal/util/Preconditions" "SIOOBE_FORMATTER" "Ljava/util/function/BiFunction;" ∈ lw_gd := gd_c2 (i := 138) rfl rfl
theorem ml_J0_1059 : Cond.methodLink RJ0 1059 yJ3_checkIndex_8e157 ∈ lw_gd := gd_c2 (i := 140) rfl rfl
theorem sm_yJ3_checkIndex_8e157 : Cond.static yJ3_checkIndex_8e157 ∈ lw_gd := gd_c2 (i := 141) rfl rfl
theorem co_yJ3_checkIndex_8e157 : Cond.code yJ3_checkIndex_8e157 cJ3_checkIndex_8e157 3 (some FieldType.int) ∈ lw_gd := gd_c2 (i := 142) rfl rfl
theorem ml_J0_498 : Cond.methodLink RJ0 498 yJ2_charAt_3b067 ∈ lw_gd := gd_c2 (i := 143) rfl rfl
theorem sm_yJ2_charAt_3b067 : Cond.static yJ2_charAt_3b067 ∈ lw_gd := gd_c2 (i := 144) rfl rfl
theorem co_yJ2_charAt_3b067 : Cond.code yJ2_charAt_3b067 cJ2_charAt_3b067 2 (some FieldType.char) ∈ lw_gd := gd_c2 (i := 145) rfl rfl
theorem ml_J2_67 : Cond.methodLink RJ2 67 yJ2_checkIndex_2214a ∈ lw_gd := gd_c2 (i := 146) rfl rfl
theorem sm_yJ2_checkIndex_2214a : Cond.static yJ2_checkIndex_2214a ∈ lw_gd := gd_c2 (i := 147) rfl rfl
theorem co_yJ2_checkIndex_2214a : Cond.code yJ2_checkIndex_2214a cJ2_checkIndex_2214a 2 (none : Option FieldType) ∈ lw_gd := gd_c2 (i := 148) rfl rfl
theorem ml_J2_48 : Cond.methodLink RJ2 48 yJ2_length_9d52b ∈ lw_gd := gd_c2 (i := 149) rfl rfl
theorem sm_yJ2_length_9d52b : Cond.static yJ2_length_9d52b ∈ lw_gd := gd_c2 (i := 150) rfl rfl
theorem co_yJ2_length_9d52b : Cond.code yJ2_length_9d52b cJ2_length_9d52b 1 (some FieldType.int) ∈ lw_gd := gd_c2 (i := 151) rfl rfl
theorem ml_J2_414 : Cond.methodLink RJ2 414 yJ0_checkIndex_df160 ∈ lw_gd := gd_c2 (i := 152) rfl rfl
theorem ml_J2_71 : Cond.methodLink RJ2 71 yJ2_getChar_3b067 ∈ lw_gd := gd_c2 (i := 153) rfl rfl
theorem sm_yJ2_getChar_3b067 : Cond.static yJ2_getChar_3b067 ∈ lw_gd := gd_c2 (i := 154) rfl rfl
theorem co_yJ2_getChar_3b067 : Cond.code yJ2_getChar_3b067 cJ2_getChar_3b067 2 (some FieldType.char) ∈ lw_gd := gd_c2 (i := 155) rfl rfl
theorem fl_J2_44 : Cond.fieldLink RJ2 44 "java/lang/StringUTF16" "$assertionsDisabled" "Z" ∈ lw_gd := gd_c2 (i := 156) rfl rfl
theorem fl_J2_59 : Cond.fieldLink RJ2 59 "java/lang/StringUTF16" "HI_BYTE_SHIFT" "I" ∈ lw_gd := gd_c2 (i := 158) rfl rfl
theorem fl_J2_63 : Cond.fieldLink RJ2 63 "java/lang/StringUTF16" "LO_BYTE_SHIFT" "I" ∈ lw_gd := gd_c2 (i := 160) rfl rfl
theorem ml_X5_49 : Cond.methodLink RX5 49 yX5_readDay ∈ lw_gd := gd_c2 (i := 162) rfl rfl
theorem im_yX5_readDay : Cond.instanceMethod yX5_readDay ∈ lw_gd := gd_c2 (i := 164) rfl rfl
theorem co_yX5_readDay : Cond.code yX5_readDay cX5_readDay 3 (none : Option FieldType) ∈ lw_gd := gd_c2 (i := 165) rfl rfl
theorem ml_X5_55 : Cond.methodLink RX5 55 yX5_nextNumber ∈ lw_gd := gd_c2 (i := 166) rfl rfl
theorem im_yX5_nextNumber : Cond.instanceMethod yX5_nextNumber ∈ lw_gd := gd_c2 (i := 168) rfl rfl
theorem co_yX5_nextNumber : Cond.code yX5_nextNumber cX5_nextNumber 4 (some FieldType.int) ∈ lw_gd := gd_c2 (i := 169) rfl rfl
theorem ml_X5_76 : Cond.methodLink RX5 76 yX5_failAt ∈ lw_gd := gd_c2 (i := 170) rfl rfl
theorem im_yX5_failAt : Cond.instanceMethod yX5_failAt ∈ lw_gd := gd_c2 (i := 172) rfl rfl
theorem co_yX5_failAt : Cond.code yX5_failAt cX5_failAt 2 (none : Option FieldType) ∈ lw_gd := gd_c2 (i := 173) rfl rfl
theorem ml_X5_52 : Cond.methodLink RX5 52 yX5_readSick ∈ lw_gd := gd_c2 (i := 174) rfl rfl
theorem im_yX5_readSick : Cond.instanceMethod yX5_readSick ∈ lw_gd := gd_c2 (i := 176) rfl rfl
theorem co_yX5_readSick : Cond.code yX5_readSick cX5_readSick 3 (none : Option FieldType) ∈ lw_gd := gd_c2 (i := 177) rfl rfl
theorem ml_X5_72 : Cond.methodLink RX5 72 yX5_readChild ∈ lw_gd := gd_c2 (i := 182) rfl rfl
theorem im_yX5_readChild : Cond.instanceMethod yX5_readChild ∈ lw_gd := gd_c2 (i := 184) rfl rfl
theorem co_yX5_readChild : Cond.code yX5_readChild cX5_readChild 5 (none : Option FieldType) ∈ lw_gd := gd_c2 (i := 185) rfl rfl
theorem sm_yX8_isKind : Cond.static yX8_isKind ∈ lw_gd := gd_c2 (i := 187) rfl rfl
theorem co_yX8_isKind : Cond.code yX8_isKind cX8_isKind 1 (some FieldType.boolean) ∈ lw_gd := gd_c2 (i := 188) rfl rfl
theorem ml_X5_96 : Cond.methodLink RX5 96 yX2_addChild ∈ lw_gd := gd_c2 (i := 189) rfl rfl
theorem im_yX2_addChild : Cond.instanceMethod yX2_addChild ∈ lw_gd := gd_c2 (i := 190) rfl rfl
theorem se_yX2_addChild : Cond.selects RX2 yX2_addChild yX2_addChild ∈ lw_gd := gd_c2 (i := 191) rfl rfl
theorem co_yX2_addChild : Cond.code yX2_addChild cX2_addChild 5 (some FieldType.boolean) ∈ lw_gd := gd_c2 (i := 192) rfl rfl
theorem ml_X8_80 : Cond.methodLink RX8 80 yX2_copyFrom ∈ lw_gd := gd_c2 (i := 193) rfl rfl
theorem im_yX2_copyFrom : Cond.instanceMethod yX2_copyFrom ∈ lw_gd := gd_c2 (i := 194) rfl rfl
theorem se_yX2_copyFrom : Cond.selects RX2 yX2_copyFrom yX2_copyFrom ∈ lw_gd := gd_c2 (i := 195) rfl rfl
theorem co_yX2_copyFrom : Cond.code yX2_copyFrom cX2_copyFrom 2 (none : Option FieldType) ∈ lw_gd := gd_c2 (i := 196) rfl rfl
theorem ml_L_25 : Cond.methodLink RL 25 yX8_child ∈ lw_gd := gd_c2 (i := 197) rfl rfl
theorem im_yX8_child : Cond.instanceMethod yX8_child ∈ lw_gd := gd_c2 (i := 198) rfl rfl
theorem se_yX8_child : Cond.selects RX8 yX8_child yX8_child ∈ lw_gd := gd_c2 (i := 199) rfl rfl
theorem co_yX8_child : Cond.code yX8_child cX8_child 5 (some FieldType.int) ∈ lw_gd := gd_c2 (i := 200) rfl rfl
theorem ml_X8_88 : Cond.methodLink RX8 88 yX8_isKind ∈ lw_gd := gd_c2 (i := 201) rfl rfl
theorem ml_X8_92 : Cond.methodLink RX8 92 yX8_isA ∈ lw_gd := gd_c2 (i := 202) rfl rfl
theorem sm_yX8_isA : Cond.static yX8_isA ∈ lw_gd := gd_c2 (i := 203) rfl rfl
theorem co_yX8_isA : Cond.code yX8_isA cX8_isA 1 (some FieldType.boolean) ∈ lw_gd := gd_c2 (i := 204) rfl rfl
theorem ml_X8_95 : Cond.methodLink RX8 95 yX8_isHouse ∈ lw_gd := gd_c2 (i := 205) rfl rfl
theorem sm_yX8_isHouse : Cond.static yX8_isHouse ∈ lw_gd := gd_c2 (i := 206) rfl rfl
theorem co_yX8_isHouse : Cond.code yX8_isHouse cX8_isHouse 1 (some FieldType.boolean) ∈ lw_gd := gd_c2 (i := 207) rfl rfl
theorem ml_X8_98 : Cond.methodLink RX8 98 yX2_addChild ∈ lw_gd := gd_c2 (i := 208) rfl rfl
theorem ml_L_30 : Cond.methodLink RL 30 yX8_childOf ∈ lw_gd := gd_c2 (i := 209) rfl rfl
theorem im_yX8_childOf : Cond.instanceMethod yX8_childOf ∈ lw_gd := gd_c2 (i := 210) rfl rfl
theorem se_yX8_childOf : Cond.selects RX8 yX8_childOf yX8_childOf ∈ lw_gd := gd_c2 (i := 211) rfl rfl
theorem co_yX8_childOf : Cond.code yX8_childOf cX8_childOf 3 (some FieldType.int) ∈ lw_gd := gd_c2 (i := 212) rfl rfl
theorem ml_X8_102 : Cond.methodLink RX8 102 yX2_hasChild ∈ lw_gd := gd_c2 (i := 213) rfl rfl
theorem im_yX2_hasChild : Cond.instanceMethod yX2_hasChild ∈ lw_gd := gd_c2 (i := 214) rfl rfl
theorem se_yX2_hasChild : Cond.selects RX2 yX2_hasChild yX2_hasChild ∈ lw_gd := gd_c2 (i := 215) rfl rfl
theorem co_yX2_hasChild : Cond.code yX2_hasChild cX2_hasChild 2 (some FieldType.boolean) ∈ lw_gd := gd_c2 (i := 216) rfl rfl
theorem ml_X8_105 : Cond.methodLink RX8 105 yX2_featureOf ∈ lw_gd := gd_c2 (i := 217) rfl rfl
theorem im_yX2_featureOf : Cond.instanceMethod yX2_featureOf ∈ lw_gd := gd_c2 (i := 218) rfl rfl
theorem se_yX2_featureOf : Cond.selects RX2 yX2_featureOf yX2_featureOf ∈ lw_gd := gd_c2 (i := 219) rfl rfl
theorem co_yX2_featureOf : Cond.code yX2_featureOf cX2_featureOf 3 (some FieldType.int) ∈ lw_gd := gd_c2 (i := 220) rfl rfl
theorem ml_L_35 : Cond.methodLink RL 35 yX8_mind ∈ lw_gd := gd_c2 (i := 221) rfl rfl
theorem im_yX8_mind : Cond.instanceMethod yX8_mind ∈ lw_gd := gd_c2 (i := 222) rfl rfl
theorem se_yX8_mind : Cond.selects RX8 yX8_mind yX8_mind ∈ lw_gd := gd_c2 (i := 223) rfl rfl
theorem co_yX8_mind : Cond.code yX8_mind cX8_mind 5 (some FieldType.int) ∈ lw_gd := gd_c2 (i := 224) rfl rfl
theorem ml_L_40 : Cond.methodLink RL 40 yX8_sick ∈ lw_gd := gd_c2 (i := 225) rfl rfl
theorem im_yX8_sick : Cond.instanceMethod yX8_sick ∈ lw_gd := gd_c2 (i := 226) rfl rfl
theorem se_yX8_sick : Cond.selects RX8 yX8_sick yX8_sick ∈ lw_gd := gd_c2 (i := 227) rfl rfl
theorem co_yX8_sick : Cond.code yX8_sick cX8_sick 4 (some FieldType.int) ∈ lw_gd := gd_c2 (i := 228) rfl rfl
theorem ml_L_44 : Cond.methodLink RL 44 yX8_event ∈ lw_gd := gd_c2 (i := 229) rfl rfl
theorem im_yX8_event : Cond.instanceMethod yX8_event ∈ lw_gd := gd_c2 (i := 230) rfl rfl
theorem se_yX8_event : Cond.selects RX8 yX8_event yX8_event ∈ lw_gd := gd_c2 (i := 231) rfl rfl
theorem co_yX8_event : Cond.code yX8_event cX8_event 4 (some FieldType.int) ∈ lw_gd := gd_c2 (i := 232) rfl rfl
theorem ml_X8_119 : Cond.methodLink RX8 119 yX8_isDay ∈ lw_gd := gd_c2 (i := 233) rfl rfl
theorem sm_yX8_isDay : Cond.static yX8_isDay ∈ lw_gd := gd_c2 (i := 234) rfl rfl
theorem co_yX8_isDay : Cond.code yX8_isDay cX8_isDay 1 (some FieldType.boolean) ∈ lw_gd := gd_c2 (i := 235) rfl rfl
theorem ml_L_48 : Cond.methodLink RL 48 yX8_dayOf ∈ lw_gd := gd_c2 (i := 236) rfl rfl
theorem im_yX8_dayOf : Cond.instanceMethod yX8_dayOf ∈ lw_gd := gd_c2 (i := 237) rfl rfl
theorem se_yX8_dayOf : Cond.selects RX8 yX8_dayOf yX8_dayOf ∈ lw_gd := gd_c2 (i := 238) rfl rfl
theorem co_yX8_dayOf : Cond.code yX8_dayOf cX8_dayOf 3 (some FieldType.int) ∈ lw_gd := gd_c2 (i := 239) rfl rfl
theorem ml_L_52 : Cond.methodLink RL 52 yX8_set ∈ lw_gd := gd_c3 (i := 0) rfl rfl
theorem im_yX8_set : Cond.instanceMethod yX8_set ∈ lw_gd := gd_c3 (i := 1) rfl rfl
theorem se_yX8_set : Cond.selects RX8 yX8_set yX8_set ∈ lw_gd := gd_c3 (i := 2) rfl rfl
theorem co_yX8_set : Cond.code yX8_set cX8_set 4 (some FieldType.int) ∈ lw_gd := gd_c3 (i := 3) rfl rfl
theorem fl_X8_131 : Cond.fieldLink RX8 131 "CrossBook" "LOWEST_LAWS" "[I" ∈ lw_gd := gd_c3 (i := 4) rfl rfl
theorem fl_X8_134 : Cond.fieldLink RX8 134 "CrossBook" "HIGHEST_LAWS" "[I" ∈ lw_gd := gd_c3 (i := 5) rfl rfl
theorem ml_L_56 : Cond.methodLink RL 56 yX8_today ∈ lw_gd := gd_c3 (i := 6) rfl rfl
theorem im_yX8_today : Cond.instanceMethod yX8_today ∈ lw_gd := gd_c3 (i := 7) rfl rfl
theorem se_yX8_today : Cond.selects RX8 yX8_today yX8_today ∈ lw_gd := gd_c3 (i := 8) rfl rfl
theorem co_yX8_today : Cond.code yX8_today cX8_today 1 (some FieldType.int) ∈ lw_gd := gd_c3 (i := 9) rfl rfl
theorem ml_L_60 : Cond.methodLink RL 60 yX8_would ∈ lw_gd := gd_c3 (i := 10) rfl rfl
theorem im_yX8_would : Cond.instanceMethod yX8_would ∈ lw_gd := gd_c3 (i := 11) rfl rfl
theorem se_yX8_would : Cond.selects RX8 yX8_would yX8_would ∈ lw_gd := gd_c3 (i := 12) rfl rfl
theorem co_yX8_would : Cond.code yX8_would cX8_would 2 (some FieldType.int) ∈ lw_gd := gd_c3 (i := 13) rfl rfl
theorem ml_X8_143 : Cond.methodLink RX8 143 yX2_isOver ∈ lw_gd := gd_c3 (i := 14) rfl rfl
theorem im_yX2_isOver : Cond.instanceMethod yX2_isOver ∈ lw_gd := gd_c3 (i := 15) rfl rfl
theorem se_yX2_isOver : Cond.selects RX2 yX2_isOver yX2_isOver ∈ lw_gd := gd_c3 (i := 16) rfl rfl
theorem co_yX2_isOver : Cond.code yX2_isOver cX2_isOver 1 (some FieldType.boolean) ∈ lw_gd := gd_c3 (i := 17) rfl rfl
theorem ml_X8_147 : Cond.methodLink RX8 147 yX2_isAway ∈ lw_gd := gd_c3 (i := 18) rfl rfl
theorem im_yX2_isAway : Cond.instanceMethod yX2_isAway ∈ lw_gd := gd_c3 (i := 19) rfl rfl
theorem se_yX2_isAway : Cond.selects RX2 yX2_isAway yX2_isAway ∈ lw_gd := gd_c3 (i := 20) rfl rfl
theorem co_yX2_isAway : Cond.code yX2_isAway cX2_isAway 2 (some FieldType.boolean) ∈ lw_gd := gd_c3 (i := 21) rfl rfl
theorem ml_X2_71 : Cond.methodLink RX2 71 yX2_isOver ∈ lw_gd := gd_c3 (i := 22) rfl rfl
theorem ml_X2_95 : Cond.methodLink RX2 95 yX0_isSo ∈ lw_gd := gd_c3 (i := 23) rfl rfl
theorem im_yX0_isSo : Cond.instanceMethod yX0_isSo ∈ lw_gd := gd_c3 (i := 24) rfl rfl
theorem se_yX0_isSo : Cond.selects RX0 yX0_isSo yX0_isSo ∈ lw_gd := gd_c3 (i := 25) rfl rfl
theorem co_yX0_isSo : Cond.code yX0_isSo cX0_isSo 5 (some FieldType.boolean) ∈ lw_gd := gd_c3 (i := 26) rfl rfl
theorem ml_L_65 : Cond.methodLink RL 65 yX8_days ∈ lw_gd := gd_c3 (i := 27) rfl rfl
theorem im_yX8_days : Cond.instanceMethod yX8_days ∈ lw_gd := gd_c3 (i := 28) rfl rfl
theorem se_yX8_days : Cond.selects RX8 yX8_days yX8_days ∈ lw_gd := gd_c3 (i := 29) rfl rfl
theorem co_yX8_days : Cond.code yX8_days cX8_days 3 (some FieldType.int) ∈ lw_gd := gd_c3 (i := 30) rfl rfl
theorem ml_X8_150 : Cond.methodLink RX8 150 yX2_goOneDay ∈ lw_gd := gd_c3 (i := 31) rfl rfl
theorem im_yX2_goOneDay : Cond.instanceMethod yX2_goOneDay ∈ lw_gd := gd_c3 (i := 32) rfl rfl
theorem se_yX2_goOneDay : Cond.selects RX2 yX2_goOneDay yX2_goOneDay ∈ lw_gd := gd_c3 (i := 33) rfl rfl
theorem co_yX2_goOneDay : Cond.code yX2_goOneDay cX2_goOneDay 4 (some FieldType.int) ∈ lw_gd := gd_c3 (i := 34) rfl rfl
theorem ml_X2_102 : Cond.methodLink RX2 102 yX2_thereToday ∈ lw_gd := gd_c3 (i := 35) rfl rfl
theorem im_yX2_thereToday : Cond.instanceMethod yX2_thereToday ∈ lw_gd := gd_c3 (i := 36) rfl rfl
theorem se_yX2_thereToday : Cond.selects RX2 yX2_thereToday yX2_thereToday ∈ lw_gd := gd_c3 (i := 37) rfl rfl
theorem co_yX2_thereToday : Cond.code yX2_thereToday cX2_thereToday 3 (some FieldType.int) ∈ lw_gd := gd_c3 (i := 38) rfl rfl
theorem ml_X2_98 : Cond.methodLink RX2 98 yX2_isAway ∈ lw_gd := gd_c3 (i := 39) rfl rfl
theorem ml_X2_106 : Cond.methodLink RX2 106 yX2_sickNow ∈ lw_gd := gd_c3 (i := 40) rfl rfl
theorem im_yX2_sickNow : Cond.instanceMethod yX2_sickNow ∈ lw_gd := gd_c3 (i := 41) rfl rfl
theorem se_yX2_sickNow : Cond.selects RX2 yX2_sickNow yX2_sickNow ∈ lw_gd := gd_c3 (i := 42) rfl rfl
theorem co_yX2_sickNow : Cond.code yX2_sickNow cX2_sickNow 3 (some FieldType.int) ∈ lw_gd := gd_c3 (i := 43) rfl rfl
theorem ml_X2_109 : Cond.methodLink RX2 109 yJ9_max_7cf53 ∈ lw_gd := gd_c3 (i := 44) rfl rfl
theorem sm_yJ9_max_7cf53 : Cond.static yJ9_max_7cf53 ∈ lw_gd := gd_c3 (i := 45) rfl rfl
theorem co_yJ9_max_7cf53 : Cond.code yJ9_max_7cf53 cJ9_max_7cf53 2 (some FieldType.int) ∈ lw_gd := gd_c3 (i := 46) rfl rfl
theorem ml_X2_115 : Cond.methodLink RX2 115 yX2_spreadFrom ∈ lw_gd := gd_c3 (i := 47) rfl rfl
theorem im_yX2_spreadFrom : Cond.instanceMethod yX2_spreadFrom ∈ lw_gd := gd_c3 (i := 49) rfl rfl
theorem co_yX2_spreadFrom : Cond.code yX2_spreadFrom cX2_spreadFrom 3 (none : Option FieldType) ∈ lw_gd := gd_c3 (i := 50) rfl rfl
theorem ml_X2_119 : Cond.methodLink RX2 119 yX2_isTouched ∈ lw_gd := gd_c3 (i := 51) rfl rfl
theorem im_yX2_isTouched : Cond.instanceMethod yX2_isTouched ∈ lw_gd := gd_c3 (i := 53) rfl rfl
theorem co_yX2_isTouched : Cond.code yX2_isTouched cX2_isTouched 6 (some FieldType.boolean) ∈ lw_gd := gd_c3 (i := 54) rfl rfl
theorem ml_L_69 : Cond.methodLink RL 69 yX8_knock ∈ lw_gd := gd_c3 (i := 55) rfl rfl
theorem im_yX8_knock : Cond.instanceMethod yX8_knock ∈ lw_gd := gd_c3 (i := 56) rfl rfl
theorem se_yX8_knock : Cond.selects RX8 yX8_knock yX8_knock ∈ lw_gd := gd_c3 (i := 57) rfl rfl
theorem co_yX8_knock : Cond.code yX8_knock cX8_knock 2 (some FieldType.int) ∈ lw_gd := gd_c3 (i := 58) rfl rfl
theorem ml_X8_154 : Cond.methodLink RX8 154 yX2_knockAt ∈ lw_gd := gd_c3 (i := 59) rfl rfl
theorem im_yX2_knockAt : Cond.instanceMethod yX2_knockAt ∈ lw_gd := gd_c3 (i := 60) rfl rfl
theorem se_yX2_knockAt : Cond.selects RX2 yX2_knockAt yX2_knockAt ∈ lw_gd := gd_c3 (i := 61) rfl rfl
theorem co_yX2_knockAt : Cond.code yX2_knockAt cX2_knockAt 4 (some FieldType.int) ∈ lw_gd := gd_c3 (i := 62) rfl rfl
theorem ml_L_73 : Cond.methodLink RL 73 yX8_write ∈ lw_gd := gd_c3 (i := 63) rfl rfl
theorem im_yX8_write : Cond.instanceMethod yX8_write ∈ lw_gd := gd_c3 (i := 64) rfl rfl
theorem se_yX8_write : Cond.selects RX8 yX8_write yX8_write ∈ lw_gd := gd_c3 (i := 65) rfl rfl
theorem co_yX8_write : Cond.code yX8_write cX8_write 6 (some FieldType.int) ∈ lw_gd := gd_c3 (i := 66) rfl rfl
theorem ml_L_78 : Cond.methodLink RL 78 yX8_marks ∈ lw_gd := gd_c3 (i := 67) rfl rfl
theorem im_yX8_marks : Cond.instanceMethod yX8_marks ∈ lw_gd := gd_c3 (i := 68) rfl rfl
theorem se_yX8_marks : Cond.selects RX8 yX8_marks yX8_marks ∈ lw_gd := gd_c3 (i := 69) rfl rfl
theorem co_yX8_marks : Cond.code yX8_marks cX8_marks 4 (some FieldType.int) ∈ lw_gd := gd_c3 (i := 70) rfl rfl
theorem ml_X8_158 : Cond.methodLink RX8 158 yX2_hasCross ∈ lw_gd := gd_c3 (i := 71) rfl rfl
theorem im_yX2_hasCross : Cond.instanceMethod yX2_hasCross ∈ lw_gd := gd_c3 (i := 72) rfl rfl
theorem se_yX2_hasCross : Cond.selects RX2 yX2_hasCross yX2_hasCross ∈ lw_gd := gd_c3 (i := 73) rfl rfl
theorem co_yX2_hasCross : Cond.code yX2_hasCross cX2_hasCross 3 (some FieldType.boolean) ∈ lw_gd := gd_c3 (i := 74) rfl rfl
theorem ml_L_82 : Cond.methodLink RL 82 yX8_wrong ∈ lw_gd := gd_c3 (i := 75) rfl rfl
theorem im_yX8_wrong : Cond.instanceMethod yX8_wrong ∈ lw_gd := gd_c3 (i := 76) rfl rfl
theorem se_yX8_wrong : Cond.selects RX8 yX8_wrong yX8_wrong ∈ lw_gd := gd_c3 (i := 77) rfl rfl
theorem co_yX8_wrong : Cond.code yX8_wrong cX8_wrong 2 (some FieldType.int) ∈ lw_gd := gd_c3 (i := 78) rfl rfl
theorem ml_X8_162 : Cond.methodLink RX8 162 yX2_falseCrosses ∈ lw_gd := gd_c3 (i := 79) rfl rfl
theorem im_yX2_falseCrosses : Cond.instanceMethod yX2_falseCrosses ∈ lw_gd := gd_c3 (i := 80) rfl rfl
theorem se_yX2_falseCrosses : Cond.selects RX2 yX2_falseCrosses yX2_falseCrosses ∈ lw_gd := gd_c3 (i := 81) rfl rfl
theorem co_yX2_falseCrosses : Cond.code yX2_falseCrosses cX2_falseCrosses 3 (some FieldType.int) ∈ lw_gd := gd_c3 (i := 82) rfl rfl
theorem ml_X2_123 : Cond.methodLink RX2 123 yJ6_bitCount_0f7a4 ∈ lw_gd := gd_c3 (i := 83) rfl rfl
theorem sm_yJ6_bitCount_0f7a4 : Cond.static yJ6_bitCount_0f7a4 ∈ lw_gd := gd_c3 (i := 84) rfl rfl
theorem co_yJ6_bitCount_0f7a4 : Cond.code yJ6_bitCount_0f7a4 cJ6_bitCount_0f7a4 1 (some FieldType.int) ∈ lw_gd := gd_c3 (i := 85) rfl rfl
theorem cn_J6_265 : Cond.constant RJ6 265 (1431655765 : Int32) ∈ lw_gd := gd_c3 (i := 86) rfl rfl
theorem cn_J6_266 : Cond.constant RJ6 266 (858993459 : Int32) ∈ lw_gd := gd_c3 (i := 87) rfl rfl
theorem cn_J6_267 : Cond.constant RJ6 267 (252645135 : Int32) ∈ lw_gd := gd_c3 (i := 88) rfl rfl
theorem ml_X8_165 : Cond.methodLink RX8 165 yX2_lostCrosses ∈ lw_gd := gd_c3 (i := 89) rfl rfl
theorem im_yX2_lostCrosses : Cond.instanceMethod yX2_lostCrosses ∈ lw_gd := gd_c3 (i := 90) rfl rfl
theorem se_yX2_lostCrosses : Cond.selects RX2 yX2_lostCrosses yX2_lostCrosses ∈ lw_gd := gd_c3 (i := 91) rfl rfl
theorem co_yX2_lostCrosses : Cond.code yX2_lostCrosses cX2_lostCrosses 3 (some FieldType.int) ∈ lw_gd := gd_c3 (i := 92) rfl rfl
theorem ml_X8_168 : Cond.methodLink RX8 168 yX2_firstWrongDay ∈ lw_gd := gd_c3 (i := 93) rfl rfl
theorem im_yX2_firstWrongDay : Cond.instanceMethod yX2_firstWrongDay ∈ lw_gd := gd_c3 (i := 94) rfl rfl
theorem se_yX2_firstWrongDay : Cond.selects RX2 yX2_firstWrongDay yX2_firstWrongDay ∈ lw_gd := gd_c3 (i := 95) rfl rfl
theorem co_yX2_firstWrongDay : Cond.code yX2_firstWrongDay cX2_firstWrongDay 2 (some FieldType.int) ∈ lw_gd := gd_c3 (i := 96) rfl rfl
theorem ml_L_86 : Cond.methodLink RL 86 yX8_longest ∈ lw_gd := gd_c3 (i := 97) rfl rfl
theorem im_yX8_longest : Cond.instanceMethod yX8_longest ∈ lw_gd := gd_c3 (i := 98) rfl rfl
theorem se_yX8_longest : Cond.selects RX8 yX8_longest yX8_longest ∈ lw_gd := gd_c3 (i := 99) rfl rfl
theorem co_yX8_longest : Cond.code yX8_longest cX8_longest 2 (some FieldType.int) ∈ lw_gd := gd_c3 (i := 100) rfl rfl
theorem ml_X8_171 : Cond.methodLink RX8 171 yX2_longestWithoutCross ∈ lw_gd := gd_c3 (i := 101) rfl rfl
theorem im_yX2_longestWithoutCross : Cond.instanceMethod yX2_longestWithoutCross ∈ lw_gd := gd_c3 (i := 102) rfl rfl
theorem se_yX2_longestWithoutCross : Cond.selects RX2 yX2_longestWithoutCross yX2_longestWithoutCross ∈ lw_gd := gd_c3 (i := 103) rfl rfl
theorem co_yX2_longestWithoutCross : Cond.code yX2_longestWithoutCross cX2_longestWithoutCross 5 (some FieldType.int) ∈ lw_gd := gd_c3 (i := 104) rfl rfl
theorem ml_X2_129 : Cond.methodLink RX2 129 yX2_hasCross ∈ lw_gd := gd_c3 (i := 105) rfl rfl
theorem ml_L_90 : Cond.methodLink RL 90 yX8_there ∈ lw_gd := gd_c3 (i := 106) rfl rfl
theorem im_yX8_there : Cond.instanceMethod yX8_there ∈ lw_gd := gd_c3 (i := 107) rfl rfl
theorem se_yX8_there : Cond.selects RX8 yX8_there yX8_there ∈ lw_gd := gd_c3 (i := 108) rfl rfl
theorem co_yX8_there : Cond.code yX8_there cX8_there 2 (some FieldType.int) ∈ lw_gd := gd_c3 (i := 109) rfl rfl
theorem ml_X8_174 : Cond.methodLink RX8 174 yX8_isTrial ∈ lw_gd := gd_c3 (i := 110) rfl rfl
theorem sm_yX8_isTrial : Cond.static yX8_isTrial ∈ lw_gd := gd_c3 (i := 111) rfl rfl
theorem co_yX8_isTrial : Cond.code yX8_isTrial cX8_isTrial 1 (some FieldType.boolean) ∈ lw_gd := gd_c3 (i := 112) rfl rfl
theorem ml_X8_177 : Cond.methodLink RX8 177 yX7_thereWith ∈ lw_gd := gd_c3 (i := 113) rfl rfl
theorem im_yX7_thereWith : Cond.instanceMethod yX7_thereWith ∈ lw_gd := gd_c3 (i := 114) rfl rfl
theorem se_yX7_thereWith : Cond.selects RX7 yX7_thereWith yX7_thereWith ∈ lw_gd := gd_c3 (i := 115) rfl rfl
theorem co_yX7_thereWith : Cond.code yX7_thereWith cX7_thereWith 6 (some FieldType.int) ∈ lw_gd := gd_c3 (i := 116) rfl rfl
theorem ml_X7_18 : Cond.methodLink RX7 18 yX2_copyFrom ∈ lw_gd := gd_c3 (i := 117) rfl rfl
theorem ml_X7_22 : Cond.methodLink RX7 22 yX2_knockAt ∈ lw_gd := gd_c3 (i := 118) rfl rfl
theorem ml_X7_26 : Cond.methodLink RX7 26 yX2_isOver ∈ lw_gd := gd_c3 (i := 119) rfl rfl
theorem ml_X7_30 : Cond.methodLink RX7 30 yX2_goOneDay ∈ lw_gd := gd_c3 (i := 120) rfl rfl
theorem ml_X7_34 : Cond.methodLink RX7 34 yJ6_bitCount_0f7a4 ∈ lw_gd := gd_c3 (i := 121) rfl rfl
theorem ml_L_94 : Cond.methodLink RL 94 yX8_round ∈ lw_gd := gd_c3 (i := 122) rfl rfl
theorem im_yX8_round : Cond.instanceMethod yX8_round ∈ lw_gd := gd_c3 (i := 123) rfl rfl
theorem se_yX8_round : Cond.selects RX8 yX8_round yX8_round ∈ lw_gd := gd_c3 (i := 124) rfl rfl
theorem co_yX8_round : Cond.code yX8_round cX8_round 5 (some FieldType.int) ∈ lw_gd := gd_c3 (i := 125) rfl rfl
theorem ml_X8_181 : Cond.methodLink RX8 181 yX7_bestHouses ∈ lw_gd := gd_c3 (i := 126) rfl rfl
theorem im_yX7_bestHouses : Cond.instanceMethod yX7_bestHouses ∈ lw_gd := gd_c3 (i := 127) rfl rfl
theorem se_yX7_bestHouses : Cond.selects RX7 yX7_bestHouses yX7_bestHouses ∈ lw_gd := gd_c3 (i := 128) rfl rfl
theorem co_yX7_bestHouses : Cond.code yX7_bestHouses cX7_bestHouses 8 (some FieldType.int) ∈ lw_gd := gd_c3 (i := 129) rfl rfl
theorem ml_X7_39 : Cond.methodLink RX7 39 yX7_thereWith ∈ lw_gd := gd_c3 (i := 130) rfl rfl
theorem ml_L_98 : Cond.methodLink RL 98 yX8_good ∈ lw_gd := gd_c3 (i := 131) rfl rfl
theorem im_yX8_good : Cond.instanceMethod yX8_good ∈ lw_gd := gd_c3 (i := 132) rfl rfl
theorem se_yX8_good : Cond.selects RX8 yX8_good yX8_good ∈ lw_gd := gd_c3 (i := 133) rfl rfl
theorem co_yX8_good : Cond.code yX8_good cX8_good 2 (some FieldType.int) ∈ lw_gd := gd_c3 (i := 134) rfl rfl
theorem ml_X8_184 : Cond.methodLink RX8 184 yX7_dayForGood ∈ lw_gd := gd_c3 (i := 135) rfl rfl
theorem im_yX7_dayForGood : Cond.instanceMethod yX7_dayForGood ∈ lw_gd := gd_c3 (i := 136) rfl rfl
theorem se_yX7_dayForGood : Cond.selects RX7 yX7_dayForGood yX7_dayForGood ∈ lw_gd := gd_c3 (i := 137) rfl rfl
theorem co_yX7_dayForGood : Cond.code yX7_dayForGood cX7_dayForGood 4 (some FieldType.int) ∈ lw_gd := gd_c3 (i := 138) rfl rfl
theorem ml_L_102 : Cond.methodLink RL 102 yX8_meet ∈ lw_gd := gd_c3 (i := 139) rfl rfl
theorem im_yX8_meet : Cond.instanceMethod yX8_meet ∈ lw_gd := gd_c3 (i := 140) rfl rfl
theorem se_yX8_meet : Cond.selects RX8 yX8_meet yX8_meet ∈ lw_gd := gd_c3 (i := 141) rfl rfl
theorem co_yX8_meet : Cond.code yX8_meet cX8_meet 4 (some FieldType.int) ∈ lw_gd := gd_c3 (i := 142) rfl rfl
theorem ml_X8_188 : Cond.methodLink RX8 188 yX7_meetings ∈ lw_gd := gd_c3 (i := 143) rfl rfl
theorem im_yX7_meetings : Cond.instanceMethod yX7_meetings ∈ lw_gd := gd_c3 (i := 144) rfl rfl
theorem se_yX7_meetings : Cond.selects RX7 yX7_meetings yX7_meetings ∈ lw_gd := gd_c3 (i := 145) rfl rfl
theorem co_yX7_meetings : Cond.code yX7_meetings cX7_meetings 6 (some FieldType.int) ∈ lw_gd := gd_c3 (i := 146) rfl rfl
theorem ml_L_106 : Cond.methodLink RL 106 yX8_least ∈ lw_gd := gd_c3 (i := 147) rfl rfl
theorem im_yX8_least : Cond.instanceMethod yX8_least ∈ lw_gd := gd_c3 (i := 148) rfl rfl
theorem se_yX8_least : Cond.selects RX8 yX8_least yX8_least ∈ lw_gd := gd_c3 (i := 149) rfl rfl
theorem co_yX8_least : Cond.code yX8_least cX8_least 2 (some FieldType.int) ∈ lw_gd := gd_c3 (i := 150) rfl rfl
theorem ml_X8_191 : Cond.methodLink RX8 191 yX7_emptiestDay ∈ lw_gd := gd_c3 (i := 151) rfl rfl
theorem im_yX7_emptiestDay : Cond.instanceMethod yX7_emptiestDay ∈ lw_gd := gd_c3 (i := 152) rfl rfl
theorem se_yX7_emptiestDay : Cond.selects RX7 yX7_emptiestDay yX7_emptiestDay ∈ lw_gd := gd_c3 (i := 153) rfl rfl
theorem co_yX7_emptiestDay : Cond.code yX7_emptiestDay cX7_emptiestDay 7 (some FieldType.int) ∈ lw_gd := gd_c3 (i := 154) rfl rfl
theorem ml_L_110 : Cond.methodLink RL 110 yX8_fits ∈ lw_gd := gd_c3 (i := 155) rfl rfl
theorem im_yX8_fits : Cond.instanceMethod yX8_fits ∈ lw_gd := gd_c3 (i := 156) rfl rfl
theorem se_yX8_fits : Cond.selects RX8 yX8_fits yX8_fits ∈ lw_gd := gd_c3 (i := 157) rfl rfl
theorem co_yX8_fits : Cond.code yX8_fits cX8_fits 2 (some FieldType.int) ∈ lw_gd := gd_c3 (i := 158) rfl rfl
theorem ml_X8_194 : Cond.methodLink RX8 194 yX2_kindsByBook ∈ lw_gd := gd_c3 (i := 159) rfl rfl
theorem im_yX2_kindsByBook : Cond.instanceMethod yX2_kindsByBook ∈ lw_gd := gd_c3 (i := 160) rfl rfl
theorem se_yX2_kindsByBook : Cond.selects RX2 yX2_kindsByBook yX2_kindsByBook ∈ lw_gd := gd_c3 (i := 161) rfl rfl
theorem co_yX2_kindsByBook : Cond.code yX2_kindsByBook cX2_kindsByBook 5 (some FieldType.int) ∈ lw_gd := gd_c3 (i := 162) rfl rfl
theorem ml_X2_132 : Cond.methodLink RX2 132 yX2_bookFits ∈ lw_gd := gd_c3 (i := 163) rfl rfl
theorem im_yX2_bookFits : Cond.instanceMethod yX2_bookFits ∈ lw_gd := gd_c3 (i := 165) rfl rfl
theorem co_yX2_bookFits : Cond.code yX2_bookFits cX2_bookFits 8 (some FieldType.boolean) ∈ lw_gd := gd_c3 (i := 166) rfl rfl
theorem ml_L_114 : Cond.methodLink RL 114 yX8_seed ∈ lw_gd := gd_c3 (i := 167) rfl rfl
theorem im_yX8_seed : Cond.instanceMethod yX8_seed ∈ lw_gd := gd_c3 (i := 168) rfl rfl
theorem se_yX8_seed : Cond.selects RX8 yX8_seed yX8_seed ∈ lw_gd := gd_c3 (i := 169) rfl rfl
theorem co_yX8_seed : Cond.code yX8_seed cX8_seed 3 (some FieldType.int) ∈ lw_gd := gd_c3 (i := 170) rfl rfl
theorem ml_L_118 : Cond.methodLink RL 118 yX8_draw ∈ lw_gd := gd_c3 (i := 171) rfl rfl
theorem im_yX8_draw : Cond.instanceMethod yX8_draw ∈ lw_gd := gd_c3 (i := 172) rfl rfl
theorem se_yX8_draw : Cond.selects RX8 yX8_draw yX8_draw ∈ lw_gd := gd_c3 (i := 173) rfl rfl
theorem co_yX8_draw : Cond.code yX8_draw cX8_draw 1 (some FieldType.int) ∈ lw_gd := gd_c3 (i := 174) rfl rfl
theorem ml_X8_200 : Cond.methodLink RX8 200 yX2_thereToday ∈ lw_gd := gd_c3 (i := 175) rfl rfl
theorem ml_X8_203 : Cond.methodLink RX8 203 yX2_drawFrom ∈ lw_gd := gd_c3 (i := 176) rfl rfl
theorem im_yX2_drawFrom : Cond.instanceMethod yX2_drawFrom ∈ lw_gd := gd_c3 (i := 177) rfl rfl
theorem se_yX2_drawFrom : Cond.selects RX2 yX2_drawFrom yX2_drawFrom ∈ lw_gd := gd_c3 (i := 178) rfl rfl
theorem co_yX2_drawFrom : Cond.code yX2_drawFrom cX2_drawFrom 5 (some FieldType.int) ∈ lw_gd := gd_c3 (i := 179) rfl rfl
theorem cn_X2_136 : Cond.constant RX2 136 (1103515245 : Int32) ∈ lw_gd := gd_c3 (i := 180) rfl rfl
theorem ml_L_122 : Cond.methodLink RL 122 yX8_prove ∈ lw_gd := gd_c3 (i := 181) rfl rfl
theorem im_yX8_prove : Cond.instanceMethod yX8_prove ∈ lw_gd := gd_c3 (i := 182) rfl rfl
theorem se_yX8_prove : Cond.selects RX8 yX8_prove yX8_prove ∈ lw_gd := gd_c3 (i := 183) rfl rfl
theorem co_yX8_prove : Cond.code yX8_prove cX8_prove 2 (some FieldType.int) ∈ lw_gd := gd_c3 (i := 184) rfl rfl
theorem ml_X8_206 : Cond.methodLink RX8 206 yX7_writeRows ∈ lw_gd := gd_c3 (i := 185) rfl rfl
theorem im_yX7_writeRows : Cond.instanceMethod yX7_writeRows ∈ lw_gd := gd_c3 (i := 186) rfl rfl
theorem se_yX7_writeRows : Cond.selects RX7 yX7_writeRows yX7_writeRows ∈ lw_gd := gd_c3 (i := 187) rfl rfl
theorem co_yX7_writeRows : Cond.code yX7_writeRows cX7_writeRows 6 (none : Option FieldType) ∈ lw_gd := gd_c3 (i := 188) rfl rfl
theorem ml_X7_59 : Cond.methodLink RX7 59 yX2_sickNow ∈ lw_gd := gd_c3 (i := 189) rfl rfl
theorem ml_X7_62 : Cond.methodLink RX7 62 yX1_addRow ∈ lw_gd := gd_c3 (i := 190) rfl rfl
theorem im_yX1_addRow : Cond.instanceMethod yX1_addRow ∈ lw_gd := gd_c3 (i := 191) rfl rfl
theorem se_yX1_addRow : Cond.selects RX1 yX1_addRow yX1_addRow ∈ lw_gd := gd_c3 (i := 192) rfl rfl
theorem co_yX1_addRow : Cond.code yX1_addRow cX1_addRow 4 (none : Option FieldType) ∈ lw_gd := gd_c3 (i := 193) rfl rfl
theorem ml_L_126 : Cond.methodLink RL 126 yX8_row ∈ lw_gd := gd_c3 (i := 194) rfl rfl
theorem im_yX8_row : Cond.instanceMethod yX8_row ∈ lw_gd := gd_c3 (i := 195) rfl rfl
theorem se_yX8_row : Cond.selects RX8 yX8_row yX8_row ∈ lw_gd := gd_c3 (i := 196) rfl rfl
theorem co_yX8_row : Cond.code yX8_row cX8_row 4 (some FieldType.int) ∈ lw_gd := gd_c3 (i := 197) rfl rfl
theorem ml_X8_210 : Cond.methodLink RX8 210 yX1_placeOf ∈ lw_gd := gd_c3 (i := 198) rfl rfl
theorem im_yX1_placeOf : Cond.instanceMethod yX1_placeOf ∈ lw_gd := gd_c3 (i := 199) rfl rfl
theorem se_yX1_placeOf : Cond.selects RX1 yX1_placeOf yX1_placeOf ∈ lw_gd := gd_c3 (i := 200) rfl rfl
theorem co_yX1_placeOf : Cond.code yX1_placeOf cX1_placeOf 3 (some FieldType.int) ∈ lw_gd := gd_c3 (i := 201) rfl rfl
theorem ml_L_130 : Cond.methodLink RL 130 yX8_alterRow ∈ lw_gd := gd_c3 (i := 202) rfl rfl
theorem im_yX8_alterRow : Cond.instanceMethod yX8_alterRow ∈ lw_gd := gd_c3 (i := 203) rfl rfl
theorem se_yX8_alterRow : Cond.selects RX8 yX8_alterRow yX8_alterRow ∈ lw_gd := gd_c3 (i := 204) rfl rfl
theorem co_yX8_alterRow : Cond.code yX8_alterRow cX8_alterRow 6 (some FieldType.int) ∈ lw_gd := gd_c3 (i := 205) rfl rfl
theorem ml_L_134 : Cond.methodLink RL 134 yX8_judge ∈ lw_gd := gd_c3 (i := 206) rfl rfl
theorem im_yX8_judge : Cond.instanceMethod yX8_judge ∈ lw_gd := gd_c3 (i := 207) rfl rfl
theorem se_yX8_judge : Cond.selects RX8 yX8_judge yX8_judge ∈ lw_gd := gd_c3 (i := 208) rfl rfl
theorem co_yX8_judge : Cond.code yX8_judge cX8_judge 1 (some FieldType.int) ∈ lw_gd := gd_c3 (i := 209) rfl rfl
theorem ml_X8_216 : Cond.methodLink RX8 216 yX7_firstWrongRow ∈ lw_gd := gd_c3 (i := 210) rfl rfl
theorem im_yX7_firstWrongRow : Cond.instanceMethod yX7_firstWrongRow ∈ lw_gd := gd_c3 (i := 211) rfl rfl
theorem se_yX7_firstWrongRow : Cond.selects RX7 yX7_firstWrongRow yX7_firstWrongRow ∈ lw_gd := gd_c3 (i := 212) rfl rfl
theorem co_yX7_firstWrongRow : Cond.code yX7_firstWrongRow cX7_firstWrongRow 5 (some FieldType.int) ∈ lw_gd := gd_c3 (i := 213) rfl rfl
theorem ml_X7_66 : Cond.methodLink RX7 66 yX1_isRow ∈ lw_gd := gd_c3 (i := 214) rfl rfl
theorem im_yX1_isRow : Cond.instanceMethod yX1_isRow ∈ lw_gd := gd_c3 (i := 215) rfl rfl
theorem se_yX1_isRow : Cond.selects RX1 yX1_isRow yX1_isRow ∈ lw_gd := gd_c3 (i := 216) rfl rfl
theorem co_yX1_isRow : Cond.code yX1_isRow cX1_isRow 6 (some FieldType.boolean) ∈ lw_gd := gd_c3 (i := 217) rfl rfl
theorem ml_X1_19 : Cond.methodLink RX1 19 yX1_placeOf ∈ lw_gd := gd_c3 (i := 218) rfl rfl
theorem ml_L_138 : Cond.methodLink RL 138 yX8_events ∈ lw_gd := gd_c3 (i := 219) rfl rfl
theorem im_yX8_events : Cond.instanceMethod yX8_events ∈ lw_gd := gd_c3 (i := 220) rfl rfl
theorem se_yX8_events : Cond.selects RX8 yX8_events yX8_events ∈ lw_gd := gd_c3 (i := 221) rfl rfl
theorem co_yX8_events : Cond.code yX8_events cX8_events 8 (some FieldType.int) ∈ lw_gd := gd_c3 (i := 222) rfl rfl
theorem ml_X8_220 : Cond.methodLink RX8 220 yX8_isSheet ∈ lw_gd := gd_c3 (i := 223) rfl rfl
theorem sm_yX8_isSheet : Cond.static yX8_isSheet ∈ lw_gd := gd_c3 (i := 224) rfl rfl
theorem co_yX8_isSheet : Cond.code yX8_isSheet cX8_isSheet 1 (some FieldType.boolean) ∈ lw_gd := gd_c3 (i := 225) rfl rfl
theorem ml_X8_223 : Cond.methodLink RX8 223 yX3_refusalAs ∈ lw_gd := gd_c3 (i := 226) rfl rfl
theorem im_yX3_refusalAs : Cond.instanceMethod yX3_refusalAs ∈ lw_gd := gd_c3 (i := 227) rfl rfl
theorem se_yX3_refusalAs : Cond.selects RX3 yX3_refusalAs yX3_refusalAs ∈ lw_gd := gd_c3 (i := 228) rfl rfl
theorem co_yX3_refusalAs : Cond.code yX3_refusalAs cX3_refusalAs 2 (some FieldType.int) ∈ lw_gd := gd_c3 (i := 229) rfl rfl
theorem ml_L_142 : Cond.methodLink RL 142 yX8_sheet ∈ lw_gd := gd_c3 (i := 230) rfl rfl
theorem im_yX8_sheet : Cond.instanceMethod yX8_sheet ∈ lw_gd := gd_c3 (i := 231) rfl rfl
theorem se_yX8_sheet : Cond.selects RX8 yX8_sheet yX8_sheet ∈ lw_gd := gd_c3 (i := 232) rfl rfl
theorem co_yX8_sheet : Cond.code yX8_sheet cX8_sheet 4 (some FieldType.int) ∈ lw_gd := gd_c3 (i := 233) rfl rfl
theorem ml_X8_233 : Cond.methodLink RX8 233 yX3_becomeRow ∈ lw_gd := gd_c3 (i := 234) rfl rfl
theorem im_yX3_becomeRow : Cond.instanceMethod yX3_becomeRow ∈ lw_gd := gd_c3 (i := 235) rfl rfl
theorem se_yX3_becomeRow : Cond.selects RX3 yX3_becomeRow yX3_becomeRow ∈ lw_gd := gd_c3 (i := 236) rfl rfl
theorem co_yX3_becomeRow : Cond.code yX3_becomeRow cX3_becomeRow 4 (none : Option FieldType) ∈ lw_gd := gd_c3 (i := 237) rfl rfl
theorem ml_L_146 : Cond.methodLink RL 146 yX8_put ∈ lw_gd := gd_c3 (i := 238) rfl rfl
theorem im_yX8_put : Cond.instanceMethod yX8_put ∈ lw_gd := gd_c3 (i := 239) rfl rfl
theorem se_yX8_put : Cond.selects RX8 yX8_put yX8_put ∈ lw_gd := gd_c4 (i := 0) rfl rfl
theorem co_yX8_put : Cond.code yX8_put cX8_put 5 (some FieldType.int) ∈ lw_gd := gd_c4 (i := 1) rfl rfl
theorem ml_X8_240 : Cond.methodLink RX8 240 yX3_hasItem ∈ lw_gd := gd_c4 (i := 2) rfl rfl
theorem im_yX3_hasItem : Cond.instanceMethod yX3_hasItem ∈ lw_gd := gd_c4 (i := 3) rfl rfl
theorem se_yX3_hasItem : Cond.selects RX3 yX3_hasItem yX3_hasItem ∈ lw_gd := gd_c4 (i := 4) rfl rfl
theorem co_yX3_hasItem : Cond.code yX3_hasItem cX3_hasItem 2 (some FieldType.boolean) ∈ lw_gd := gd_c4 (i := 5) rfl rfl
theorem ml_X8_243 : Cond.methodLink RX8 243 yX3_narrowed ∈ lw_gd := gd_c4 (i := 6) rfl rfl
theorem im_yX3_narrowed : Cond.instanceMethod yX3_narrowed ∈ lw_gd := gd_c4 (i := 7) rfl rfl
theorem se_yX3_narrowed : Cond.selects RX3 yX3_narrowed yX3_narrowed ∈ lw_gd := gd_c4 (i := 8) rfl rfl
theorem co_yX3_narrowed : Cond.code yX3_narrowed cX3_narrowed 2 (some FieldType.long) ∈ lw_gd := gd_c4 (i := 9) rfl rfl
theorem ml_L_150 : Cond.methodLink RL 150 yX8_item ∈ lw_gd := gd_c4 (i := 10) rfl rfl
theorem im_yX8_item : Cond.instanceMethod yX8_item ∈ lw_gd := gd_c4 (i := 11) rfl rfl
theorem se_yX8_item : Cond.selects RX8 yX8_item yX8_item ∈ lw_gd := gd_c4 (i := 12) rfl rfl
theorem co_yX8_item : Cond.code yX8_item cX8_item 6 (some FieldType.int) ∈ lw_gd := gd_c4 (i := 13) rfl rfl
theorem ml_X8_247 : Cond.methodLink RX8 247 yX8_isSort ∈ lw_gd := gd_c4 (i := 14) rfl rfl
theorem sm_yX8_isSort : Cond.static yX8_isSort ∈ lw_gd := gd_c4 (i := 15) rfl rfl
theorem co_yX8_isSort : Cond.code yX8_isSort cX8_isSort 1 (some FieldType.boolean) ∈ lw_gd := gd_c4 (i := 16) rfl rfl
theorem ml_L_154 : Cond.methodLink RL 154 yX8_shelf ∈ lw_gd := gd_c4 (i := 17) rfl rfl
theorem im_yX8_shelf : Cond.instanceMethod yX8_shelf ∈ lw_gd := gd_c4 (i := 18) rfl rfl
theorem se_yX8_shelf : Cond.selects RX8 yX8_shelf yX8_shelf ∈ lw_gd := gd_c4 (i := 19) rfl rfl
theorem co_yX8_shelf : Cond.code yX8_shelf cX8_shelf 5 (some FieldType.int) ∈ lw_gd := gd_c4 (i := 20) rfl rfl
theorem ml_X8_250 : Cond.methodLink RX8 250 yX8_isShelf ∈ lw_gd := gd_c4 (i := 21) rfl rfl
theorem sm_yX8_isShelf : Cond.static yX8_isShelf ∈ lw_gd := gd_c4 (i := 22) rfl rfl
theorem co_yX8_isShelf : Cond.code yX8_isShelf cX8_isShelf 1 (some FieldType.boolean) ∈ lw_gd := gd_c4 (i := 23) rfl rfl
theorem ml_X8_253 : Cond.methodLink RX8 253 yX4_holdChild ∈ lw_gd := gd_c4 (i := 24) rfl rfl
theorem im_yX4_holdChild : Cond.instanceMethod yX4_holdChild ∈ lw_gd := gd_c4 (i := 25) rfl rfl
theorem se_yX4_holdChild : Cond.selects RX4 yX4_holdChild yX4_holdChild ∈ lw_gd := gd_c4 (i := 26) rfl rfl
theorem co_yX4_holdChild : Cond.code yX4_holdChild cX4_holdChild 2 (none : Option FieldType) ∈ lw_gd := gd_c4 (i := 27) rfl rfl
theorem ml_X8_257 : Cond.methodLink RX8 257 yX4_holdRow ∈ lw_gd := gd_c4 (i := 28) rfl rfl
theorem im_yX4_holdRow : Cond.instanceMethod yX4_holdRow ∈ lw_gd := gd_c4 (i := 29) rfl rfl
theorem se_yX4_holdRow : Cond.selects RX4 yX4_holdRow yX4_holdRow ∈ lw_gd := gd_c4 (i := 30) rfl rfl
theorem co_yX4_holdRow : Cond.code yX4_holdRow cX4_holdRow 3 (none : Option FieldType) ∈ lw_gd := gd_c4 (i := 31) rfl rfl
theorem ml_L_158 : Cond.methodLink RL 158 yX8_taken ∈ lw_gd := gd_c4 (i := 32) rfl rfl
theorem im_yX8_taken : Cond.instanceMethod yX8_taken ∈ lw_gd := gd_c4 (i := 33) rfl rfl
theorem se_yX8_taken : Cond.selects RX8 yX8_taken yX8_taken ∈ lw_gd := gd_c4 (i := 34) rfl rfl
theorem co_yX8_taken : Cond.code yX8_taken cX8_taken 4 (some FieldType.int) ∈ lw_gd := gd_c4 (i := 35) rfl rfl
theorem ml_X8_267 : Cond.methodLink RX8 267 yX8_holdsChild ∈ lw_gd := gd_c4 (i := 36) rfl rfl
theorem im_yX8_holdsChild : Cond.instanceMethod yX8_holdsChild ∈ lw_gd := gd_c4 (i := 38) rfl rfl
theorem co_yX8_holdsChild : Cond.code yX8_holdsChild cX8_holdsChild 2 (some FieldType.boolean) ∈ lw_gd := gd_c4 (i := 39) rfl rfl
theorem ml_X8_271 : Cond.methodLink RX8 271 yX8_isUnder ∈ lw_gd := gd_c4 (i := 40) rfl rfl
theorem sm_yX8_isUnder : Cond.static yX8_isUnder ∈ lw_gd := gd_c4 (i := 41) rfl rfl
theorem co_yX8_isUnder : Cond.code yX8_isUnder cX8_isUnder 4 (some FieldType.boolean) ∈ lw_gd := gd_c4 (i := 42) rfl rfl
theorem fl_X8_290 : Cond.fieldLink RX8 290 "CrossBook" "ABOVE" "[I" ∈ lw_gd := gd_c4 (i := 43) rfl rfl
theorem ml_L_162 : Cond.methodLink RL 162 yX8_act ∈ lw_gd := gd_c4 (i := 45) rfl rfl
theorem im_yX8_act : Cond.instanceMethod yX8_act ∈ lw_gd := gd_c4 (i := 46) rfl rfl
theorem se_yX8_act : Cond.selects RX8 yX8_act yX8_act ∈ lw_gd := gd_c4 (i := 47) rfl rfl
theorem co_yX8_act : Cond.code yX8_act cX8_act 5 (some FieldType.int) ∈ lw_gd := gd_c4 (i := 48) rfl rfl
theorem ml_X8_274 : Cond.methodLink RX8 274 yX6_clearTrace ∈ lw_gd := gd_c4 (i := 49) rfl rfl
theorem im_yX6_clearTrace : Cond.instanceMethod yX6_clearTrace ∈ lw_gd := gd_c4 (i := 50) rfl rfl
theorem se_yX6_clearTrace : Cond.selects RX6 yX6_clearTrace yX6_clearTrace ∈ lw_gd := gd_c4 (i := 51) rfl rfl
theorem co_yX6_clearTrace : Cond.code yX6_clearTrace cX6_clearTrace 1 (none : Option FieldType) ∈ lw_gd := gd_c4 (i := 52) rfl rfl
theorem ml_X8_277 : Cond.methodLink RX8 277 yX6_answerOf ∈ lw_gd := gd_c4 (i := 53) rfl rfl
theorem im_yX6_answerOf : Cond.instanceMethod yX6_answerOf ∈ lw_gd := gd_c4 (i := 54) rfl rfl
theorem se_yX6_answerOf : Cond.selects RX6 yX6_answerOf yX6_answerOf ∈ lw_gd := gd_c4 (i := 55) rfl rfl
theorem co_yX6_answerOf : Cond.code yX6_answerOf cX6_answerOf 7 (some FieldType.int) ∈ lw_gd := gd_c4 (i := 56) rfl rfl
theorem ml_X6_32 : Cond.methodLink RX6 32 yX6_runAct ∈ lw_gd := gd_c4 (i := 57) rfl rfl
theorem im_yX6_runAct : Cond.instanceMethod yX6_runAct ∈ lw_gd := gd_c4 (i := 59) rfl rfl
theorem co_yX6_runAct : Cond.code yX6_runAct cX6_runAct 6 (some FieldType.int) ∈ lw_gd := gd_c4 (i := 60) rfl rfl
theorem ml_X6_36 : Cond.methodLink RX6 36 yX6_bodyOf ∈ lw_gd := gd_c4 (i := 61) rfl rfl
theorem sm_yX6_bodyOf : Cond.static yX6_bodyOf ∈ lw_gd := gd_c4 (i := 62) rfl rfl
theorem co_yX6_bodyOf : Cond.code yX6_bodyOf cX6_bodyOf 5 (some FieldType.int) ∈ lw_gd := gd_c4 (i := 63) rfl rfl
theorem fl_X6_48 : Cond.fieldLink RX6 48 "CrossBook$Thing" "BODIES" "[I" ∈ lw_gd := gd_c4 (i := 65) rfl rfl
theorem ml_X6_40 : Cond.methodLink RX6 40 yX6_runBody ∈ lw_gd := gd_c4 (i := 68) rfl rfl
theorem im_yX6_runBody : Cond.instanceMethod yX6_runBody ∈ lw_gd := gd_c4 (i := 70) rfl rfl
theorem co_yX6_runBody : Cond.code yX6_runBody cX6_runBody 4 (some FieldType.int) ∈ lw_gd := gd_c4 (i := 71) rfl rfl
theorem ml_X6_54 : Cond.methodLink RX6 54 yX6_shared ∈ lw_gd := gd_c4 (i := 72) rfl rfl
theorem im_yX6_shared : Cond.instanceMethod yX6_shared ∈ lw_gd := gd_c4 (i := 74) rfl rfl
theorem co_yX6_shared : Cond.code yX6_shared cX6_shared 3 (some FieldType.int) ∈ lw_gd := gd_c4 (i := 75) rfl rfl
theorem ml_L_166 : Cond.methodLink RL 166 yX8_trace ∈ lw_gd := gd_c4 (i := 76) rfl rfl
theorem im_yX8_trace : Cond.instanceMethod yX8_trace ∈ lw_gd := gd_c4 (i := 77) rfl rfl
theorem se_yX8_trace : Cond.selects RX8 yX8_trace yX8_trace ∈ lw_gd := gd_c4 (i := 78) rfl rfl
theorem co_yX8_trace : Cond.code yX8_trace cX8_trace 2 (some FieldType.int) ∈ lw_gd := gd_c4 (i := 79) rfl rfl
theorem ml_L_170 : Cond.methodLink RL 170 yX8_many ∈ lw_gd := gd_c4 (i := 80) rfl rfl
theorem im_yX8_many : Cond.instanceMethod yX8_many ∈ lw_gd := gd_c4 (i := 81) rfl rfl
theorem se_yX8_many : Cond.selects RX8 yX8_many yX8_many ∈ lw_gd := gd_c4 (i := 82) rfl rfl
theorem co_yX8_many : Cond.code yX8_many cX8_many 2 (some FieldType.int) ∈ lw_gd := gd_c4 (i := 83) rfl rfl
theorem ml_X8_287 : Cond.methodLink RX8 287 yX2_allCrosses ∈ lw_gd := gd_c4 (i := 84) rfl rfl
theorem im_yX2_allCrosses : Cond.instanceMethod yX2_allCrosses ∈ lw_gd := gd_c4 (i := 85) rfl rfl
theorem se_yX2_allCrosses : Cond.selects RX2 yX2_allCrosses yX2_allCrosses ∈ lw_gd := gd_c4 (i := 86) rfl rfl
theorem co_yX2_allCrosses : Cond.code yX2_allCrosses cX2_allCrosses 3 (some FieldType.int) ∈ lw_gd := gd_c4 (i := 87) rfl rfl
theorem ml_L_174 : Cond.methodLink RL 174 yX8_keep ∈ lw_gd := gd_c4 (i := 88) rfl rfl
theorem im_yX8_keep : Cond.instanceMethod yX8_keep ∈ lw_gd := gd_c4 (i := 89) rfl rfl
theorem se_yX8_keep : Cond.selects RX8 yX8_keep yX8_keep ∈ lw_gd := gd_c4 (i := 90) rfl rfl
theorem co_yX8_keep : Cond.code yX8_keep cX8_keep 1 (some FieldType.int) ∈ lw_gd := gd_c4 (i := 91) rfl rfl
theorem ml_L_178 : Cond.methodLink RL 178 yX8_again ∈ lw_gd := gd_c4 (i := 92) rfl rfl
theorem im_yX8_again : Cond.instanceMethod yX8_again ∈ lw_gd := gd_c4 (i := 93) rfl rfl
theorem se_yX8_again : Cond.selects RX8 yX8_again yX8_again ∈ lw_gd := gd_c4 (i := 94) rfl rfl
theorem co_yX8_again : Cond.code yX8_again cX8_again 1 (some FieldType.int) ∈ lw_gd := gd_c4 (i := 95) rfl rfl
theorem kl_L_10 : Cond.classLink RL 10 "CrossBookModel" ∈ lw_gd := gd_c4 (i := 96) rfl rfl
theorem ins_RX9 : Cond.instantiable RX9 45 ∈ lw_gd := gd_c4 (i := 97) rfl rfl
theorem ml_L_12 : Cond.methodLink RL 12 yX9_init ∈ lw_gd := gd_c4 (i := 98) rfl rfl
theorem im_yX9_init : Cond.instanceMethod yX9_init ∈ lw_gd := gd_c4 (i := 99) rfl rfl
theorem co_yX9_init : Cond.code yX9_init cX9_init 1 (none : Option FieldType) ∈ lw_gd := gd_c4 (i := 100) rfl rfl
theorem ml_X9_1 : Cond.methodLink RX9 1 objectInit ∈ lw_gd := gd_c4 (i := 101) rfl rfl
theorem fl_X9_91 : Cond.fieldLink RX9 91 "CrossBookModel" "children" "I" ∈ lw_gd := gd_c4 (i := 102) rfl rfl
theorem fl_X9_7 : Cond.fieldLink RX9 7 "CrossBookModel" "child" "[I" ∈ lw_gd := gd_c4 (i := 103) rfl rfl
theorem fl_X9_13 : Cond.fieldLink RX9 13 "CrossBookModel" "row" "[I" ∈ lw_gd := gd_c4 (i := 104) rfl rfl
theorem fl_X9_222 : Cond.fieldLink RX9 222 "CrossBookModel" "at" "I" ∈ lw_gd := gd_c4 (i := 105) rfl rfl
theorem fl_X9_16 : Cond.fieldLink RX9 16 "CrossBookModel" "events" "[I" ∈ lw_gd := gd_c4 (i := 106) rfl rfl
theorem fl_X9_19 : Cond.fieldLink RX9 19 "CrossBookModel" "crosses" "[I" ∈ lw_gd := gd_c4 (i := 107) rfl rfl
theorem fl_X9_22 : Cond.fieldLink RX9 22 "CrossBookModel" "truth" "[I" ∈ lw_gd := gd_c4 (i := 108) rfl rfl
theorem fl_X9_25 : Cond.fieldLink RX9 25 "CrossBookModel" "laws" "[I" ∈ lw_gd := gd_c4 (i := 109) rfl rfl
theorem fl_X9_28 : Cond.fieldLink RX9 28 "CrossBookModel" "leastOf" "[I" ∈ lw_gd := gd_c4 (i := 110) rfl rfl
theorem fl_X9_31 : Cond.fieldLink RX9 31 "CrossBookModel" "mostOf" "[I" ∈ lw_gd := gd_c4 (i := 111) rfl rfl
theorem fl_X9_34 : Cond.fieldLink RX9 34 "CrossBookModel" "z" "I" ∈ lw_gd := gd_c4 (i := 112) rfl rfl
theorem fl_X9_38 : Cond.fieldLink RX9 38 "CrossBookModel" "tape" "[I" ∈ lw_gd := gd_c4 (i := 113) rfl rfl
theorem fl_X9_94 : Cond.fieldLink RX9 94 "CrossBookModel" "tapeMany" "I" ∈ lw_gd := gd_c4 (i := 114) rfl rfl
theorem fl_X9_116 : Cond.fieldLink RX9 116 "CrossBookModel" "sort" "I" ∈ lw_gd := gd_c4 (i := 115) rfl rfl
theorem fl_X9_102 : Cond.fieldLink RX9 102 "CrossBookModel" "begins" "I" ∈ lw_gd := gd_c4 (i := 116) rfl rfl
theorem fl_X9_99 : Cond.fieldLink RX9 99 "CrossBookModel" "tokenEnds" "I" ∈ lw_gd := gd_c4 (i := 117) rfl rfl
theorem fl_X9_119 : Cond.fieldLink RX9 119 "CrossBookModel" "word" "J" ∈ lw_gd := gd_c4 (i := 118) rfl rfl
theorem fl_X9_123 : Cond.fieldLink RX9 123 "CrossBookModel" "value" "I" ∈ lw_gd := gd_c4 (i := 119) rfl rfl
theorem fl_X9_148 : Cond.fieldLink RX9 148 "CrossBookModel" "good" "Z" ∈ lw_gd := gd_c4 (i := 120) rfl rfl
theorem fl_X9_158 : Cond.fieldLink RX9 158 "CrossBookModel" "freshChildren" "I" ∈ lw_gd := gd_c4 (i := 121) rfl rfl
theorem fl_X9_186 : Cond.fieldLink RX9 186 "CrossBookModel" "freshToday" "I" ∈ lw_gd := gd_c4 (i := 122) rfl rfl
theorem fl_X9_41 : Cond.fieldLink RX9 41 "CrossBookModel" "freshChild" "[I" ∈ lw_gd := gd_c4 (i := 123) rfl rfl
theorem fl_X9_44 : Cond.fieldLink RX9 44 "CrossBookModel" "freshSick" "[I" ∈ lw_gd := gd_c4 (i := 124) rfl rfl
theorem fl_X9_47 : Cond.fieldLink RX9 47 "CrossBookModel" "freshEvents" "[I" ∈ lw_gd := gd_c4 (i := 125) rfl rfl
theorem fl_X9_50 : Cond.fieldLink RX9 50 "CrossBookModel" "freshLaws" "[I" ∈ lw_gd := gd_c4 (i := 126) rfl rfl
theorem fl_X9_53 : Cond.fieldLink RX9 53 "CrossBookModel" "rows" "[I" ∈ lw_gd := gd_c4 (i := 127) rfl rfl
theorem fl_X9_56 : Cond.fieldLink RX9 56 "CrossBookModel" "must" "[I" ∈ lw_gd := gd_c4 (i := 128) rfl rfl
theorem fl_X9_199 : Cond.fieldLink RX9 199 "CrossBookModel" "rowMany" "I" ∈ lw_gd := gd_c4 (i := 129) rfl rfl
theorem fl_X9_257 : Cond.fieldLink RX9 257 "CrossBookModel" "mustMany" "I" ∈ lw_gd := gd_c4 (i := 130) rfl rfl
theorem fl_X9_59 : Cond.fieldLink RX9 59 "CrossBookModel" "sorts" "[I" ∈ lw_gd := gd_c4 (i := 131) rfl rfl
theorem fl_X9_62 : Cond.fieldLink RX9 62 "CrossBookModel" "sizes" "[I" ∈ lw_gd := gd_c4 (i := 132) rfl rfl
theorem fl_X9_65 : Cond.fieldLink RX9 65 "CrossBookModel" "sheets" "[J" ∈ lw_gd := gd_c4 (i := 133) rfl rfl
theorem fl_X9_69 : Cond.fieldLink RX9 69 "CrossBookModel" "held" "[I" ∈ lw_gd := gd_c4 (i := 134) rfl rfl
theorem fl_X9_72 : Cond.fieldLink RX9 72 "CrossBookModel" "heldNumber" "[I" ∈ lw_gd := gd_c4 (i := 135) rfl rfl
theorem fl_X9_75 : Cond.fieldLink RX9 75 "CrossBookModel" "heldSize" "[I" ∈ lw_gd := gd_c4 (i := 136) rfl rfl
theorem fl_X9_295 : Cond.fieldLink RX9 295 "CrossBookModel" "kind" "I" ∈ lw_gd := gd_c4 (i := 137) rfl rfl
theorem fl_X9_289 : Cond.fieldLink RX9 289 "CrossBookModel" "number" "I" ∈ lw_gd := gd_c4 (i := 138) rfl rfl
theorem fl_X9_307 : Cond.fieldLink RX9 307 "CrossBookModel" "own" "I" ∈ lw_gd := gd_c4 (i := 139) rfl rfl
theorem fl_X9_78 : Cond.fieldLink RX9 78 "CrossBookModel" "traced" "[I" ∈ lw_gd := gd_c4 (i := 140) rfl rfl
theorem fl_X9_283 : Cond.fieldLink RX9 283 "CrossBookModel" "bodies" "I" ∈ lw_gd := gd_c4 (i := 141) rfl rfl
theorem fl_X9_310 : Cond.fieldLink RX9 310 "CrossBookModel" "isParted" "Z" ∈ lw_gd := gd_c4 (i := 142) rfl rfl
theorem fl_X9_339 : Cond.fieldLink RX9 339 "CrossBookModel" "isKept" "Z" ∈ lw_gd := gd_c4 (i := 143) rfl rfl
theorem fl_X9_81 : Cond.fieldLink RX9 81 "CrossBookModel" "keptRow" "[I" ∈ lw_gd := gd_c4 (i := 144) rfl rfl
theorem fl_X9_328 : Cond.fieldLink RX9 328 "CrossBookModel" "movedTo" "I" ∈ lw_gd := gd_c4 (i := 145) rfl rfl
theorem fl_X9_84 : Cond.fieldLink RX9 84 "CrossBookModel" "single" "[I" ∈ lw_gd := gd_c4 (i := 146) rfl rfl
theorem ml_L_19 : Cond.methodLink RL 19 yX9_feed ∈ lw_gd := gd_c4 (i := 238) rfl rfl
theorem im_yX9_feed : Cond.instanceMethod yX9_feed ∈ lw_gd := gd_c4 (i := 239) rfl rfl
theorem se_yX9_feed : Cond.selects RX9 yX9_feed yX9_feed ∈ lw_gd := gd_c5 (i := 0) rfl rfl
theorem co_yX9_feed : Cond.code yX9_feed cX9_feed 5 (some FieldType.int) ∈ lw_gd := gd_c5 (i := 1) rfl rfl
theorem ml_X9_87 : Cond.methodLink RX9 87 yX9_in ∈ lw_gd := gd_c5 (i := 2) rfl rfl
theorem sm_yX9_in : Cond.static yX9_in ∈ lw_gd := gd_c5 (i := 3) rfl rfl
theorem co_yX9_in : Cond.code yX9_in cX9_in 3 (some FieldType.boolean) ∈ lw_gd := gd_c5 (i := 4) rfl rfl
theorem cn_X9_97 : Cond.constantLong RX9 97 (255 : Int64) ∈ lw_gd := gd_c5 (i := 5) rfl rfl
theorem ml_L_24 : Cond.methodLink RL 24 yX9_school ∈ lw_gd := gd_c5 (i := 6) rfl rfl
theorem im_yX9_school : Cond.instanceMethod yX9_school ∈ lw_gd := gd_c5 (i := 7) rfl rfl
theorem se_yX9_school : Cond.selects RX9 yX9_school yX9_school ∈ lw_gd := gd_c5 (i := 8) rfl rfl
theorem co_yX9_school : Cond.code yX9_school cX9_school 2 (some FieldType.int) ∈ lw_gd := gd_c5 (i := 9) rfl rfl
theorem ml_X9_152 : Cond.methodLink RX9 152 yX9_advance ∈ lw_gd := gd_c5 (i := 10) rfl rfl
theorem im_yX9_advance : Cond.instanceMethod yX9_advance ∈ lw_gd := gd_c5 (i := 12) rfl rfl
theorem co_yX9_advance : Cond.code yX9_advance cX9_advance 2 (none : Option FieldType) ∈ lw_gd := gd_c5 (i := 13) rfl rfl
theorem ml_X9_105 : Cond.methodLink RX9 105 yX9_byteAt ∈ lw_gd := gd_c5 (i := 14) rfl rfl
theorem im_yX9_byteAt : Cond.instanceMethod yX9_byteAt ∈ lw_gd := gd_c5 (i := 16) rfl rfl
theorem co_yX9_byteAt : Cond.code yX9_byteAt cX9_byteAt 2 (some FieldType.int) ∈ lw_gd := gd_c5 (i := 17) rfl rfl
theorem ml_X9_109 : Cond.methodLink RX9 109 yX9_isLetter ∈ lw_gd := gd_c5 (i := 18) rfl rfl
theorem sm_yX9_isLetter : Cond.static yX9_isLetter ∈ lw_gd := gd_c5 (i := 19) rfl rfl
theorem co_yX9_isLetter : Cond.code yX9_isLetter cX9_isLetter 1 (some FieldType.boolean) ∈ lw_gd := gd_c5 (i := 20) rfl rfl
theorem ml_X9_113 : Cond.methodLink RX9 113 yX9_isDigit ∈ lw_gd := gd_c5 (i := 21) rfl rfl
theorem sm_yX9_isDigit : Cond.static yX9_isDigit ∈ lw_gd := gd_c5 (i := 22) rfl rfl
theorem co_yX9_isDigit : Cond.code yX9_isDigit cX9_isDigit 1 (some FieldType.boolean) ∈ lw_gd := gd_c5 (i := 23) rfl rfl
theorem cn_X9_126 : Cond.constantLong RX9 126 (27 : Int64) ∈ lw_gd := gd_c5 (i := 24) rfl rfl
theorem cn_X9_128 : Cond.constantLong RX9 128 (96 : Int64) ∈ lw_gd := gd_c5 (i := 25) rfl rfl
theorem cn_X9_130 : Cond.constantLong RX9 130 (-1 : Int64) ∈ lw_gd := gd_c5 (i := 26) rfl rfl
theorem ml_X9_196 : Cond.methodLink RX9 196 yX9_wantClause ∈ lw_gd := gd_c5 (i := 27) rfl rfl
theorem im_yX9_wantClause : Cond.instanceMethod yX9_wantClause ∈ lw_gd := gd_c5 (i := 29) rfl rfl
theorem co_yX9_wantClause : Cond.code yX9_wantClause cX9_wantClause 3 (none : Option FieldType) ∈ lw_gd := gd_c5 (i := 30) rfl rfl
theorem ml_X9_172 : Cond.methodLink RX9 172 yX9_kindHere ∈ lw_gd := gd_c5 (i := 31) rfl rfl
theorem im_yX9_kindHere : Cond.instanceMethod yX9_kindHere ∈ lw_gd := gd_c5 (i := 33) rfl rfl
theorem co_yX9_kindHere : Cond.code yX9_kindHere cX9_kindHere 1 (some FieldType.int) ∈ lw_gd := gd_c5 (i := 34) rfl rfl
theorem cn_X9_132 : Cond.constantLong RX9 132 (1758676 : Int64) ∈ lw_gd := gd_c5 (i := 35) rfl rfl
theorem ml_X9_134 : Cond.methodLink RX9 134 yX9_isWord ∈ lw_gd := gd_c5 (i := 36) rfl rfl
theorem im_yX9_isWord : Cond.instanceMethod yX9_isWord ∈ lw_gd := gd_c5 (i := 38) rfl rfl
theorem co_yX9_isWord : Cond.code yX9_isWord cX9_isWord 3 (some FieldType.boolean) ∈ lw_gd := gd_c5 (i := 39) rfl rfl
theorem cn_X9_138 : Cond.constantLong RX9 138 (220610 : Int64) ∈ lw_gd := gd_c5 (i := 40) rfl rfl
theorem cn_X9_140 : Cond.constantLong RX9 140 (6897 : Int64) ∈ lw_gd := gd_c5 (i := 41) rfl rfl
theorem cn_X9_142 : Cond.constantLong RX9 142 (296958548 : Int64) ∈ lw_gd := gd_c5 (i := 42) rfl rfl
theorem cn_X9_144 : Cond.constantLong RX9 144 (21569193884 : Int64) ∈ lw_gd := gd_c5 (i := 43) rfl rfl
theorem cn_X9_146 : Cond.constantLong RX9 146 (32057216971 : Int64) ∈ lw_gd := gd_c5 (i := 44) rfl rfl
theorem ml_X9_176 : Cond.methodLink RX9 176 yX9_wantChild ∈ lw_gd := gd_c5 (i := 45) rfl rfl
theorem im_yX9_wantChild : Cond.instanceMethod yX9_wantChild ∈ lw_gd := gd_c5 (i := 47) rfl rfl
theorem co_yX9_wantChild : Cond.code yX9_wantChild cX9_wantChild 5 (none : Option FieldType) ∈ lw_gd := gd_c5 (i := 48) rfl rfl
theorem ml_X9_161 : Cond.methodLink RX9 161 yX9_wantNumber ∈ lw_gd := gd_c5 (i := 49) rfl rfl
theorem im_yX9_wantNumber : Cond.instanceMethod yX9_wantNumber ∈ lw_gd := gd_c5 (i := 51) rfl rfl
theorem co_yX9_wantNumber : Cond.code yX9_wantNumber cX9_wantNumber 4 (some FieldType.int) ∈ lw_gd := gd_c5 (i := 52) rfl rfl
theorem cn_X9_165 : Cond.constantLong RX9 165 (257 : Int64) ∈ lw_gd := gd_c5 (i := 53) rfl rfl
theorem cn_X9_167 : Cond.constantLong RX9 167 (4419 : Int64) ∈ lw_gd := gd_c5 (i := 54) rfl rfl
theorem ml_X9_169 : Cond.methodLink RX9 169 yX9_wantEnd ∈ lw_gd := gd_c5 (i := 55) rfl rfl
theorem im_yX9_wantEnd : Cond.instanceMethod yX9_wantEnd ∈ lw_gd := gd_c5 (i := 57) rfl rfl
theorem co_yX9_wantEnd : Cond.code yX9_wantEnd cX9_wantEnd 1 (none : Option FieldType) ∈ lw_gd := gd_c5 (i := 58) rfl rfl
theorem ml_X9_155 : Cond.methodLink RX9 155 yX9_isMark ∈ lw_gd := gd_c5 (i := 59) rfl rfl
theorem im_yX9_isMark : Cond.instanceMethod yX9_isMark ∈ lw_gd := gd_c5 (i := 61) rfl rfl
theorem co_yX9_isMark : Cond.code yX9_isMark cX9_isMark 2 (some FieldType.boolean) ∈ lw_gd := gd_c5 (i := 62) rfl rfl
theorem cn_X9_180 : Cond.constantLong RX9 180 (2968 : Int64) ∈ lw_gd := gd_c5 (i := 63) rfl rfl
theorem cn_X9_182 : Cond.constantLong RX9 182 (380630 : Int64) ∈ lw_gd := gd_c5 (i := 64) rfl rfl
theorem cn_X9_184 : Cond.constantLong RX9 184 (10927033 : Int64) ∈ lw_gd := gd_c5 (i := 65) rfl rfl
theorem cn_X9_189 : Cond.constantLong RX9 189 (283623667 : Int64) ∈ lw_gd := gd_c5 (i := 66) rfl rfl
theorem ml_X9_191 : Cond.methodLink RX9 191 yX9_wantLaw ∈ lw_gd := gd_c5 (i := 67) rfl rfl
theorem im_yX9_wantLaw : Cond.instanceMethod yX9_wantLaw ∈ lw_gd := gd_c5 (i := 69) rfl rfl
theorem co_yX9_wantLaw : Cond.code yX9_wantLaw cX9_wantLaw 3 (none : Option FieldType) ∈ lw_gd := gd_c5 (i := 70) rfl rfl
theorem cn_X9_194 : Cond.constantLong RX9 194 (247664 : Int64) ∈ lw_gd := gd_c5 (i := 71) rfl rfl
theorem ml_L_29 : Cond.methodLink RL 29 yX9_child ∈ lw_gd := gd_c5 (i := 72) rfl rfl
theorem im_yX9_child : Cond.instanceMethod yX9_child ∈ lw_gd := gd_c5 (i := 73) rfl rfl
theorem se_yX9_child : Cond.selects RX9 yX9_child yX9_child ∈ lw_gd := gd_c5 (i := 74) rfl rfl
theorem co_yX9_child : Cond.code yX9_child cX9_child 5 (some FieldType.int) ∈ lw_gd := gd_c5 (i := 75) rfl rfl
theorem ml_X9_202 : Cond.methodLink RX9 202 yX9_isLike ∈ lw_gd := gd_c5 (i := 76) rfl rfl
theorem sm_yX9_isLike : Cond.static yX9_isLike ∈ lw_gd := gd_c5 (i := 77) rfl rfl
theorem co_yX9_isLike : Cond.code yX9_isLike cX9_isLike 2 (some FieldType.boolean) ∈ lw_gd := gd_c5 (i := 78) rfl rfl
theorem ml_L_34 : Cond.methodLink RL 34 yX9_childOf ∈ lw_gd := gd_c5 (i := 79) rfl rfl
theorem im_yX9_childOf : Cond.instanceMethod yX9_childOf ∈ lw_gd := gd_c5 (i := 80) rfl rfl
theorem se_yX9_childOf : Cond.selects RX9 yX9_childOf yX9_childOf ∈ lw_gd := gd_c5 (i := 81) rfl rfl
theorem co_yX9_childOf : Cond.code yX9_childOf cX9_childOf 3 (some FieldType.int) ∈ lw_gd := gd_c5 (i := 82) rfl rfl
theorem ml_X9_206 : Cond.methodLink RX9 206 yX9_isChild ∈ lw_gd := gd_c5 (i := 83) rfl rfl
theorem im_yX9_isChild : Cond.instanceMethod yX9_isChild ∈ lw_gd := gd_c5 (i := 85) rfl rfl
theorem co_yX9_isChild : Cond.code yX9_isChild cX9_isChild 2 (some FieldType.boolean) ∈ lw_gd := gd_c5 (i := 86) rfl rfl
theorem ml_X9_209 : Cond.methodLink RX9 209 yX9_its ∈ lw_gd := gd_c5 (i := 87) rfl rfl
theorem im_yX9_its : Cond.instanceMethod yX9_its ∈ lw_gd := gd_c5 (i := 89) rfl rfl
theorem co_yX9_its : Cond.code yX9_its cX9_its 3 (some FieldType.int) ∈ lw_gd := gd_c5 (i := 90) rfl rfl
theorem ml_L_39 : Cond.methodLink RL 39 yX9_mind ∈ lw_gd := gd_c5 (i := 91) rfl rfl
theorem im_yX9_mind : Cond.instanceMethod yX9_mind ∈ lw_gd := gd_c5 (i := 92) rfl rfl
theorem se_yX9_mind : Cond.selects RX9 yX9_mind yX9_mind ∈ lw_gd := gd_c5 (i := 93) rfl rfl
theorem co_yX9_mind : Cond.code yX9_mind cX9_mind 5 (some FieldType.int) ∈ lw_gd := gd_c5 (i := 94) rfl rfl
theorem ml_L_43 : Cond.methodLink RL 43 yX9_sick ∈ lw_gd := gd_c5 (i := 95) rfl rfl
theorem im_yX9_sick : Cond.instanceMethod yX9_sick ∈ lw_gd := gd_c5 (i := 96) rfl rfl
theorem se_yX9_sick : Cond.selects RX9 yX9_sick yX9_sick ∈ lw_gd := gd_c5 (i := 97) rfl rfl
theorem co_yX9_sick : Cond.code yX9_sick cX9_sick 4 (some FieldType.int) ∈ lw_gd := gd_c5 (i := 98) rfl rfl
theorem ml_L_47 : Cond.methodLink RL 47 yX9_event ∈ lw_gd := gd_c5 (i := 99) rfl rfl
theorem im_yX9_event : Cond.instanceMethod yX9_event ∈ lw_gd := gd_c5 (i := 100) rfl rfl
theorem se_yX9_event : Cond.selects RX9 yX9_event yX9_event ∈ lw_gd := gd_c5 (i := 101) rfl rfl
theorem co_yX9_event : Cond.code yX9_event cX9_event 4 (some FieldType.int) ∈ lw_gd := gd_c5 (i := 102) rfl rfl
theorem ml_X9_212 : Cond.methodLink RX9 212 yX9_isDay ∈ lw_gd := gd_c5 (i := 103) rfl rfl
theorem sm_yX9_isDay : Cond.static yX9_isDay ∈ lw_gd := gd_c5 (i := 104) rfl rfl
theorem co_yX9_isDay : Cond.code yX9_isDay cX9_isDay 1 (some FieldType.boolean) ∈ lw_gd := gd_c5 (i := 105) rfl rfl
theorem ml_L_51 : Cond.methodLink RL 51 yX9_dayOf ∈ lw_gd := gd_c5 (i := 106) rfl rfl
theorem im_yX9_dayOf : Cond.instanceMethod yX9_dayOf ∈ lw_gd := gd_c5 (i := 107) rfl rfl
theorem se_yX9_dayOf : Cond.selects RX9 yX9_dayOf yX9_dayOf ∈ lw_gd := gd_c5 (i := 108) rfl rfl
theorem co_yX9_dayOf : Cond.code yX9_dayOf cX9_dayOf 3 (some FieldType.int) ∈ lw_gd := gd_c5 (i := 109) rfl rfl
theorem ml_L_55 : Cond.methodLink RL 55 yX9_set ∈ lw_gd := gd_c5 (i := 110) rfl rfl
theorem im_yX9_set : Cond.instanceMethod yX9_set ∈ lw_gd := gd_c5 (i := 111) rfl rfl
theorem se_yX9_set : Cond.selects RX9 yX9_set yX9_set ∈ lw_gd := gd_c5 (i := 112) rfl rfl
theorem co_yX9_set : Cond.code yX9_set cX9_set 5 (some FieldType.int) ∈ lw_gd := gd_c5 (i := 113) rfl rfl
theorem ml_L_59 : Cond.methodLink RL 59 yX9_today ∈ lw_gd := gd_c5 (i := 114) rfl rfl
theorem im_yX9_today : Cond.instanceMethod yX9_today ∈ lw_gd := gd_c5 (i := 115) rfl rfl
theorem se_yX9_today : Cond.selects RX9 yX9_today yX9_today ∈ lw_gd := gd_c5 (i := 116) rfl rfl
theorem co_yX9_today : Cond.code yX9_today cX9_today 1 (some FieldType.int) ∈ lw_gd := gd_c5 (i := 117) rfl rfl
theorem ml_L_64 : Cond.methodLink RL 64 yX9_would ∈ lw_gd := gd_c5 (i := 118) rfl rfl
theorem im_yX9_would : Cond.instanceMethod yX9_would ∈ lw_gd := gd_c5 (i := 119) rfl rfl
theorem se_yX9_would : Cond.selects RX9 yX9_would yX9_would ∈ lw_gd := gd_c5 (i := 120) rfl rfl
theorem co_yX9_would : Cond.code yX9_would cX9_would 2 (some FieldType.int) ∈ lw_gd := gd_c5 (i := 121) rfl rfl
theorem ml_X9_229 : Cond.methodLink RX9 229 yX9_wouldBe ∈ lw_gd := gd_c5 (i := 122) rfl rfl
theorem im_yX9_wouldBe : Cond.instanceMethod yX9_wouldBe ∈ lw_gd := gd_c5 (i := 124) rfl rfl
theorem co_yX9_wouldBe : Cond.code yX9_wouldBe cX9_wouldBe 2 (some FieldType.boolean) ∈ lw_gd := gd_c5 (i := 125) rfl rfl
theorem ml_X9_225 : Cond.methodLink RX9 225 yX9_isAway ∈ lw_gd := gd_c5 (i := 126) rfl rfl
theorem im_yX9_isAway : Cond.instanceMethod yX9_isAway ∈ lw_gd := gd_c5 (i := 128) rfl rfl
theorem co_yX9_isAway : Cond.code yX9_isAway cX9_isAway 8 (some FieldType.boolean) ∈ lw_gd := gd_c5 (i := 129) rfl rfl
theorem ml_X9_215 : Cond.methodLink RX9 215 yX9_has ∈ lw_gd := gd_c5 (i := 130) rfl rfl
theorem sm_yX9_has : Cond.static yX9_has ∈ lw_gd := gd_c5 (i := 131) rfl rfl
theorem co_yX9_has : Cond.code yX9_has cX9_has 2 (some FieldType.boolean) ∈ lw_gd := gd_c5 (i := 132) rfl rfl
theorem ml_X9_218 : Cond.methodLink RX9 218 yX9_staysAway ∈ lw_gd := gd_c5 (i := 133) rfl rfl
theorem im_yX9_staysAway : Cond.instanceMethod yX9_staysAway ∈ lw_gd := gd_c5 (i := 135) rfl rfl
theorem co_yX9_staysAway : Cond.code yX9_staysAway cX9_staysAway 8 (some FieldType.boolean) ∈ lw_gd := gd_c5 (i := 136) rfl rfl
theorem ml_L_68 : Cond.methodLink RL 68 yX9_days ∈ lw_gd := gd_c5 (i := 137) rfl rfl
theorem im_yX9_days : Cond.instanceMethod yX9_days ∈ lw_gd := gd_c5 (i := 138) rfl rfl
theorem se_yX9_days : Cond.selects RX9 yX9_days yX9_days ∈ lw_gd := gd_c5 (i := 139) rfl rfl
theorem co_yX9_days : Cond.code yX9_days cX9_days 5 (some FieldType.int) ∈ lw_gd := gd_c5 (i := 140) rfl rfl
theorem ml_X9_238 : Cond.methodLink RX9 238 yX9_dayGoes ∈ lw_gd := gd_c5 (i := 141) rfl rfl
theorem im_yX9_dayGoes : Cond.instanceMethod yX9_dayGoes ∈ lw_gd := gd_c5 (i := 143) rfl rfl
theorem co_yX9_dayGoes : Cond.code yX9_dayGoes cX9_dayGoes 4 (some FieldType.int) ∈ lw_gd := gd_c5 (i := 144) rfl rfl
theorem ml_X9_232 : Cond.methodLink RX9 232 yX9_sickSet ∈ lw_gd := gd_c5 (i := 145) rfl rfl
theorem im_yX9_sickSet : Cond.instanceMethod yX9_sickSet ∈ lw_gd := gd_c5 (i := 147) rfl rfl
theorem co_yX9_sickSet : Cond.code yX9_sickSet cX9_sickSet 3 (some FieldType.int) ∈ lw_gd := gd_c5 (i := 148) rfl rfl
theorem ml_X9_235 : Cond.methodLink RX9 235 yX9_catches ∈ lw_gd := gd_c5 (i := 149) rfl rfl
theorem im_yX9_catches : Cond.instanceMethod yX9_catches ∈ lw_gd := gd_c5 (i := 151) rfl rfl
theorem co_yX9_catches : Cond.code yX9_catches cX9_catches 6 (some FieldType.boolean) ∈ lw_gd := gd_c5 (i := 152) rfl rfl
theorem ml_L_72 : Cond.methodLink RL 72 yX9_knock ∈ lw_gd := gd_c5 (i := 153) rfl rfl
theorem im_yX9_knock : Cond.instanceMethod yX9_knock ∈ lw_gd := gd_c5 (i := 154) rfl rfl
theorem se_yX9_knock : Cond.selects RX9 yX9_knock yX9_knock ∈ lw_gd := gd_c5 (i := 155) rfl rfl
theorem co_yX9_knock : Cond.code yX9_knock cX9_knock 2 (some FieldType.int) ∈ lw_gd := gd_c5 (i := 156) rfl rfl
theorem ml_X9_241 : Cond.methodLink RX9 241 yX9_knocks ∈ lw_gd := gd_c5 (i := 157) rfl rfl
theorem im_yX9_knocks : Cond.instanceMethod yX9_knocks ∈ lw_gd := gd_c5 (i := 159) rfl rfl
theorem co_yX9_knocks : Cond.code yX9_knocks cX9_knocks 4 (some FieldType.int) ∈ lw_gd := gd_c5 (i := 160) rfl rfl
theorem ml_L_77 : Cond.methodLink RL 77 yX9_write ∈ lw_gd := gd_c5 (i := 161) rfl rfl
theorem im_yX9_write : Cond.instanceMethod yX9_write ∈ lw_gd := gd_c5 (i := 162) rfl rfl
theorem se_yX9_write : Cond.selects RX9 yX9_write yX9_write ∈ lw_gd := gd_c5 (i := 163) rfl rfl
theorem co_yX9_write : Cond.code yX9_write cX9_write 4 (some FieldType.int) ∈ lw_gd := gd_c5 (i := 164) rfl rfl
theorem ml_L_81 : Cond.methodLink RL 81 yX9_marks ∈ lw_gd := gd_c5 (i := 165) rfl rfl
theorem im_yX9_marks : Cond.instanceMethod yX9_marks ∈ lw_gd := gd_c5 (i := 166) rfl rfl
theorem se_yX9_marks : Cond.selects RX9 yX9_marks yX9_marks ∈ lw_gd := gd_c5 (i := 167) rfl rfl
theorem co_yX9_marks : Cond.code yX9_marks cX9_marks 4 (some FieldType.int) ∈ lw_gd := gd_c5 (i := 168) rfl rfl
theorem ml_L_85 : Cond.methodLink RL 85 yX9_wrong ∈ lw_gd := gd_c5 (i := 169) rfl rfl
theorem im_yX9_wrong : Cond.instanceMethod yX9_wrong ∈ lw_gd := gd_c5 (i := 170) rfl rfl
theorem se_yX9_wrong : Cond.selects RX9 yX9_wrong yX9_wrong ∈ lw_gd := gd_c5 (i := 171) rfl rfl
theorem co_yX9_wrong : Cond.code yX9_wrong cX9_wrong 6 (some FieldType.int) ∈ lw_gd := gd_c5 (i := 172) rfl rfl
theorem ml_X9_244 : Cond.methodLink RX9 244 yX9_ones ∈ lw_gd := gd_c5 (i := 173) rfl rfl
theorem sm_yX9_ones : Cond.static yX9_ones ∈ lw_gd := gd_c5 (i := 174) rfl rfl
theorem co_yX9_ones : Cond.code yX9_ones cX9_ones 3 (some FieldType.int) ∈ lw_gd := gd_c5 (i := 175) rfl rfl
theorem ml_L_89 : Cond.methodLink RL 89 yX9_longest ∈ lw_gd := gd_c5 (i := 176) rfl rfl
theorem im_yX9_longest : Cond.instanceMethod yX9_longest ∈ lw_gd := gd_c5 (i := 177) rfl rfl
theorem se_yX9_longest : Cond.selects RX9 yX9_longest yX9_longest ∈ lw_gd := gd_c5 (i := 178) rfl rfl
theorem co_yX9_longest : Cond.code yX9_longest cX9_longest 5 (some FieldType.int) ∈ lw_gd := gd_c5 (i := 179) rfl rfl
theorem ml_L_93 : Cond.methodLink RL 93 yX9_there ∈ lw_gd := gd_c5 (i := 180) rfl rfl
theorem im_yX9_there : Cond.instanceMethod yX9_there ∈ lw_gd := gd_c5 (i := 181) rfl rfl
theorem se_yX9_there : Cond.selects RX9 yX9_there yX9_there ∈ lw_gd := gd_c5 (i := 182) rfl rfl
theorem co_yX9_there : Cond.code yX9_there cX9_there 3 (some FieldType.int) ∈ lw_gd := gd_c5 (i := 183) rfl rfl
theorem ml_X9_247 : Cond.methodLink RX9 247 yX9_lends ∈ lw_gd := gd_c5 (i := 184) rfl rfl
theorem im_yX9_lends : Cond.instanceMethod yX9_lends ∈ lw_gd := gd_c5 (i := 186) rfl rfl
theorem co_yX9_lends : Cond.code yX9_lends cX9_lends 2 (none : Option FieldType) ∈ lw_gd := gd_c5 (i := 187) rfl rfl
theorem ml_X9_250 : Cond.methodLink RX9 250 yX9_comes ∈ lw_gd := gd_c5 (i := 188) rfl rfl
theorem im_yX9_comes : Cond.instanceMethod yX9_comes ∈ lw_gd := gd_c5 (i := 190) rfl rfl
theorem co_yX9_comes : Cond.code yX9_comes cX9_comes 4 (some FieldType.int) ∈ lw_gd := gd_c5 (i := 191) rfl rfl
theorem ml_L_97 : Cond.methodLink RL 97 yX9_round ∈ lw_gd := gd_c5 (i := 192) rfl rfl
theorem im_yX9_round : Cond.instanceMethod yX9_round ∈ lw_gd := gd_c5 (i := 193) rfl rfl
theorem se_yX9_round : Cond.selects RX9 yX9_round yX9_round ∈ lw_gd := gd_c5 (i := 194) rfl rfl
theorem co_yX9_round : Cond.code yX9_round cX9_round 9 (some FieldType.int) ∈ lw_gd := gd_c5 (i := 195) rfl rfl
theorem ml_L_101 : Cond.methodLink RL 101 yX9_good ∈ lw_gd := gd_c5 (i := 196) rfl rfl
theorem im_yX9_good : Cond.instanceMethod yX9_good ∈ lw_gd := gd_c5 (i := 197) rfl rfl
theorem se_yX9_good : Cond.selects RX9 yX9_good yX9_good ∈ lw_gd := gd_c5 (i := 198) rfl rfl
theorem co_yX9_good : Cond.code yX9_good cX9_good 4 (some FieldType.int) ∈ lw_gd := gd_c5 (i := 199) rfl rfl
theorem ml_L_105 : Cond.methodLink RL 105 yX9_meet ∈ lw_gd := gd_c5 (i := 200) rfl rfl
theorem im_yX9_meet : Cond.instanceMethod yX9_meet ∈ lw_gd := gd_c5 (i := 201) rfl rfl
theorem se_yX9_meet : Cond.selects RX9 yX9_meet yX9_meet ∈ lw_gd := gd_c5 (i := 202) rfl rfl
theorem co_yX9_meet : Cond.code yX9_meet cX9_meet 7 (some FieldType.int) ∈ lw_gd := gd_c5 (i := 203) rfl rfl
theorem ml_L_109 : Cond.methodLink RL 109 yX9_least ∈ lw_gd := gd_c5 (i := 204) rfl rfl
theorem im_yX9_least : Cond.instanceMethod yX9_least ∈ lw_gd := gd_c5 (i := 205) rfl rfl
theorem se_yX9_least : Cond.selects RX9 yX9_least yX9_least ∈ lw_gd := gd_c5 (i := 206) rfl rfl
theorem co_yX9_least : Cond.code yX9_least cX9_least 6 (some FieldType.int) ∈ lw_gd := gd_c5 (i := 207) rfl rfl
theorem ml_L_113 : Cond.methodLink RL 113 yX9_fits ∈ lw_gd := gd_c5 (i := 208) rfl rfl
theorem im_yX9_fits : Cond.instanceMethod yX9_fits ∈ lw_gd := gd_c5 (i := 209) rfl rfl
theorem se_yX9_fits : Cond.selects RX9 yX9_fits yX9_fits ∈ lw_gd := gd_c5 (i := 210) rfl rfl
theorem co_yX9_fits : Cond.code yX9_fits cX9_fits 5 (some FieldType.int) ∈ lw_gd := gd_c5 (i := 211) rfl rfl
theorem ml_X9_253 : Cond.methodLink RX9 253 yX9_isOf ∈ lw_gd := gd_c5 (i := 212) rfl rfl
theorem im_yX9_isOf : Cond.instanceMethod yX9_isOf ∈ lw_gd := gd_c5 (i := 214) rfl rfl
theorem co_yX9_isOf : Cond.code yX9_isOf cX9_isOf 9 (some FieldType.boolean) ∈ lw_gd := gd_c5 (i := 215) rfl rfl
theorem ml_L_117 : Cond.methodLink RL 117 yX9_seed ∈ lw_gd := gd_c5 (i := 216) rfl rfl
theorem im_yX9_seed : Cond.instanceMethod yX9_seed ∈ lw_gd := gd_c5 (i := 217) rfl rfl
theorem se_yX9_seed : Cond.selects RX9 yX9_seed yX9_seed ∈ lw_gd := gd_c5 (i := 218) rfl rfl
theorem co_yX9_seed : Cond.code yX9_seed cX9_seed 3 (some FieldType.int) ∈ lw_gd := gd_c5 (i := 219) rfl rfl
theorem ml_L_121 : Cond.methodLink RL 121 yX9_draw ∈ lw_gd := gd_c5 (i := 220) rfl rfl
theorem im_yX9_draw : Cond.instanceMethod yX9_draw ∈ lw_gd := gd_c5 (i := 221) rfl rfl
theorem se_yX9_draw : Cond.selects RX9 yX9_draw yX9_draw ∈ lw_gd := gd_c5 (i := 222) rfl rfl
theorem co_yX9_draw : Cond.code yX9_draw cX9_draw 4 (some FieldType.int) ∈ lw_gd := gd_c5 (i := 223) rfl rfl
theorem cn_X9_256 : Cond.constant RX9 256 (1103515245 : Int32) ∈ lw_gd := gd_c5 (i := 224) rfl rfl
theorem ml_L_125 : Cond.methodLink RL 125 yX9_prove ∈ lw_gd := gd_c5 (i := 225) rfl rfl
theorem im_yX9_prove : Cond.instanceMethod yX9_prove ∈ lw_gd := gd_c5 (i := 226) rfl rfl
theorem se_yX9_prove : Cond.selects RX9 yX9_prove yX9_prove ∈ lw_gd := gd_c5 (i := 227) rfl rfl
theorem co_yX9_prove : Cond.code yX9_prove cX9_prove 3 (some FieldType.int) ∈ lw_gd := gd_c5 (i := 228) rfl rfl
theorem ml_X9_260 : Cond.methodLink RX9 260 yX9_findRows ∈ lw_gd := gd_c5 (i := 229) rfl rfl
theorem im_yX9_findRows : Cond.instanceMethod yX9_findRows ∈ lw_gd := gd_c5 (i := 231) rfl rfl
theorem co_yX9_findRows : Cond.code yX9_findRows cX9_findRows 2 (none : Option FieldType) ∈ lw_gd := gd_c5 (i := 232) rfl rfl
theorem ml_L_129 : Cond.methodLink RL 129 yX9_row ∈ lw_gd := gd_c5 (i := 233) rfl rfl
theorem im_yX9_row : Cond.instanceMethod yX9_row ∈ lw_gd := gd_c5 (i := 234) rfl rfl
theorem se_yX9_row : Cond.selects RX9 yX9_row yX9_row ∈ lw_gd := gd_c5 (i := 235) rfl rfl
theorem co_yX9_row : Cond.code yX9_row cX9_row 3 (some FieldType.int) ∈ lw_gd := gd_c5 (i := 236) rfl rfl
theorem ml_X9_263 : Cond.methodLink RX9 263 yX9_isRow ∈ lw_gd := gd_c5 (i := 237) rfl rfl
theorem im_yX9_isRow : Cond.instanceMethod yX9_isRow ∈ lw_gd := gd_c5 (i := 239) rfl rfl
theorem co_yX9_isRow : Cond.code yX9_isRow cX9_isRow 3 (some FieldType.boolean) ∈ lw_gd := gd_c6 (i := 0) rfl rfl
theorem ml_L_133 : Cond.methodLink RL 133 yX9_alterRow ∈ lw_gd := gd_c6 (i := 1) rfl rfl
theorem im_yX9_alterRow : Cond.instanceMethod yX9_alterRow ∈ lw_gd := gd_c6 (i := 2) rfl rfl
theorem se_yX9_alterRow : Cond.selects RX9 yX9_alterRow yX9_alterRow ∈ lw_gd := gd_c6 (i := 3) rfl rfl
theorem co_yX9_alterRow : Cond.code yX9_alterRow cX9_alterRow 5 (some FieldType.int) ∈ lw_gd := gd_c6 (i := 4) rfl rfl
theorem ml_L_137 : Cond.methodLink RL 137 yX9_judge ∈ lw_gd := gd_c6 (i := 5) rfl rfl
theorem im_yX9_judge : Cond.instanceMethod yX9_judge ∈ lw_gd := gd_c6 (i := 6) rfl rfl
theorem se_yX9_judge : Cond.selects RX9 yX9_judge yX9_judge ∈ lw_gd := gd_c6 (i := 7) rfl rfl
theorem co_yX9_judge : Cond.code yX9_judge cX9_judge 4 (some FieldType.int) ∈ lw_gd := gd_c6 (i := 8) rfl rfl
theorem ml_L_141 : Cond.methodLink RL 141 yX9_events ∈ lw_gd := gd_c6 (i := 9) rfl rfl
theorem im_yX9_events : Cond.instanceMethod yX9_events ∈ lw_gd := gd_c6 (i := 10) rfl rfl
theorem se_yX9_events : Cond.selects RX9 yX9_events yX9_events ∈ lw_gd := gd_c6 (i := 11) rfl rfl
theorem co_yX9_events : Cond.code yX9_events cX9_events 7 (some FieldType.int) ∈ lw_gd := gd_c6 (i := 12) rfl rfl
theorem ml_X9_266 : Cond.methodLink RX9 266 yX9_isShelf ∈ lw_gd := gd_c6 (i := 13) rfl rfl
theorem sm_yX9_isShelf : Cond.static yX9_isShelf ∈ lw_gd := gd_c6 (i := 14) rfl rfl
theorem co_yX9_isShelf : Cond.code yX9_isShelf cX9_isShelf 1 (some FieldType.boolean) ∈ lw_gd := gd_c6 (i := 15) rfl rfl
theorem ml_X9_269 : Cond.methodLink RX9 269 yX9_lacksSort ∈ lw_gd := gd_c6 (i := 16) rfl rfl
theorem im_yX9_lacksSort : Cond.instanceMethod yX9_lacksSort ∈ lw_gd := gd_c6 (i := 18) rfl rfl
theorem co_yX9_lacksSort : Cond.code yX9_lacksSort cX9_lacksSort 3 (some FieldType.int) ∈ lw_gd := gd_c6 (i := 19) rfl rfl
theorem cn_X9_272 : Cond.constantLong RX9 272 (31 : Int64) ∈ lw_gd := gd_c6 (i := 20) rfl rfl
theorem ml_L_145 : Cond.methodLink RL 145 yX9_sheet ∈ lw_gd := gd_c6 (i := 21) rfl rfl
theorem im_yX9_sheet : Cond.instanceMethod yX9_sheet ∈ lw_gd := gd_c6 (i := 22) rfl rfl
theorem se_yX9_sheet : Cond.selects RX9 yX9_sheet yX9_sheet ∈ lw_gd := gd_c6 (i := 23) rfl rfl
theorem co_yX9_sheet : Cond.code yX9_sheet cX9_sheet 5 (some FieldType.int) ∈ lw_gd := gd_c6 (i := 24) rfl rfl
theorem ml_L_149 : Cond.methodLink RL 149 yX9_put ∈ lw_gd := gd_c6 (i := 25) rfl rfl
theorem im_yX9_put : Cond.instanceMethod yX9_put ∈ lw_gd := gd_c6 (i := 26) rfl rfl
theorem se_yX9_put : Cond.selects RX9 yX9_put yX9_put ∈ lw_gd := gd_c6 (i := 27) rfl rfl
theorem co_yX9_put : Cond.code yX9_put cX9_put 4 (some FieldType.int) ∈ lw_gd := gd_c6 (i := 28) rfl rfl
theorem ml_L_153 : Cond.methodLink RL 153 yX9_item ∈ lw_gd := gd_c6 (i := 29) rfl rfl
theorem im_yX9_item : Cond.instanceMethod yX9_item ∈ lw_gd := gd_c6 (i := 30) rfl rfl
theorem se_yX9_item : Cond.selects RX9 yX9_item yX9_item ∈ lw_gd := gd_c6 (i := 31) rfl rfl
theorem co_yX9_item : Cond.code yX9_item cX9_item 5 (some FieldType.int) ∈ lw_gd := gd_c6 (i := 32) rfl rfl
theorem ml_L_157 : Cond.methodLink RL 157 yX9_shelf ∈ lw_gd := gd_c6 (i := 33) rfl rfl
theorem im_yX9_shelf : Cond.instanceMethod yX9_shelf ∈ lw_gd := gd_c6 (i := 34) rfl rfl
theorem se_yX9_shelf : Cond.selects RX9 yX9_shelf yX9_shelf ∈ lw_gd := gd_c6 (i := 35) rfl rfl
theorem co_yX9_shelf : Cond.code yX9_shelf cX9_shelf 4 (some FieldType.int) ∈ lw_gd := gd_c6 (i := 36) rfl rfl
theorem ml_X9_274 : Cond.methodLink RX9 274 yX9_isHeld ∈ lw_gd := gd_c6 (i := 37) rfl rfl
theorem im_yX9_isHeld : Cond.instanceMethod yX9_isHeld ∈ lw_gd := gd_c6 (i := 39) rfl rfl
theorem co_yX9_isHeld : Cond.code yX9_isHeld cX9_isHeld 3 (some FieldType.boolean) ∈ lw_gd := gd_c6 (i := 40) rfl rfl
theorem ml_L_161 : Cond.methodLink RL 161 yX9_taken ∈ lw_gd := gd_c6 (i := 41) rfl rfl
theorem im_yX9_taken : Cond.instanceMethod yX9_taken ∈ lw_gd := gd_c6 (i := 42) rfl rfl
theorem se_yX9_taken : Cond.selects RX9 yX9_taken yX9_taken ∈ lw_gd := gd_c6 (i := 43) rfl rfl
theorem co_yX9_taken : Cond.code yX9_taken cX9_taken 4 (some FieldType.int) ∈ lw_gd := gd_c6 (i := 44) rfl rfl
theorem ml_X9_277 : Cond.methodLink RX9 277 yX9_kindOn ∈ lw_gd := gd_c6 (i := 45) rfl rfl
theorem im_yX9_kindOn : Cond.instanceMethod yX9_kindOn ∈ lw_gd := gd_c6 (i := 47) rfl rfl
theorem co_yX9_kindOn : Cond.code yX9_kindOn cX9_kindOn 2 (some FieldType.int) ∈ lw_gd := gd_c6 (i := 48) rfl rfl
theorem ml_X9_280 : Cond.methodLink RX9 280 yX9_isUnder ∈ lw_gd := gd_c6 (i := 49) rfl rfl
theorem sm_yX9_isUnder : Cond.static yX9_isUnder ∈ lw_gd := gd_c6 (i := 50) rfl rfl
theorem co_yX9_isUnder : Cond.code yX9_isUnder cX9_isUnder 2 (some FieldType.boolean) ∈ lw_gd := gd_c6 (i := 51) rfl rfl
theorem ml_L_165 : Cond.methodLink RL 165 yX9_act ∈ lw_gd := gd_c6 (i := 52) rfl rfl
theorem im_yX9_act : Cond.instanceMethod yX9_act ∈ lw_gd := gd_c6 (i := 53) rfl rfl
theorem se_yX9_act : Cond.selects RX9 yX9_act yX9_act ∈ lw_gd := gd_c6 (i := 54) rfl rfl
theorem co_yX9_act : Cond.code yX9_act cX9_act 6 (some FieldType.int) ∈ lw_gd := gd_c6 (i := 55) rfl rfl
theorem ml_X9_301 : Cond.methodLink RX9 301 yX9_knocksIt ∈ lw_gd := gd_c6 (i := 56) rfl rfl
theorem im_yX9_knocksIt : Cond.instanceMethod yX9_knocksIt ∈ lw_gd := gd_c6 (i := 58) rfl rfl
theorem co_yX9_knocksIt : Cond.code yX9_knocksIt cX9_knocksIt 2 (some FieldType.int) ∈ lw_gd := gd_c6 (i := 59) rfl rfl
theorem ml_X9_298 : Cond.methodLink RX9 298 yX9_illKnocks ∈ lw_gd := gd_c6 (i := 60) rfl rfl
theorem im_yX9_illKnocks : Cond.instanceMethod yX9_illKnocks ∈ lw_gd := gd_c6 (i := 62) rfl rfl
theorem co_yX9_illKnocks : Cond.code yX9_illKnocks cX9_illKnocks 2 (some FieldType.int) ∈ lw_gd := gd_c6 (i := 63) rfl rfl
theorem ml_X9_286 : Cond.methodLink RX9 286 yX9_ran ∈ lw_gd := gd_c6 (i := 64) rfl rfl
theorem im_yX9_ran : Cond.instanceMethod yX9_ran ∈ lw_gd := gd_c6 (i := 66) rfl rfl
theorem co_yX9_ran : Cond.code yX9_ran cX9_ran 2 (none : Option FieldType) ∈ lw_gd := gd_c6 (i := 67) rfl rfl
theorem ml_X9_292 : Cond.methodLink RX9 292 yX9_plainKnocks ∈ lw_gd := gd_c6 (i := 68) rfl rfl
theorem im_yX9_plainKnocks : Cond.instanceMethod yX9_plainKnocks ∈ lw_gd := gd_c6 (i := 70) rfl rfl
theorem co_yX9_plainKnocks : Cond.code yX9_plainKnocks cX9_plainKnocks 2 (some FieldType.int) ∈ lw_gd := gd_c6 (i := 71) rfl rfl
theorem ml_X9_316 : Cond.methodLink RX9 316 yX9_crossesIt ∈ lw_gd := gd_c6 (i := 72) rfl rfl
theorem im_yX9_crossesIt : Cond.instanceMethod yX9_crossesIt ∈ lw_gd := gd_c6 (i := 74) rfl rfl
theorem co_yX9_crossesIt : Cond.code yX9_crossesIt cX9_crossesIt 3 (some FieldType.int) ∈ lw_gd := gd_c6 (i := 75) rfl rfl
theorem ml_X9_304 : Cond.methodLink RX9 304 yX9_plainCrosses ∈ lw_gd := gd_c6 (i := 76) rfl rfl
theorem im_yX9_plainCrosses : Cond.instanceMethod yX9_plainCrosses ∈ lw_gd := gd_c6 (i := 78) rfl rfl
theorem co_yX9_plainCrosses : Cond.code yX9_plainCrosses cX9_plainCrosses 2 (some FieldType.int) ∈ lw_gd := gd_c6 (i := 79) rfl rfl
theorem ml_X9_322 : Cond.methodLink RX9 322 yX9_sharesIt ∈ lw_gd := gd_c6 (i := 80) rfl rfl
theorem im_yX9_sharesIt : Cond.instanceMethod yX9_sharesIt ∈ lw_gd := gd_c6 (i := 82) rfl rfl
theorem co_yX9_sharesIt : Cond.code yX9_sharesIt cX9_sharesIt 3 (some FieldType.int) ∈ lw_gd := gd_c6 (i := 83) rfl rfl
theorem ml_X9_313 : Cond.methodLink RX9 313 yX9_plainShares ∈ lw_gd := gd_c6 (i := 84) rfl rfl
theorem im_yX9_plainShares : Cond.instanceMethod yX9_plainShares ∈ lw_gd := gd_c6 (i := 86) rfl rfl
theorem co_yX9_plainShares : Cond.code yX9_plainShares cX9_plainShares 2 (some FieldType.int) ∈ lw_gd := gd_c6 (i := 87) rfl rfl
theorem ml_X9_325 : Cond.methodLink RX9 325 yX9_tellsIt ∈ lw_gd := gd_c6 (i := 88) rfl rfl
theorem im_yX9_tellsIt : Cond.instanceMethod yX9_tellsIt ∈ lw_gd := gd_c6 (i := 90) rfl rfl
theorem co_yX9_tellsIt : Cond.code yX9_tellsIt cX9_tellsIt 3 (some FieldType.int) ∈ lw_gd := gd_c6 (i := 91) rfl rfl
theorem ml_X9_319 : Cond.methodLink RX9 319 yX9_plainTells ∈ lw_gd := gd_c6 (i := 92) rfl rfl
theorem im_yX9_plainTells : Cond.instanceMethod yX9_plainTells ∈ lw_gd := gd_c6 (i := 94) rfl rfl
theorem co_yX9_plainTells : Cond.code yX9_plainTells cX9_plainTells 2 (some FieldType.int) ∈ lw_gd := gd_c6 (i := 95) rfl rfl
theorem ml_L_169 : Cond.methodLink RL 169 yX9_trace ∈ lw_gd := gd_c6 (i := 96) rfl rfl
theorem im_yX9_trace : Cond.instanceMethod yX9_trace ∈ lw_gd := gd_c6 (i := 97) rfl rfl
theorem se_yX9_trace : Cond.selects RX9 yX9_trace yX9_trace ∈ lw_gd := gd_c6 (i := 98) rfl rfl
theorem co_yX9_trace : Cond.code yX9_trace cX9_trace 2 (some FieldType.int) ∈ lw_gd := gd_c6 (i := 99) rfl rfl
theorem ml_L_173 : Cond.methodLink RL 173 yX9_many ∈ lw_gd := gd_c6 (i := 100) rfl rfl
theorem im_yX9_many : Cond.instanceMethod yX9_many ∈ lw_gd := gd_c6 (i := 101) rfl rfl
theorem se_yX9_many : Cond.selects RX9 yX9_many yX9_many ∈ lw_gd := gd_c6 (i := 102) rfl rfl
theorem co_yX9_many : Cond.code yX9_many cX9_many 4 (some FieldType.int) ∈ lw_gd := gd_c6 (i := 103) rfl rfl
theorem ml_L_177 : Cond.methodLink RL 177 yX9_keep ∈ lw_gd := gd_c6 (i := 104) rfl rfl
theorem im_yX9_keep : Cond.instanceMethod yX9_keep ∈ lw_gd := gd_c6 (i := 105) rfl rfl
theorem se_yX9_keep : Cond.selects RX9 yX9_keep yX9_keep ∈ lw_gd := gd_c6 (i := 106) rfl rfl
theorem co_yX9_keep : Cond.code yX9_keep cX9_keep 1 (some FieldType.int) ∈ lw_gd := gd_c6 (i := 107) rfl rfl
theorem ml_X9_335 : Cond.methodLink RX9 335 yX9_moveAll ∈ lw_gd := gd_c6 (i := 108) rfl rfl
theorem im_yX9_moveAll : Cond.instanceMethod yX9_moveAll ∈ lw_gd := gd_c6 (i := 110) rfl rfl
theorem co_yX9_moveAll : Cond.code yX9_moveAll cX9_moveAll 2 (none : Option FieldType) ∈ lw_gd := gd_c6 (i := 111) rfl rfl
theorem ml_X9_331 : Cond.methodLink RX9 331 yX9_moveRow ∈ lw_gd := gd_c6 (i := 112) rfl rfl
theorem im_yX9_moveRow : Cond.instanceMethod yX9_moveRow ∈ lw_gd := gd_c6 (i := 114) rfl rfl
theorem co_yX9_moveRow : Cond.code yX9_moveRow cX9_moveRow 5 (none : Option FieldType) ∈ lw_gd := gd_c6 (i := 115) rfl rfl
theorem ml_L_181 : Cond.methodLink RL 181 yX9_again ∈ lw_gd := gd_c6 (i := 116) rfl rfl
theorem im_yX9_again : Cond.instanceMethod yX9_again ∈ lw_gd := gd_c6 (i := 117) rfl rfl
theorem se_yX9_again : Cond.selects RX9 yX9_again yX9_again ∈ lw_gd := gd_c6 (i := 118) rfl rfl
theorem co_yX9_again : Cond.code yX9_again cX9_again 1 (some FieldType.int) ∈ lw_gd := gd_c6 (i := 119) rfl rfl
theorem cn_L_13 : Cond.constantLong RL 13 (4294967295 : Int64) ∈ lw_gd := gd_c6 (i := 120) rfl rfl
theorem fl_J0_9 : Cond.fieldLink RJ0 9 "java/lang/String" "value" "[B" ∈ lw_gd := gd_c6 (i := 121) rfl rfl
theorem fl_J0_15 : Cond.fieldLink RJ0 15 "java/lang/String" "coder" "B" ∈ lw_gd := gd_c6 (i := 122) rfl rfl
/-- the words of private members of nest mates -/
def nwl : List Cond := [Cond.methodLinkNest RX2 57 yX0_init "CrossBook", Cond.fieldLinkNest RX2 62 "CrossBook" "FIRST_LAWS" "[I" "CrossBook", Cond.methodLinkNest RX8 25 yX7_init "CrossBook", Cond.methodLinkNest RX8 32 yX5_init "CrossBook", Cond.methodLinkNest RX8 39 yX1_init "CrossBook", Cond.methodLinkNest RX8 58 yX6_init "CrossBook", Cond.methodLinkNest RX8 63 yX3_init "CrossBook", Cond.methodLinkNest RX8 64 yX4_init "CrossBook", Cond.fieldLinkNest RX5 66 "CrossBook" "LOWEST_LAWS" "[I" "CrossBook", Cond.fieldLinkNest RX5 69 "CrossBook" "HIGHEST_LAWS" "[I" "CrossBook", Cond.methodLinkNest RX5 88 yX8_isKind "CrossBook", Cond.methodLinkNest RX6 44 yX8_isKind "CrossBook", Cond.fieldLinkNest RX6 51 "CrossBook" "ABOVE" "[I" "CrossBook"]
theorem nwl_in : ∀ w ∈ nwl, w ∈ lw_tbl := by
  intro w hw
  simp only [nwl, List.mem_cons, List.not_mem_nil, or_false] at hw
  rcases hw with rfl | rfl | rfl | rfl | rfl | rfl | rfl | rfl | rfl | rfl | rfl | rfl | rfl
  · exact tb_c1 (List.mem_of_getElem? (i := 34) rfl)
  · exact tb_c1 (List.mem_of_getElem? (i := 76) rfl)
  · exact tb_c1 (List.mem_of_getElem? (i := 147) rfl)
  · exact tb_c1 (List.mem_of_getElem? (i := 159) rfl)
  · exact tb_c1 (List.mem_of_getElem? (i := 189) rfl)
  · exact tb_c1 (List.mem_of_getElem? (i := 209) rfl)
  · exact tb_c1 (List.mem_of_getElem? (i := 235) rfl)
  · exact tb_c2 (List.mem_of_getElem? (i := 14) rfl)
  · exact tb_c2 (List.mem_of_getElem? (i := 178) rfl)
  · exact tb_c2 (List.mem_of_getElem? (i := 180) rfl)
  · exact tb_c2 (List.mem_of_getElem? (i := 186) rfl)
  · exact tb_c4 (List.mem_of_getElem? (i := 64) rfl)
  · exact tb_c4 (List.mem_of_getElem? (i := 67) rfl)
theorem ml_X2_57 : Cond.methodLinkNest RX2 57 yX0_init "CrossBook" ∈ nwl := List.mem_of_getElem? (i := 0) rfl
theorem fl_X2_62 : Cond.fieldLinkNest RX2 62 "CrossBook" "FIRST_LAWS" "[I" "CrossBook" ∈ nwl := List.mem_of_getElem? (i := 1) rfl
theorem ml_X8_25 : Cond.methodLinkNest RX8 25 yX7_init "CrossBook" ∈ nwl := List.mem_of_getElem? (i := 2) rfl
theorem ml_X8_32 : Cond.methodLinkNest RX8 32 yX5_init "CrossBook" ∈ nwl := List.mem_of_getElem? (i := 3) rfl
theorem ml_X8_39 : Cond.methodLinkNest RX8 39 yX1_init "CrossBook" ∈ nwl := List.mem_of_getElem? (i := 4) rfl
theorem ml_X8_58 : Cond.methodLinkNest RX8 58 yX6_init "CrossBook" ∈ nwl := List.mem_of_getElem? (i := 5) rfl
theorem ml_X8_63 : Cond.methodLinkNest RX8 63 yX3_init "CrossBook" ∈ nwl := List.mem_of_getElem? (i := 6) rfl
theorem ml_X8_64 : Cond.methodLinkNest RX8 64 yX4_init "CrossBook" ∈ nwl := List.mem_of_getElem? (i := 7) rfl
theorem fl_X5_66 : Cond.fieldLinkNest RX5 66 "CrossBook" "LOWEST_LAWS" "[I" "CrossBook" ∈ nwl := List.mem_of_getElem? (i := 8) rfl
theorem fl_X5_69 : Cond.fieldLinkNest RX5 69 "CrossBook" "HIGHEST_LAWS" "[I" "CrossBook" ∈ nwl := List.mem_of_getElem? (i := 9) rfl
theorem ml_X5_88 : Cond.methodLinkNest RX5 88 yX8_isKind "CrossBook" ∈ nwl := List.mem_of_getElem? (i := 10) rfl
theorem ml_X6_44 : Cond.methodLinkNest RX6 44 yX8_isKind "CrossBook" ∈ nwl := List.mem_of_getElem? (i := 11) rfl
theorem fl_X6_51 : Cond.fieldLinkNest RX6 51 "CrossBook" "ABOVE" "[I" "CrossBook" ∈ nwl := List.mem_of_getElem? (i := 12) rfl


theorem aT {w : Cond} (h : w ∈ tables_1) (g : goodWord w = true) : w ∈ AW := AW_of (List.mem_append_right _ h) g
theorem aP {w : Cond} (h : w ∈ k2_sels lw_privs) (g : goodWord w = true) : w ∈ AW := AW_of (List.mem_append_left _ h) g
theorem aT1 {w : Cond} (h : w ∈ tables_1_1) (g : goodWord w = true) : w ∈ AW := aT (List.mem_append_left _ h) g
theorem aT2 {w : Cond} (h : w ∈ tables_1_2) (g : goodWord w = true) : w ∈ AW := aT (List.mem_append_right _ (List.mem_append_left _ h)) g
theorem aT3 {w : Cond} (h : w ∈ tables_1_3) (g : goodWord w = true) : w ∈ AW := aT (List.mem_append_right _ (List.mem_append_right _ (h))) g
theorem w_0 : Cond.constant RJ6 265 1431655765 ∈ AW := aT2 (List.mem_of_getElem? (i := 180) rfl) (by decide +kernel)
theorem w_1 : Cond.constant RJ6 266 858993459 ∈ AW := aT2 (List.mem_of_getElem? (i := 181) rfl) (by decide +kernel)
theorem w_2 : Cond.constant RJ6 267 252645135 ∈ AW := aT2 (List.mem_of_getElem? (i := 182) rfl) (by decide +kernel)
theorem w_3 : Cond.fieldLink RX1 9 "SevenAsks$BedLaying" "busyUntil" "[I" ∈ AW := aT1 (List.mem_of_getElem? (i := 116) rfl) (by decide +kernel)
theorem w_4 : Cond.methodLink RX1 15 yJ7_fill_53178 ∈ AW := aT3 (List.mem_of_getElem? (i := 74) rfl) (by decide +kernel)
theorem w_5 : Cond.static yJ7_fill_53178 ∈ AW := aT1 (List.mem_of_getElem? (i := 63) rfl) (by decide +kernel)
theorem w_6 : Cond.initialized RJ7 ∈ AW := aT1 (List.mem_of_getElem? (i := 6) rfl) (by decide +kernel)
theorem w_7 : Cond.code yJ7_fill_53178 cJ7_fill_53178 4 none ∈ AW := aT1 (List.mem_of_getElem? (i := 64) rfl) (by decide +kernel)
theorem w_8 : Cond.fieldLink RX4 14 "SevenAsks$Night" "holders" "LSevenAsks$Grid;" ∈ AW := aT1 (List.mem_of_getElem? (i := 65) rfl) (by decide +kernel)
theorem w_9 : Cond.fieldLink RX2 15 "SevenAsks$Grid" "rows" "I" ∈ AW := aT1 (List.mem_of_getElem? (i := 47) rfl) (by decide +kernel)
theorem w_10 : Cond.fieldLink RX2 21 "SevenAsks$Grid" "columns" "I" ∈ AW := aT1 (List.mem_of_getElem? (i := 48) rfl) (by decide +kernel)
theorem w_11 : Cond.fieldLink RX2 24 "SevenAsks$Grid" "numbers" "[I" ∈ AW := aT1 (List.mem_of_getElem? (i := 49) rfl) (by decide +kernel)
theorem w_12 : Cond.methodLink RX4 32 yX2_get ∈ AW := aT2 (List.mem_of_getElem? (i := 53) rfl) (by decide +kernel)
theorem w_13 : Cond.instanceMethod yX2_get ∈ AW := aT2 (List.mem_of_getElem? (i := 54) rfl) (by decide +kernel)
theorem w_14 : Cond.selects RX2 yX2_get yX2_get ∈ AW := aT2 (List.mem_of_getElem? (i := 55) rfl) (by decide +kernel)
theorem w_15 : Cond.initialized RX2 ∈ AW := aT1 (List.mem_of_getElem? (i := 4) rfl) (by decide +kernel)
theorem w_16 : Cond.code yX2_get cX2_get 3 (some (.int)) ∈ AW := aT2 (List.mem_of_getElem? (i := 56) rfl) (by decide +kernel)
theorem w_17 : Cond.methodLink RX1 21 yX4_startsPiece ∈ AW := aT3 (List.mem_of_getElem? (i := 75) rfl) (by decide +kernel)
theorem w_18 : Cond.instanceMethod yX4_startsPiece ∈ AW := aT3 (List.mem_of_getElem? (i := 76) rfl) (by decide +kernel)
theorem w_19 : Cond.selects RX4 yX4_startsPiece yX4_startsPiece ∈ AW := aT3 (List.mem_of_getElem? (i := 77) rfl) (by decide +kernel)
theorem w_20 : Cond.initialized RX4 ∈ AW := aT1 (List.mem_of_getElem? (i := 3) rfl) (by decide +kernel)
theorem w_21 : Cond.code yX4_startsPiece cX4_startsPiece 4 (some (.boolean)) ∈ AW := aT3 (List.mem_of_getElem? (i := 78) rfl) (by decide +kernel)
theorem w_22 : Cond.methodLink RX1 27 yX4_pieceEnd ∈ AW := aT3 (List.mem_of_getElem? (i := 79) rfl) (by decide +kernel)
theorem w_23 : Cond.instanceMethod yX4_pieceEnd ∈ AW := aT2 (List.mem_of_getElem? (i := 188) rfl) (by decide +kernel)
theorem w_24 : Cond.selects RX4 yX4_pieceEnd yX4_pieceEnd ∈ AW := aT2 (List.mem_of_getElem? (i := 189) rfl) (by decide +kernel)
theorem w_25 : Cond.code yX4_pieceEnd cX4_pieceEnd 4 (some (.int)) ∈ AW := aT2 (List.mem_of_getElem? (i := 190) rfl) (by decide +kernel)
theorem w_26 : Cond.methodLink RX1 31 yX1_lay ∈ AW := aT3 (List.mem_of_getElem? (i := 80) rfl) (by decide +kernel)
theorem w_27 : Cond.instanceMethod yX1_lay ∈ AW := aT3 (List.mem_of_getElem? (i := 82) rfl) (by decide +kernel)
theorem w_28 : Cond.selects RX1 yX1_lay yX1_lay ∈ AW := aP (List.mem_of_getElem? (i := 11) rfl) (by decide +kernel)
theorem w_29 : Cond.initialized RX1 ∈ AW := aT1 (List.mem_of_getElem? (i := 8) rfl) (by decide +kernel)
theorem w_30 : Cond.code yX1_lay cX1_lay 4 (some (.int)) ∈ AW := aT3 (List.mem_of_getElem? (i := 83) rfl) (by decide +kernel)
theorem w_31 : Cond.methodLink RX1 34 yJ9_max_7cf53 ∈ AW := aT3 (List.mem_of_getElem? (i := 84) rfl) (by decide +kernel)
theorem w_32 : Cond.static yJ9_max_7cf53 ∈ AW := aT1 (List.mem_of_getElem? (i := 45) rfl) (by decide +kernel)
theorem w_33 : Cond.initialized RJ9 ∈ AW := aT1 (List.mem_of_getElem? (i := 5) rfl) (by decide +kernel)
theorem w_34 : Cond.code Lib.Math.max.name Lib.Math.max.code 2 (some .int) ∈ AW := aT1 (List.mem_of_getElem? (i := 46) rfl) (by decide +kernel)
theorem w_35 : Cond.methodLink RX2 41 arraycopyName ∈ AW := aT2 (List.mem_of_getElem? (i := 6) rfl) (by decide +kernel)
theorem w_36 : Cond.native arraycopyName ∈ AW := aT2 (List.mem_of_getElem? (i := 8) rfl) (by decide +kernel)
theorem w_37 : Cond.static arraycopyName ∈ AW := aT2 (List.mem_of_getElem? (i := 7) rfl) (by decide +kernel)
theorem w_38 : Cond.initialized RJ10 ∈ AW := aT1 (List.mem_of_getElem? (i := 15) rfl) (by decide +kernel)
theorem w_39 : Cond.methodLink RX2 35 yJ7_fill_53178 ∈ AW := aT1 (List.mem_of_getElem? (i := 62) rfl) (by decide +kernel)
theorem w_40 : Cond.methodLink RX2 28 yX2_get ∈ AW := aT2 (List.mem_of_getElem? (i := 156) rfl) (by decide +kernel)
theorem w_41 : Cond.methodLink RX2 31 yX2_put ∈ AW := aT2 (List.mem_of_getElem? (i := 157) rfl) (by decide +kernel)
theorem w_42 : Cond.instanceMethod yX2_put ∈ AW := aT1 (List.mem_of_getElem? (i := 75) rfl) (by decide +kernel)
theorem w_43 : Cond.selects RX2 yX2_put yX2_put ∈ AW := aT1 (List.mem_of_getElem? (i := 76) rfl) (by decide +kernel)
theorem w_44 : Cond.code yX2_put cX2_put 4 none ∈ AW := aT1 (List.mem_of_getElem? (i := 77) rfl) (by decide +kernel)
theorem w_45 : Cond.fieldLink RX3 27 "SevenAsks$House" "accounts" "LSevenAsks$Grid;" ∈ AW := aT1 (List.mem_of_getElem? (i := 81) rfl) (by decide +kernel)
theorem w_46 : Cond.methodLink RX3 51 yX2_get ∈ AW := aT2 (List.mem_of_getElem? (i := 57) rfl) (by decide +kernel)
theorem w_47 : Cond.fieldLink RX3 12 "SevenAsks$House" "night" "LSevenAsks$Night;" ∈ AW := aT1 (List.mem_of_getElem? (i := 78) rfl) (by decide +kernel)
theorem w_48 : Cond.methodLink RX4 40 yX4_lentBeds ∈ AW := aT2 (List.mem_of_getElem? (i := 49) rfl) (by decide +kernel)
theorem w_49 : Cond.instanceMethod yX4_lentBeds ∈ AW := aT2 (List.mem_of_getElem? (i := 50) rfl) (by decide +kernel)
theorem w_50 : Cond.selects RX4 yX4_lentBeds yX4_lentBeds ∈ AW := aT2 (List.mem_of_getElem? (i := 51) rfl) (by decide +kernel)
theorem w_51 : Cond.code yX4_lentBeds cX4_lentBeds 4 (some (.int)) ∈ AW := aT2 (List.mem_of_getElem? (i := 52) rfl) (by decide +kernel)
theorem w_52 : Cond.methodLink RX3 48 yX4_lentHours ∈ AW := aT2 (List.mem_of_getElem? (i := 45) rfl) (by decide +kernel)
theorem w_53 : Cond.instanceMethod yX4_lentHours ∈ AW := aT2 (List.mem_of_getElem? (i := 46) rfl) (by decide +kernel)
theorem w_54 : Cond.selects RX4 yX4_lentHours yX4_lentHours ∈ AW := aT2 (List.mem_of_getElem? (i := 47) rfl) (by decide +kernel)
theorem w_55 : Cond.code yX4_lentHours cX4_lentHours 3 (some (.int)) ∈ AW := aT2 (List.mem_of_getElem? (i := 48) rfl) (by decide +kernel)
theorem w_56 : Cond.fieldLink RX4 28 "SevenAsks$Night" "gone" "I" ∈ AW := aT1 (List.mem_of_getElem? (i := 66) rfl) (by decide +kernel)
theorem w_57 : Cond.methodLink RX3 44 yX4_goneHours ∈ AW := aT2 (List.mem_of_getElem? (i := 41) rfl) (by decide +kernel)
theorem w_58 : Cond.instanceMethod yX4_goneHours ∈ AW := aT2 (List.mem_of_getElem? (i := 42) rfl) (by decide +kernel)
theorem w_59 : Cond.selects RX4 yX4_goneHours yX4_goneHours ∈ AW := aT2 (List.mem_of_getElem? (i := 43) rfl) (by decide +kernel)
theorem w_60 : Cond.code yX4_goneHours cX4_goneHours 1 (some (.int)) ∈ AW := aT2 (List.mem_of_getElem? (i := 44) rfl) (by decide +kernel)
theorem w_61 : Cond.methodLink RX3 65 yX4_wentBy ∈ AW := aT2 (List.mem_of_getElem? (i := 119) rfl) (by decide +kernel)
theorem w_62 : Cond.instanceMethod yX4_wentBy ∈ AW := aT2 (List.mem_of_getElem? (i := 120) rfl) (by decide +kernel)
theorem w_63 : Cond.selects RX4 yX4_wentBy yX4_wentBy ∈ AW := aT2 (List.mem_of_getElem? (i := 121) rfl) (by decide +kernel)
theorem w_64 : Cond.code yX4_wentBy cX4_wentBy 2 (some (.boolean)) ∈ AW := aT2 (List.mem_of_getElem? (i := 122) rfl) (by decide +kernel)
theorem w_65 : Cond.methodLink RX4 49 yX4_bedOf ∈ AW := aT2 (List.mem_of_getElem? (i := 127) rfl) (by decide +kernel)
theorem w_66 : Cond.instanceMethod yX4_bedOf ∈ AW := aT2 (List.mem_of_getElem? (i := 128) rfl) (by decide +kernel)
theorem w_67 : Cond.selects RX4 yX4_bedOf yX4_bedOf ∈ AW := aT2 (List.mem_of_getElem? (i := 129) rfl) (by decide +kernel)
theorem w_68 : Cond.code yX4_bedOf cX4_bedOf 4 (some (.int)) ∈ AW := aT2 (List.mem_of_getElem? (i := 130) rfl) (by decide +kernel)
theorem w_69 : Cond.methodLink RX3 55 yX4_hoursWithBed ∈ AW := aT2 (List.mem_of_getElem? (i := 123) rfl) (by decide +kernel)
theorem w_70 : Cond.instanceMethod yX4_hoursWithBed ∈ AW := aT2 (List.mem_of_getElem? (i := 124) rfl) (by decide +kernel)
theorem w_71 : Cond.selects RX4 yX4_hoursWithBed yX4_hoursWithBed ∈ AW := aT2 (List.mem_of_getElem? (i := 125) rfl) (by decide +kernel)
theorem w_72 : Cond.code yX4_hoursWithBed cX4_hoursWithBed 6 (some (.int)) ∈ AW := aT2 (List.mem_of_getElem? (i := 126) rfl) (by decide +kernel)
theorem w_73 : Cond.fieldLink RX3 23 "SevenAsks$House" "lodgers" "LSevenAsks$Grid;" ∈ AW := aT1 (List.mem_of_getElem? (i := 80) rfl) (by decide +kernel)
theorem w_74 : Cond.methodLink RX3 69 yX3_isEighth ∈ AW := aT2 (List.mem_of_getElem? (i := 131) rfl) (by decide +kernel)
theorem w_75 : Cond.instanceMethod yX3_isEighth ∈ AW := aT2 (List.mem_of_getElem? (i := 133) rfl) (by decide +kernel)
theorem w_76 : Cond.selects RX3 yX3_isEighth yX3_isEighth ∈ AW := aP (List.mem_of_getElem? (i := 4) rfl) (by decide +kernel)
theorem w_77 : Cond.initialized RX3 ∈ AW := aT1 (List.mem_of_getElem? (i := 2) rfl) (by decide +kernel)
theorem w_78 : Cond.code yX3_isEighth cX3_isEighth 2 (some (.boolean)) ∈ AW := aT2 (List.mem_of_getElem? (i := 134) rfl) (by decide +kernel)
theorem w_79 : Cond.methodLink RX4 52 yX4_lentHoursIn ∈ AW := aT2 (List.mem_of_getElem? (i := 143) rfl) (by decide +kernel)
theorem w_80 : Cond.instanceMethod yX4_lentHoursIn ∈ AW := aT2 (List.mem_of_getElem? (i := 144) rfl) (by decide +kernel)
theorem w_81 : Cond.selects RX4 yX4_lentHoursIn yX4_lentHoursIn ∈ AW := aT2 (List.mem_of_getElem? (i := 145) rfl) (by decide +kernel)
theorem w_82 : Cond.code yX4_lentHoursIn cX4_lentHoursIn 6 (some (.int)) ∈ AW := aT2 (List.mem_of_getElem? (i := 146) rfl) (by decide +kernel)
theorem w_83 : Cond.methodLink RX3 75 yX4_leastLentBed ∈ AW := aT2 (List.mem_of_getElem? (i := 139) rfl) (by decide +kernel)
theorem w_84 : Cond.instanceMethod yX4_leastLentBed ∈ AW := aT2 (List.mem_of_getElem? (i := 140) rfl) (by decide +kernel)
theorem w_85 : Cond.selects RX4 yX4_leastLentBed yX4_leastLentBed ∈ AW := aT2 (List.mem_of_getElem? (i := 141) rfl) (by decide +kernel)
theorem w_86 : Cond.code yX4_leastLentBed cX4_leastLentBed 5 (some (.int)) ∈ AW := aT2 (List.mem_of_getElem? (i := 142) rfl) (by decide +kernel)
theorem w_87 : Cond.methodLink RX3 78 yX4_lentHoursIn ∈ AW := aT2 (List.mem_of_getElem? (i := 147) rfl) (by decide +kernel)
theorem w_88 : Cond.methodLink RX3 72 yX3_hasTooLittleNeed ∈ AW := aT2 (List.mem_of_getElem? (i := 135) rfl) (by decide +kernel)
theorem w_89 : Cond.instanceMethod yX3_hasTooLittleNeed ∈ AW := aT2 (List.mem_of_getElem? (i := 137) rfl) (by decide +kernel)
theorem w_90 : Cond.selects RX3 yX3_hasTooLittleNeed yX3_hasTooLittleNeed ∈ AW := aP (List.mem_of_getElem? (i := 5) rfl) (by decide +kernel)
theorem w_91 : Cond.code yX3_hasTooLittleNeed cX3_hasTooLittleNeed 2 (some (.boolean)) ∈ AW := aT2 (List.mem_of_getElem? (i := 138) rfl) (by decide +kernel)
theorem w_92 : Cond.methodLink RX3 33 yX2_put ∈ AW := aT1 (List.mem_of_getElem? (i := 74) rfl) (by decide +kernel)
theorem w_93 : Cond.methodLink RX4 24 yX2_copyFrom ∈ AW := aT2 (List.mem_of_getElem? (i := 2) rfl) (by decide +kernel)
theorem w_94 : Cond.instanceMethod yX2_copyFrom ∈ AW := aT2 (List.mem_of_getElem? (i := 3) rfl) (by decide +kernel)
theorem w_95 : Cond.selects RX2 yX2_copyFrom yX2_copyFrom ∈ AW := aT2 (List.mem_of_getElem? (i := 4) rfl) (by decide +kernel)
theorem w_96 : Cond.code yX2_copyFrom cX2_copyFrom 2 none ∈ AW := aT2 (List.mem_of_getElem? (i := 5) rfl) (by decide +kernel)
theorem w_97 : Cond.methodLink RX3 37 yX4_copyFrom ∈ AW := aT1 (List.mem_of_getElem? (i := 238) rfl) (by decide +kernel)
theorem w_98 : Cond.instanceMethod yX4_copyFrom ∈ AW := aT1 (List.mem_of_getElem? (i := 239) rfl) (by decide +kernel)
theorem w_99 : Cond.selects RX4 yX4_copyFrom yX4_copyFrom ∈ AW := aT2 (List.mem_of_getElem? (i := 0) rfl) (by decide +kernel)
theorem w_100 : Cond.code yX4_copyFrom cX4_copyFrom 2 none ∈ AW := aT2 (List.mem_of_getElem? (i := 1) rfl) (by decide +kernel)
theorem w_101 : Cond.methodLink RX3 41 yX2_copyFrom ∈ AW := aT2 (List.mem_of_getElem? (i := 9) rfl) (by decide +kernel)
theorem w_102 : Cond.fieldLink RX3 30 "SevenAsks$House" "reasons" "LSevenAsks$Grid;" ∈ AW := aT1 (List.mem_of_getElem? (i := 82) rfl) (by decide +kernel)
theorem w_103 : Cond.methodLink RX3 115 yJ6_bitCount_0f7a4 ∈ AW := aT2 (List.mem_of_getElem? (i := 177) rfl) (by decide +kernel)
theorem w_104 : Cond.static yJ6_bitCount_0f7a4 ∈ AW := aT2 (List.mem_of_getElem? (i := 178) rfl) (by decide +kernel)
theorem w_105 : Cond.initialized RJ6 ∈ AW := aT1 (List.mem_of_getElem? (i := 16) rfl) (by decide +kernel)
theorem w_106 : Cond.code yJ6_bitCount_0f7a4 cJ6_bitCount_0f7a4 1 (some (.int)) ∈ AW := aT2 (List.mem_of_getElem? (i := 179) rfl) (by decide +kernel)
theorem w_107 : Cond.methodLink RX3 94 yX2_raise ∈ AW := aT2 (List.mem_of_getElem? (i := 152) rfl) (by decide +kernel)
theorem w_108 : Cond.instanceMethod yX2_raise ∈ AW := aT2 (List.mem_of_getElem? (i := 153) rfl) (by decide +kernel)
theorem w_109 : Cond.selects RX2 yX2_raise yX2_raise ∈ AW := aT2 (List.mem_of_getElem? (i := 154) rfl) (by decide +kernel)
theorem w_110 : Cond.code yX2_raise cX2_raise 4 none ∈ AW := aT2 (List.mem_of_getElem? (i := 155) rfl) (by decide +kernel)
theorem w_111 : Cond.methodLink RX3 101 yJ9_min_7cf53 ∈ AW := aT2 (List.mem_of_getElem? (i := 162) rfl) (by decide +kernel)
theorem w_112 : Cond.static yJ9_min_7cf53 ∈ AW := aT2 (List.mem_of_getElem? (i := 163) rfl) (by decide +kernel)
theorem w_113 : Cond.code Lib.Math.min.name Lib.Math.min.code 2 (some .int) ∈ AW := aT2 (List.mem_of_getElem? (i := 164) rfl) (by decide +kernel)
theorem w_114 : Cond.methodLink RX3 97 yX3_countRefusal ∈ AW := aT2 (List.mem_of_getElem? (i := 158) rfl) (by decide +kernel)
theorem w_115 : Cond.instanceMethod yX3_countRefusal ∈ AW := aT2 (List.mem_of_getElem? (i := 160) rfl) (by decide +kernel)
theorem w_116 : Cond.selects RX3 yX3_countRefusal yX3_countRefusal ∈ AW := aP (List.mem_of_getElem? (i := 7) rfl) (by decide +kernel)
theorem w_117 : Cond.code yX3_countRefusal cX3_countRefusal 3 none ∈ AW := aT2 (List.mem_of_getElem? (i := 161) rfl) (by decide +kernel)
theorem w_118 : Cond.methodLink RX4 36 yX2_put ∈ AW := aT2 (List.mem_of_getElem? (i := 195) rfl) (by decide +kernel)
theorem w_119 : Cond.methodLink RX3 112 yX4_lend ∈ AW := aT2 (List.mem_of_getElem? (i := 196) rfl) (by decide +kernel)
theorem w_120 : Cond.instanceMethod yX4_lend ∈ AW := aT2 (List.mem_of_getElem? (i := 192) rfl) (by decide +kernel)
theorem w_121 : Cond.selects RX4 yX4_lend yX4_lend ∈ AW := aT2 (List.mem_of_getElem? (i := 193) rfl) (by decide +kernel)
theorem w_122 : Cond.code yX4_lend cX4_lend 6 none ∈ AW := aT2 (List.mem_of_getElem? (i := 194) rfl) (by decide +kernel)
theorem w_123 : Cond.methodLink RX3 84 yX4_holdersMask ∈ AW := aT2 (List.mem_of_getElem? (i := 169) rfl) (by decide +kernel)
theorem w_124 : Cond.instanceMethod yX4_holdersMask ∈ AW := aT2 (List.mem_of_getElem? (i := 170) rfl) (by decide +kernel)
theorem w_125 : Cond.selects RX4 yX4_holdersMask yX4_holdersMask ∈ AW := aT2 (List.mem_of_getElem? (i := 171) rfl) (by decide +kernel)
theorem w_126 : Cond.code yX4_holdersMask cX4_holdersMask 7 (some (.int)) ∈ AW := aT2 (List.mem_of_getElem? (i := 172) rfl) (by decide +kernel)
theorem w_127 : Cond.methodLink RX3 106 yX3_countPutOut ∈ AW := aT2 (List.mem_of_getElem? (i := 173) rfl) (by decide +kernel)
theorem w_128 : Cond.instanceMethod yX3_countPutOut ∈ AW := aT2 (List.mem_of_getElem? (i := 175) rfl) (by decide +kernel)
theorem w_129 : Cond.selects RX3 yX3_countPutOut yX3_countPutOut ∈ AW := aP (List.mem_of_getElem? (i := 9) rfl) (by decide +kernel)
theorem w_130 : Cond.code yX3_countPutOut cX3_countPutOut 3 none ∈ AW := aT2 (List.mem_of_getElem? (i := 176) rfl) (by decide +kernel)
theorem w_131 : Cond.methodLink RX4 56 yX4_pieceEnd ∈ AW := aT2 (List.mem_of_getElem? (i := 187) rfl) (by decide +kernel)
theorem w_132 : Cond.methodLink RX4 59 yX4_lend ∈ AW := aT2 (List.mem_of_getElem? (i := 191) rfl) (by decide +kernel)
theorem w_133 : Cond.methodLink RX3 109 yX4_freePiecesIn ∈ AW := aT2 (List.mem_of_getElem? (i := 183) rfl) (by decide +kernel)
theorem w_134 : Cond.instanceMethod yX4_freePiecesIn ∈ AW := aT2 (List.mem_of_getElem? (i := 184) rfl) (by decide +kernel)
theorem w_135 : Cond.selects RX4 yX4_freePiecesIn yX4_freePiecesIn ∈ AW := aT2 (List.mem_of_getElem? (i := 185) rfl) (by decide +kernel)
theorem w_136 : Cond.code yX4_freePiecesIn cX4_freePiecesIn 7 (some (.int)) ∈ AW := aT2 (List.mem_of_getElem? (i := 186) rfl) (by decide +kernel)
theorem w_137 : Cond.methodLink RX3 127 yX4_lentBeds ∈ AW := aT3 (List.mem_of_getElem? (i := 17) rfl) (by decide +kernel)
theorem w_138 : Cond.methodLink RX4 20 yX2_fill ∈ AW := aT1 (List.mem_of_getElem? (i := 58) rfl) (by decide +kernel)
theorem w_139 : Cond.instanceMethod yX2_fill ∈ AW := aT1 (List.mem_of_getElem? (i := 59) rfl) (by decide +kernel)
theorem w_140 : Cond.selects RX2 yX2_fill yX2_fill ∈ AW := aT1 (List.mem_of_getElem? (i := 60) rfl) (by decide +kernel)
theorem w_141 : Cond.code yX2_fill cX2_fill 2 none ∈ AW := aT1 (List.mem_of_getElem? (i := 61) rfl) (by decide +kernel)
theorem w_142 : Cond.methodLink RX3 130 yX4_advance ∈ AW := aT3 (List.mem_of_getElem? (i := 18) rfl) (by decide +kernel)
theorem w_143 : Cond.instanceMethod yX4_advance ∈ AW := aT3 (List.mem_of_getElem? (i := 19) rfl) (by decide +kernel)
theorem w_144 : Cond.selects RX4 yX4_advance yX4_advance ∈ AW := aT3 (List.mem_of_getElem? (i := 20) rfl) (by decide +kernel)
theorem w_145 : Cond.code yX4_advance cX4_advance 1 none ∈ AW := aT3 (List.mem_of_getElem? (i := 21) rfl) (by decide +kernel)
theorem w_146 : Cond.methodLink RX3 61 yX3_isPoorer ∈ AW := aT3 (List.mem_of_getElem? (i := 33) rfl) (by decide +kernel)
theorem w_147 : Cond.instanceMethod yX3_isPoorer ∈ AW := aT3 (List.mem_of_getElem? (i := 35) rfl) (by decide +kernel)
theorem w_148 : Cond.selects RX3 yX3_isPoorer yX3_isPoorer ∈ AW := aP (List.mem_of_getElem? (i := 10) rfl) (by decide +kernel)
theorem w_149 : Cond.code yX3_isPoorer cX3_isPoorer 4 (some (.boolean)) ∈ AW := aT3 (List.mem_of_getElem? (i := 36) rfl) (by decide +kernel)
theorem w_150 : Cond.constantDouble RX3 59 4631952216750555136 ∈ AW := aT3 (List.mem_of_getElem? (i := 98) rfl) (by decide +kernel)
theorem w_151 : Cond.methodLink RX3 81 yX3_answerTo ∈ AW := aT2 (List.mem_of_getElem? (i := 115) rfl) (by decide +kernel)
theorem w_152 : Cond.instanceMethod yX3_answerTo ∈ AW := aT2 (List.mem_of_getElem? (i := 116) rfl) (by decide +kernel)
theorem w_153 : Cond.selects RX3 yX3_answerTo yX3_answerTo ∈ AW := aT2 (List.mem_of_getElem? (i := 117) rfl) (by decide +kernel)
theorem w_154 : Cond.code yX3_answerTo cX3_answerTo 6 (some (.int)) ∈ AW := aT2 (List.mem_of_getElem? (i := 118) rfl) (by decide +kernel)
theorem w_155 : Cond.methodLink RX3 90 yX3_grant ∈ AW := aT2 (List.mem_of_getElem? (i := 165) rfl) (by decide +kernel)
theorem w_156 : Cond.instanceMethod yX3_grant ∈ AW := aT2 (List.mem_of_getElem? (i := 167) rfl) (by decide +kernel)
theorem w_157 : Cond.selects RX3 yX3_grant yX3_grant ∈ AW := aP (List.mem_of_getElem? (i := 8) rfl) (by decide +kernel)
theorem w_158 : Cond.code yX3_grant cX3_grant 5 none ∈ AW := aT2 (List.mem_of_getElem? (i := 168) rfl) (by decide +kernel)
theorem w_159 : Cond.methodLink RX3 87 yX3_refuse ∈ AW := aT2 (List.mem_of_getElem? (i := 148) rfl) (by decide +kernel)
theorem w_160 : Cond.instanceMethod yX3_refuse ∈ AW := aT2 (List.mem_of_getElem? (i := 150) rfl) (by decide +kernel)
theorem w_161 : Cond.selects RX3 yX3_refuse yX3_refuse ∈ AW := aP (List.mem_of_getElem? (i := 6) rfl) (by decide +kernel)
theorem w_162 : Cond.code yX3_refuse cX3_refuse 3 none ∈ AW := aT2 (List.mem_of_getElem? (i := 151) rfl) (by decide +kernel)
theorem w_163 : Cond.methodLink RX3 121 yX4_bedOf ∈ AW := aT2 (List.mem_of_getElem? (i := 212) rfl) (by decide +kernel)
theorem w_164 : Cond.methodLink RX3 124 yX4_freePieceFrom ∈ AW := aT2 (List.mem_of_getElem? (i := 213) rfl) (by decide +kernel)
theorem w_165 : Cond.instanceMethod yX4_freePieceFrom ∈ AW := aT2 (List.mem_of_getElem? (i := 214) rfl) (by decide +kernel)
theorem w_166 : Cond.selects RX4 yX4_freePieceFrom yX4_freePieceFrom ∈ AW := aT2 (List.mem_of_getElem? (i := 215) rfl) (by decide +kernel)
theorem w_167 : Cond.code yX4_freePieceFrom cX4_freePieceFrom 4 (some (.int)) ∈ AW := aT2 (List.mem_of_getElem? (i := 216) rfl) (by decide +kernel)
theorem w_168 : Cond.code yX6_isWithinNight cX6_isWithinNight 2 (some (.boolean)) ∈ AW := aT2 (List.mem_of_getElem? (i := 101) rfl) (by decide +kernel)
theorem w_169 : Cond.static yX6_isWithinNight ∈ AW := aT2 (List.mem_of_getElem? (i := 100) rfl) (by decide +kernel)
theorem w_170 : Cond.initialized RX6 ∈ AW := aT1 (List.mem_of_getElem? (i := 1) rfl) (by decide +kernel)
theorem w_171 : Cond.methodLink RX4 71 yX4_wentBy ∈ AW := aT3 (List.mem_of_getElem? (i := 137) rfl) (by decide +kernel)
theorem w_172 : Cond.methodLink RX4 75 yX4_hoursWithBed ∈ AW := aT3 (List.mem_of_getElem? (i := 138) rfl) (by decide +kernel)
theorem w_173 : Cond.methodLink RX4 78 yX4_leastLentBed ∈ AW := aT3 (List.mem_of_getElem? (i := 139) rfl) (by decide +kernel)
theorem w_174 : Cond.methodLink RX4 63 yX4_isOpenTo ∈ AW := aT3 (List.mem_of_getElem? (i := 132) rfl) (by decide +kernel)
theorem w_175 : Cond.instanceMethod yX4_isOpenTo ∈ AW := aT3 (List.mem_of_getElem? (i := 134) rfl) (by decide +kernel)
theorem w_176 : Cond.selects RX4 yX4_isOpenTo yX4_isOpenTo ∈ AW := aP (List.mem_of_getElem? (i := 12) rfl) (by decide +kernel)
theorem w_177 : Cond.code yX4_isOpenTo cX4_isOpenTo 4 (some (.boolean)) ∈ AW := aT3 (List.mem_of_getElem? (i := 135) rfl) (by decide +kernel)
theorem w_178 : Cond.methodLink RX4 44 yJ9_max_7cf53 ∈ AW := aT3 (List.mem_of_getElem? (i := 89) rfl) (by decide +kernel)
theorem w_179 : Cond.fieldLink RX5 15 "SevenAsks$Shelf" "houses" "[LSevenAsks$House;" ∈ AW := aT1 (List.mem_of_getElem? (i := 102) rfl) (by decide +kernel)
theorem w_180 : Cond.methodLink RX5 26 yX5_houseIn ∈ AW := aT1 (List.mem_of_getElem? (i := 230) rfl) (by decide +kernel)
theorem w_181 : Cond.instanceMethod yX5_houseIn ∈ AW := aT1 (List.mem_of_getElem? (i := 232) rfl) (by decide +kernel)
theorem w_182 : Cond.selects RX5 yX5_houseIn yX5_houseIn ∈ AW := aP (List.mem_of_getElem? (i := 1) rfl) (by decide +kernel)
theorem w_183 : Cond.initialized RX5 ∈ AW := aT1 (List.mem_of_getElem? (i := 7) rfl) (by decide +kernel)
theorem w_184 : Cond.code yX5_houseIn cX5_houseIn 2 (some ((.object "SevenAsks$House"))) ∈ AW := aT1 (List.mem_of_getElem? (i := 233) rfl) (by decide +kernel)
theorem w_185 : Cond.methodLink RX5 30 yX3_copyFrom ∈ AW := aT1 (List.mem_of_getElem? (i := 234) rfl) (by decide +kernel)
theorem w_186 : Cond.instanceMethod yX3_copyFrom ∈ AW := aT1 (List.mem_of_getElem? (i := 235) rfl) (by decide +kernel)
theorem w_187 : Cond.selects RX3 yX3_copyFrom yX3_copyFrom ∈ AW := aT1 (List.mem_of_getElem? (i := 236) rfl) (by decide +kernel)
theorem w_188 : Cond.code yX3_copyFrom cX3_copyFrom 2 none ∈ AW := aT1 (List.mem_of_getElem? (i := 237) rfl) (by decide +kernel)
theorem w_189 : Cond.fieldLink RX5 21 "SevenAsks$Shelf" "filled" "[Z" ∈ AW := aT1 (List.mem_of_getElem? (i := 103) rfl) (by decide +kernel)
theorem w_190 : Cond.fieldLink RX6 10 "SevenAsks" "house" "LSevenAsks$House;" ∈ AW := aT1 (List.mem_of_getElem? (i := 132) rfl) (by decide +kernel)
theorem w_191 : Cond.methodLink RX6 125 yX3_account ∈ AW := aT2 (List.mem_of_getElem? (i := 37) rfl) (by decide +kernel)
theorem w_192 : Cond.instanceMethod yX3_account ∈ AW := aT2 (List.mem_of_getElem? (i := 38) rfl) (by decide +kernel)
theorem w_193 : Cond.selects RX3 yX3_account yX3_account ∈ AW := aT2 (List.mem_of_getElem? (i := 39) rfl) (by decide +kernel)
theorem w_194 : Cond.code yX3_account cX3_account 2 (some (.int)) ∈ AW := aT2 (List.mem_of_getElem? (i := 40) rfl) (by decide +kernel)
theorem w_195 : Cond.fieldLink RX6 137 "SevenAsks" "savedCount" "I" ∈ AW := aT1 (List.mem_of_getElem? (i := 137) rfl) (by decide +kernel)
theorem w_196 : Cond.methodLink RX6 191 yX3_shareLent ∈ AW := aT3 (List.mem_of_getElem? (i := 94) rfl) (by decide +kernel)
theorem w_197 : Cond.instanceMethod yX3_shareLent ∈ AW := aT3 (List.mem_of_getElem? (i := 95) rfl) (by decide +kernel)
theorem w_198 : Cond.selects RX3 yX3_shareLent yX3_shareLent ∈ AW := aT3 (List.mem_of_getElem? (i := 96) rfl) (by decide +kernel)
theorem w_199 : Cond.code yX3_shareLent cX3_shareLent 1 (some (.double)) ∈ AW := aT3 (List.mem_of_getElem? (i := 97) rfl) (by decide +kernel)
theorem w_200 : Cond.methodLink RX6 188 yX3_poorestLodger ∈ AW := aT3 (List.mem_of_getElem? (i := 29) rfl) (by decide +kernel)
theorem w_201 : Cond.instanceMethod yX3_poorestLodger ∈ AW := aT3 (List.mem_of_getElem? (i := 30) rfl) (by decide +kernel)
theorem w_202 : Cond.selects RX3 yX3_poorestLodger yX3_poorestLodger ∈ AW := aT3 (List.mem_of_getElem? (i := 31) rfl) (by decide +kernel)
theorem w_203 : Cond.code yX3_poorestLodger cX3_poorestLodger 3 (some (.int)) ∈ AW := aT3 (List.mem_of_getElem? (i := 32) rfl) (by decide +kernel)
theorem w_204 : Cond.fieldLink RX6 25 "SevenAsks" "saved" "LSevenAsks$Shelf;" ∈ AW := aT1 (List.mem_of_getElem? (i := 134) rfl) (by decide +kernel)
theorem w_205 : Cond.fieldLink RX6 143 "SevenAsks" "nextSaved" "I" ∈ AW := aT1 (List.mem_of_getElem? (i := 138) rfl) (by decide +kernel)
theorem w_206 : Cond.methodLink RX6 121 yX5_store ∈ AW := aT2 (List.mem_of_getElem? (i := 107) rfl) (by decide +kernel)
theorem w_207 : Cond.instanceMethod yX5_store ∈ AW := aT2 (List.mem_of_getElem? (i := 108) rfl) (by decide +kernel)
theorem w_208 : Cond.selects RX5 yX5_store yX5_store ∈ AW := aT2 (List.mem_of_getElem? (i := 109) rfl) (by decide +kernel)
theorem w_209 : Cond.code yX5_store cX5_store 4 none ∈ AW := aT2 (List.mem_of_getElem? (i := 110) rfl) (by decide +kernel)
theorem w_210 : Cond.classLink RX6 146 "java/lang/IndexOutOfBoundsException" ∈ AW := aT2 (List.mem_of_getElem? (i := 83) rfl) (by decide +kernel)
theorem w_211 : Cond.initialized "java/lang/IndexOutOfBoundsException" ∈ AW := aT1 (List.mem_of_getElem? (i := 14) rfl) (by decide +kernel)
theorem w_212 : Cond.methodLink RX6 53 yX6_checkLodger ∈ AW := aT2 (List.mem_of_getElem? (i := 80) rfl) (by decide +kernel)
theorem w_213 : Cond.static yX6_checkLodger ∈ AW := aT2 (List.mem_of_getElem? (i := 81) rfl) (by decide +kernel)
theorem w_214 : Cond.code yX6_checkLodger cX6_checkLodger 1 none ∈ AW := aT2 (List.mem_of_getElem? (i := 82) rfl) (by decide +kernel)
theorem w_215 : Cond.methodLink RX6 236 yX6_isWithinNight ∈ AW := aT2 (List.mem_of_getElem? (i := 99) rfl) (by decide +kernel)
theorem w_216 : Cond.classLink RX6 91 "java/lang/IllegalArgumentException" ∈ AW := aT2 (List.mem_of_getElem? (i := 17) rfl) (by decide +kernel)
theorem w_217 : Cond.initialized "java/lang/IllegalArgumentException" ∈ AW := aT1 (List.mem_of_getElem? (i := 13) rfl) (by decide +kernel)
theorem w_218 : Cond.methodLink RX6 42 yX6_checkAsking ∈ AW := aT2 (List.mem_of_getElem? (i := 77) rfl) (by decide +kernel)
theorem w_219 : Cond.static yX6_checkAsking ∈ AW := aT2 (List.mem_of_getElem? (i := 78) rfl) (by decide +kernel)
theorem w_220 : Cond.code yX6_checkAsking cX6_checkAsking 3 none ∈ AW := aT2 (List.mem_of_getElem? (i := 79) rfl) (by decide +kernel)
theorem w_221 : Cond.methodLink RX6 46 yX6_saveState ∈ AW := aT2 (List.mem_of_getElem? (i := 103) rfl) (by decide +kernel)
theorem w_222 : Cond.instanceMethod yX6_saveState ∈ AW := aT2 (List.mem_of_getElem? (i := 105) rfl) (by decide +kernel)
theorem w_223 : Cond.selects RX6 yX6_saveState yX6_saveState ∈ AW := aP (List.mem_of_getElem? (i := 3) rfl) (by decide +kernel)
theorem w_224 : Cond.code yX6_saveState cX6_saveState 1 none ∈ AW := aT2 (List.mem_of_getElem? (i := 106) rfl) (by decide +kernel)
theorem w_225 : Cond.methodLink RX6 49 yX3_takeAsking ∈ AW := aT2 (List.mem_of_getElem? (i := 111) rfl) (by decide +kernel)
theorem w_226 : Cond.instanceMethod yX3_takeAsking ∈ AW := aT2 (List.mem_of_getElem? (i := 112) rfl) (by decide +kernel)
theorem w_227 : Cond.selects RX3 yX3_takeAsking yX3_takeAsking ∈ AW := aT2 (List.mem_of_getElem? (i := 113) rfl) (by decide +kernel)
theorem w_228 : Cond.code yX3_takeAsking cX3_takeAsking 5 (some (.int)) ∈ AW := aT2 (List.mem_of_getElem? (i := 114) rfl) (by decide +kernel)
theorem w_229 : Cond.methodLink RX6 160 yX6_checkRange ∈ AW := aT2 (List.mem_of_getElem? (i := 14) rfl) (by decide +kernel)
theorem w_230 : Cond.static yX6_checkRange ∈ AW := aT2 (List.mem_of_getElem? (i := 15) rfl) (by decide +kernel)
theorem w_231 : Cond.code yX6_checkRange cX6_checkRange 3 none ∈ AW := aT2 (List.mem_of_getElem? (i := 16) rfl) (by decide +kernel)
theorem w_232 : Cond.methodLink RX6 56 yX6_checkHour ∈ AW := aT2 (List.mem_of_getElem? (i := 205) rfl) (by decide +kernel)
theorem w_233 : Cond.static yX6_checkHour ∈ AW := aT2 (List.mem_of_getElem? (i := 206) rfl) (by decide +kernel)
theorem w_234 : Cond.code yX6_checkHour cX6_checkHour 1 none ∈ AW := aT2 (List.mem_of_getElem? (i := 207) rfl) (by decide +kernel)
theorem w_235 : Cond.methodLink RX6 59 yX3_takeBack ∈ AW := aT2 (List.mem_of_getElem? (i := 208) rfl) (by decide +kernel)
theorem w_236 : Cond.instanceMethod yX3_takeBack ∈ AW := aT2 (List.mem_of_getElem? (i := 209) rfl) (by decide +kernel)
theorem w_237 : Cond.selects RX3 yX3_takeBack yX3_takeBack ∈ AW := aT2 (List.mem_of_getElem? (i := 210) rfl) (by decide +kernel)
theorem w_238 : Cond.code yX3_takeBack cX3_takeBack 4 (some (.int)) ∈ AW := aT2 (List.mem_of_getElem? (i := 211) rfl) (by decide +kernel)
theorem w_239 : Cond.methodLink RX6 63 yX3_giveFavour ∈ AW := aT2 (List.mem_of_getElem? (i := 221) rfl) (by decide +kernel)
theorem w_240 : Cond.instanceMethod yX3_giveFavour ∈ AW := aT2 (List.mem_of_getElem? (i := 222) rfl) (by decide +kernel)
theorem w_241 : Cond.selects RX3 yX3_giveFavour yX3_giveFavour ∈ AW := aT2 (List.mem_of_getElem? (i := 223) rfl) (by decide +kernel)
theorem w_242 : Cond.code yX3_giveFavour cX3_giveFavour 2 (some (.int)) ∈ AW := aT2 (List.mem_of_getElem? (i := 224) rfl) (by decide +kernel)
theorem w_243 : Cond.methodLink RX6 67 yX6_checkNeed ∈ AW := aT2 (List.mem_of_getElem? (i := 229) rfl) (by decide +kernel)
theorem w_244 : Cond.static yX6_checkNeed ∈ AW := aT2 (List.mem_of_getElem? (i := 230) rfl) (by decide +kernel)
theorem w_245 : Cond.code yX6_checkNeed cX6_checkNeed 1 none ∈ AW := aT2 (List.mem_of_getElem? (i := 231) rfl) (by decide +kernel)
theorem w_246 : Cond.methodLink RX6 70 yX3_changeNeed ∈ AW := aT2 (List.mem_of_getElem? (i := 232) rfl) (by decide +kernel)
theorem w_247 : Cond.instanceMethod yX3_changeNeed ∈ AW := aT2 (List.mem_of_getElem? (i := 233) rfl) (by decide +kernel)
theorem w_248 : Cond.selects RX3 yX3_changeNeed yX3_changeNeed ∈ AW := aT2 (List.mem_of_getElem? (i := 234) rfl) (by decide +kernel)
theorem w_249 : Cond.code yX3_changeNeed cX3_changeNeed 4 (some (.int)) ∈ AW := aT2 (List.mem_of_getElem? (i := 235) rfl) (by decide +kernel)
theorem w_250 : Cond.methodLink RX6 88 yX3_changeSetting ∈ AW := aT3 (List.mem_of_getElem? (i := 0) rfl) (by decide +kernel)
theorem w_251 : Cond.instanceMethod yX3_changeSetting ∈ AW := aT3 (List.mem_of_getElem? (i := 1) rfl) (by decide +kernel)
theorem w_252 : Cond.selects RX3 yX3_changeSetting yX3_changeSetting ∈ AW := aT3 (List.mem_of_getElem? (i := 2) rfl) (by decide +kernel)
theorem w_253 : Cond.code yX3_changeSetting cX3_changeSetting 3 (some (.int)) ∈ AW := aT3 (List.mem_of_getElem? (i := 3) rfl) (by decide +kernel)
theorem w_254 : Cond.methodLink RX6 73 yX3_canLetHourGo ∈ AW := aT3 (List.mem_of_getElem? (i := 8) rfl) (by decide +kernel)
theorem w_255 : Cond.instanceMethod yX3_canLetHourGo ∈ AW := aT3 (List.mem_of_getElem? (i := 9) rfl) (by decide +kernel)
theorem w_256 : Cond.selects RX3 yX3_canLetHourGo yX3_canLetHourGo ∈ AW := aT3 (List.mem_of_getElem? (i := 10) rfl) (by decide +kernel)
theorem w_257 : Cond.code yX3_canLetHourGo cX3_canLetHourGo 1 (some (.boolean)) ∈ AW := aT3 (List.mem_of_getElem? (i := 11) rfl) (by decide +kernel)
theorem w_258 : Cond.methodLink RX6 84 yX3_letHourGo ∈ AW := aT3 (List.mem_of_getElem? (i := 13) rfl) (by decide +kernel)
theorem w_259 : Cond.instanceMethod yX3_letHourGo ∈ AW := aT3 (List.mem_of_getElem? (i := 14) rfl) (by decide +kernel)
theorem w_260 : Cond.selects RX3 yX3_letHourGo yX3_letHourGo ∈ AW := aT3 (List.mem_of_getElem? (i := 15) rfl) (by decide +kernel)
theorem w_261 : Cond.code yX3_letHourGo cX3_letHourGo 4 (some (.int)) ∈ AW := aT3 (List.mem_of_getElem? (i := 16) rfl) (by decide +kernel)
theorem w_262 : Cond.classLink RX6 77 "java/lang/IllegalStateException" ∈ AW := aT1 (List.mem_of_getElem? (i := 158) rfl) (by decide +kernel)
theorem w_263 : Cond.initialized "java/lang/IllegalStateException" ∈ AW := aT1 (List.mem_of_getElem? (i := 17) rfl) (by decide +kernel)
theorem w_264 : Cond.constant RL 7 2147483647 ∈ AW := aT2 (List.mem_of_getElem? (i := 64) rfl) (by decide +kernel)
theorem w_265 : Cond.methodLink RX6 155 yX4_holder ∈ AW := aT3 (List.mem_of_getElem? (i := 50) rfl) (by decide +kernel)
theorem w_266 : Cond.instanceMethod yX4_holder ∈ AW := aT3 (List.mem_of_getElem? (i := 51) rfl) (by decide +kernel)
theorem w_267 : Cond.selects RX4 yX4_holder yX4_holder ∈ AW := aT3 (List.mem_of_getElem? (i := 52) rfl) (by decide +kernel)
theorem w_268 : Cond.code yX4_holder cX4_holder 3 (some (.int)) ∈ AW := aT3 (List.mem_of_getElem? (i := 53) rfl) (by decide +kernel)
theorem w_269 : Cond.methodLink RL 59 yX6_at ∈ AW := aT3 (List.mem_of_getElem? (i := 45) rfl) (by decide +kernel)
theorem w_270 : Cond.instanceMethod yX6_at ∈ AW := aT3 (List.mem_of_getElem? (i := 46) rfl) (by decide +kernel)
theorem w_271 : Cond.selects RX6 yX6_at yX6_at ∈ AW := aT3 (List.mem_of_getElem? (i := 47) rfl) (by decide +kernel)
theorem w_272 : Cond.code yX6_at cX6_at 3 (some (.int)) ∈ AW := aT3 (List.mem_of_getElem? (i := 48) rfl) (by decide +kernel)
theorem w_273 : Cond.methodLink RX6 185 yX4_longestFor ∈ AW := aT3 (List.mem_of_getElem? (i := 128) rfl) (by decide +kernel)
theorem w_274 : Cond.instanceMethod yX4_longestFor ∈ AW := aT3 (List.mem_of_getElem? (i := 129) rfl) (by decide +kernel)
theorem w_275 : Cond.selects RX4 yX4_longestFor yX4_longestFor ∈ AW := aT3 (List.mem_of_getElem? (i := 130) rfl) (by decide +kernel)
theorem w_276 : Cond.code yX4_longestFor cX4_longestFor 4 (some (.int)) ∈ AW := aT3 (List.mem_of_getElem? (i := 131) rfl) (by decide +kernel)
theorem w_277 : Cond.methodLink RL 90 yX6_longest ∈ AW := aT3 (List.mem_of_getElem? (i := 124) rfl) (by decide +kernel)
theorem w_278 : Cond.instanceMethod yX6_longest ∈ AW := aT3 (List.mem_of_getElem? (i := 125) rfl) (by decide +kernel)
theorem w_279 : Cond.selects RX6 yX6_longest yX6_longest ∈ AW := aT3 (List.mem_of_getElem? (i := 126) rfl) (by decide +kernel)
theorem w_280 : Cond.code yX6_longest cX6_longest 3 (some (.int)) ∈ AW := aT3 (List.mem_of_getElem? (i := 127) rfl) (by decide +kernel)
theorem w_281 : Cond.methodLink RL 74 yL_isFree ∈ AW := aT3 (List.mem_of_getElem? (i := 102) rfl) (by decide +kernel)
theorem w_282 : Cond.static yL_isFree ∈ AW := aT3 (List.mem_of_getElem? (i := 103) rfl) (by decide +kernel)
theorem w_283 : Cond.initialized RL ∈ AW := aT1 (List.mem_of_getElem? (i := 0) rfl) (by decide +kernel)
theorem w_284 : Cond.code yL_isFree cL_isFree 6 (some (.boolean)) ∈ AW := aT3 (List.mem_of_getElem? (i := 104) rfl) (by decide +kernel)
theorem w_285 : Cond.methodLink RL 78 yL_has ∈ AW := aT3 (List.mem_of_getElem? (i := 105) rfl) (by decide +kernel)
theorem w_286 : Cond.static yL_has ∈ AW := aT3 (List.mem_of_getElem? (i := 106) rfl) (by decide +kernel)
theorem w_287 : Cond.code yL_has cL_has 6 (some (.boolean)) ∈ AW := aT3 (List.mem_of_getElem? (i := 107) rfl) (by decide +kernel)
theorem w_288 : Cond.methodLink RX6 166 yX6_accountOf ∈ AW := aT2 (List.mem_of_getElem? (i := 33) rfl) (by decide +kernel)
theorem w_289 : Cond.instanceMethod yX6_accountOf ∈ AW := aT2 (List.mem_of_getElem? (i := 35) rfl) (by decide +kernel)
theorem w_290 : Cond.selects RX6 yX6_accountOf yX6_accountOf ∈ AW := aP (List.mem_of_getElem? (i := 2) rfl) (by decide +kernel)
theorem w_291 : Cond.code yX6_accountOf cX6_accountOf 2 (some (.int)) ∈ AW := aT2 (List.mem_of_getElem? (i := 36) rfl) (by decide +kernel)
theorem w_292 : Cond.methodLink RL 53 yX6_count ∈ AW := aT2 (List.mem_of_getElem? (i := 10) rfl) (by decide +kernel)
theorem w_293 : Cond.instanceMethod yX6_count ∈ AW := aT2 (List.mem_of_getElem? (i := 11) rfl) (by decide +kernel)
theorem w_294 : Cond.selects RX6 yX6_count yX6_count ∈ AW := aT2 (List.mem_of_getElem? (i := 12) rfl) (by decide +kernel)
theorem w_295 : Cond.code yX6_count cX6_count 2 (some (.int)) ∈ AW := aT2 (List.mem_of_getElem? (i := 13) rfl) (by decide +kernel)
theorem w_296 : Cond.methodLink RL 50 yX6_poorest ∈ AW := aT3 (List.mem_of_getElem? (i := 25) rfl) (by decide +kernel)
theorem w_297 : Cond.instanceMethod yX6_poorest ∈ AW := aT3 (List.mem_of_getElem? (i := 26) rfl) (by decide +kernel)
theorem w_298 : Cond.selects RX6 yX6_poorest yX6_poorest ∈ AW := aT3 (List.mem_of_getElem? (i := 27) rfl) (by decide +kernel)
theorem w_299 : Cond.code yX6_poorest cX6_poorest 1 (some (.int)) ∈ AW := aT3 (List.mem_of_getElem? (i := 28) rfl) (by decide +kernel)
theorem w_300 : Cond.methodLink RX6 169 yX3_refusedFor ∈ AW := aT3 (List.mem_of_getElem? (i := 58) rfl) (by decide +kernel)
theorem w_301 : Cond.instanceMethod yX3_refusedFor ∈ AW := aT3 (List.mem_of_getElem? (i := 59) rfl) (by decide +kernel)
theorem w_302 : Cond.selects RX3 yX3_refusedFor yX3_refusedFor ∈ AW := aT3 (List.mem_of_getElem? (i := 60) rfl) (by decide +kernel)
theorem w_303 : Cond.code yX3_refusedFor cX3_refusedFor 2 (some (.int)) ∈ AW := aT3 (List.mem_of_getElem? (i := 61) rfl) (by decide +kernel)
theorem w_304 : Cond.methodLink RL 62 yX6_refused ∈ AW := aT3 (List.mem_of_getElem? (i := 54) rfl) (by decide +kernel)
theorem w_305 : Cond.instanceMethod yX6_refused ∈ AW := aT3 (List.mem_of_getElem? (i := 55) rfl) (by decide +kernel)
theorem w_306 : Cond.selects RX6 yX6_refused yX6_refused ∈ AW := aT3 (List.mem_of_getElem? (i := 56) rfl) (by decide +kernel)
theorem w_307 : Cond.code yX6_refused cX6_refused 2 (some (.int)) ∈ AW := aT3 (List.mem_of_getElem? (i := 57) rfl) (by decide +kernel)
theorem w_308 : Cond.methodLink RX6 163 yX3_lodgerNumber ∈ AW := aT3 (List.mem_of_getElem? (i := 41) rfl) (by decide +kernel)
theorem w_309 : Cond.instanceMethod yX3_lodgerNumber ∈ AW := aT3 (List.mem_of_getElem? (i := 42) rfl) (by decide +kernel)
theorem w_310 : Cond.selects RX3 yX3_lodgerNumber yX3_lodgerNumber ∈ AW := aT3 (List.mem_of_getElem? (i := 43) rfl) (by decide +kernel)
theorem w_311 : Cond.code yX3_lodgerNumber cX3_lodgerNumber 3 (some (.int)) ∈ AW := aT3 (List.mem_of_getElem? (i := 44) rfl) (by decide +kernel)
theorem w_312 : Cond.methodLink RL 56 yX6_lodgerOf ∈ AW := aT3 (List.mem_of_getElem? (i := 37) rfl) (by decide +kernel)
theorem w_313 : Cond.instanceMethod yX6_lodgerOf ∈ AW := aT3 (List.mem_of_getElem? (i := 38) rfl) (by decide +kernel)
theorem w_314 : Cond.selects RX6 yX6_lodgerOf yX6_lodgerOf ∈ AW := aT3 (List.mem_of_getElem? (i := 39) rfl) (by decide +kernel)
theorem w_315 : Cond.code yX6_lodgerOf cX6_lodgerOf 3 (some (.int)) ∈ AW := aT3 (List.mem_of_getElem? (i := 40) rfl) (by decide +kernel)
theorem w_316 : Cond.constantDouble RL 65 4631952216750555136 ∈ AW := aT3 (List.mem_of_getElem? (i := 65) rfl) (by decide +kernel)
theorem w_317 : Cond.methodLink RX6 182 yX4_mostLentBeds ∈ AW := aT3 (List.mem_of_getElem? (i := 85) rfl) (by decide +kernel)
theorem w_318 : Cond.instanceMethod yX4_mostLentBeds ∈ AW := aT3 (List.mem_of_getElem? (i := 86) rfl) (by decide +kernel)
theorem w_319 : Cond.selects RX4 yX4_mostLentBeds yX4_mostLentBeds ∈ AW := aT3 (List.mem_of_getElem? (i := 87) rfl) (by decide +kernel)
theorem w_320 : Cond.code yX4_mostLentBeds cX4_mostLentBeds 3 (some (.int)) ∈ AW := aT3 (List.mem_of_getElem? (i := 88) rfl) (by decide +kernel)
theorem w_321 : Cond.fieldLink RX6 31 "SevenAsks" "laying" "LSevenAsks$BedLaying;" ∈ AW := aT1 (List.mem_of_getElem? (i := 135) rfl) (by decide +kernel)
theorem w_322 : Cond.methodLink RX6 178 yX1_bedsFor ∈ AW := aT3 (List.mem_of_getElem? (i := 70) rfl) (by decide +kernel)
theorem w_323 : Cond.instanceMethod yX1_bedsFor ∈ AW := aT3 (List.mem_of_getElem? (i := 71) rfl) (by decide +kernel)
theorem w_324 : Cond.selects RX1 yX1_bedsFor yX1_bedsFor ∈ AW := aT3 (List.mem_of_getElem? (i := 72) rfl) (by decide +kernel)
theorem w_325 : Cond.code yX1_bedsFor cX1_bedsFor 5 (some (.int)) ∈ AW := aT3 (List.mem_of_getElem? (i := 73) rfl) (by decide +kernel)
theorem w_326 : Cond.methodLink RL 67 yX6_fewestBeds ∈ AW := aT3 (List.mem_of_getElem? (i := 66) rfl) (by decide +kernel)
theorem w_327 : Cond.instanceMethod yX6_fewestBeds ∈ AW := aT3 (List.mem_of_getElem? (i := 67) rfl) (by decide +kernel)
theorem w_328 : Cond.selects RX6 yX6_fewestBeds yX6_fewestBeds ∈ AW := aT3 (List.mem_of_getElem? (i := 68) rfl) (by decide +kernel)
theorem w_329 : Cond.code yX6_fewestBeds cX6_fewestBeds 2 (some (.int)) ∈ AW := aT3 (List.mem_of_getElem? (i := 69) rfl) (by decide +kernel)
theorem w_330 : Cond.methodLink RL 70 yX6_fullness ∈ AW := aT3 (List.mem_of_getElem? (i := 90) rfl) (by decide +kernel)
theorem w_331 : Cond.instanceMethod yX6_fullness ∈ AW := aT3 (List.mem_of_getElem? (i := 91) rfl) (by decide +kernel)
theorem w_332 : Cond.selects RX6 yX6_fullness yX6_fullness ∈ AW := aT3 (List.mem_of_getElem? (i := 92) rfl) (by decide +kernel)
theorem w_333 : Cond.code yX6_fullness cX6_fullness 1 (some (.double)) ∈ AW := aT3 (List.mem_of_getElem? (i := 93) rfl) (by decide +kernel)
theorem w_334 : Cond.methodLink RX6 172 yX3_answerTo ∈ AW := aT3 (List.mem_of_getElem? (i := 112) rfl) (by decide +kernel)
theorem w_335 : Cond.methodLink RL 81 yX6_ifAsked ∈ AW := aT3 (List.mem_of_getElem? (i := 108) rfl) (by decide +kernel)
theorem w_336 : Cond.instanceMethod yX6_ifAsked ∈ AW := aT3 (List.mem_of_getElem? (i := 109) rfl) (by decide +kernel)
theorem w_337 : Cond.selects RX6 yX6_ifAsked yX6_ifAsked ∈ AW := aT3 (List.mem_of_getElem? (i := 110) rfl) (by decide +kernel)
theorem w_338 : Cond.code yX6_ifAsked cX6_ifAsked 4 (some (.int)) ∈ AW := aT3 (List.mem_of_getElem? (i := 111) rfl) (by decide +kernel)
theorem w_339 : Cond.methodLink RX6 175 yX3_wouldBePutOut ∈ AW := aT3 (List.mem_of_getElem? (i := 117) rfl) (by decide +kernel)
theorem w_340 : Cond.instanceMethod yX3_wouldBePutOut ∈ AW := aT3 (List.mem_of_getElem? (i := 118) rfl) (by decide +kernel)
theorem w_341 : Cond.selects RX3 yX3_wouldBePutOut yX3_wouldBePutOut ∈ AW := aT3 (List.mem_of_getElem? (i := 119) rfl) (by decide +kernel)
theorem w_342 : Cond.code yX3_wouldBePutOut cX3_wouldBePutOut 5 (some (.int)) ∈ AW := aT3 (List.mem_of_getElem? (i := 120) rfl) (by decide +kernel)
theorem w_343 : Cond.methodLink RL 84 yX6_ifPutOut ∈ AW := aT3 (List.mem_of_getElem? (i := 113) rfl) (by decide +kernel)
theorem w_344 : Cond.instanceMethod yX6_ifPutOut ∈ AW := aT3 (List.mem_of_getElem? (i := 114) rfl) (by decide +kernel)
theorem w_345 : Cond.selects RX6 yX6_ifPutOut yX6_ifPutOut ∈ AW := aT3 (List.mem_of_getElem? (i := 115) rfl) (by decide +kernel)
theorem w_346 : Cond.code yX6_ifPutOut cX6_ifPutOut 4 (some (.int)) ∈ AW := aT3 (List.mem_of_getElem? (i := 116) rfl) (by decide +kernel)
theorem w_347 : Cond.methodLink RX6 134 yX5_restore ∈ AW := aT1 (List.mem_of_getElem? (i := 226) rfl) (by decide +kernel)
theorem w_348 : Cond.instanceMethod yX5_restore ∈ AW := aT1 (List.mem_of_getElem? (i := 227) rfl) (by decide +kernel)
theorem w_349 : Cond.selects RX5 yX5_restore yX5_restore ∈ AW := aT1 (List.mem_of_getElem? (i := 228) rfl) (by decide +kernel)
theorem w_350 : Cond.code yX5_restore cX5_restore 4 none ∈ AW := aT1 (List.mem_of_getElem? (i := 229) rfl) (by decide +kernel)
theorem w_351 : Cond.methodLink RL 87 yX6_undo ∈ AW := aT1 (List.mem_of_getElem? (i := 154) rfl) (by decide +kernel)
theorem w_352 : Cond.instanceMethod yX6_undo ∈ AW := aT1 (List.mem_of_getElem? (i := 155) rfl) (by decide +kernel)
theorem w_353 : Cond.selects RX6 yX6_undo yX6_undo ∈ AW := aT1 (List.mem_of_getElem? (i := 156) rfl) (by decide +kernel)
theorem w_354 : Cond.code yX6_undo cX6_undo 1 (some (.int)) ∈ AW := aT1 (List.mem_of_getElem? (i := 157) rfl) (by decide +kernel)
theorem w_355 : Cond.methodLink RL 8 yX6_ask ∈ AW := aT2 (List.mem_of_getElem? (i := 73) rfl) (by decide +kernel)
theorem w_356 : Cond.instanceMethod yX6_ask ∈ AW := aT2 (List.mem_of_getElem? (i := 74) rfl) (by decide +kernel)
theorem w_357 : Cond.selects RX6 yX6_ask yX6_ask ∈ AW := aT2 (List.mem_of_getElem? (i := 75) rfl) (by decide +kernel)
theorem w_358 : Cond.code yX6_ask cX6_ask 4 (some (.int)) ∈ AW := aT2 (List.mem_of_getElem? (i := 76) rfl) (by decide +kernel)
theorem w_359 : Cond.classLink RL 14 "java/lang/IndexOutOfBoundsException" ∈ AW := aT2 (List.mem_of_getElem? (i := 71) rfl) (by decide +kernel)
theorem w_360 : Cond.classLink RL 16 "java/lang/IllegalArgumentException" ∈ AW := aT2 (List.mem_of_getElem? (i := 72) rfl) (by decide +kernel)
theorem w_361 : Cond.codeWith yL_asks cL_asks 6 (some .int) [(0, 11, 14, 14), (0, 11, 18, 16)] ∈ AW := aT2 (List.mem_of_getElem? (i := 70) rfl) (by decide +kernel)
theorem w_362 : Cond.classLink RL 36 "java/lang/IllegalStateException" ∈ AW := aT2 (List.mem_of_getElem? (i := 200) rfl) (by decide +kernel)
theorem w_363 : Cond.codeWith yL_changes cL_changes 6 (some .int) [(0, 61, 64, 14), (0, 61, 68, 16), (0, 61, 72, 36)] ∈ AW := aT2 (List.mem_of_getElem? (i := 199) rfl) (by decide +kernel)
theorem w_364 : Cond.methodLink RL 32 yX6_pass ∈ AW := aT3 (List.mem_of_getElem? (i := 4) rfl) (by decide +kernel)
theorem w_365 : Cond.instanceMethod yX6_pass ∈ AW := aT3 (List.mem_of_getElem? (i := 5) rfl) (by decide +kernel)
theorem w_366 : Cond.selects RX6 yX6_pass yX6_pass ∈ AW := aT3 (List.mem_of_getElem? (i := 6) rfl) (by decide +kernel)
theorem w_367 : Cond.code yX6_pass cX6_pass 1 (some (.int)) ∈ AW := aT3 (List.mem_of_getElem? (i := 7) rfl) (by decide +kernel)
theorem w_368 : Cond.methodLink RL 29 yX6_set ∈ AW := aT2 (List.mem_of_getElem? (i := 236) rfl) (by decide +kernel)
theorem w_369 : Cond.instanceMethod yX6_set ∈ AW := aT2 (List.mem_of_getElem? (i := 237) rfl) (by decide +kernel)
theorem w_370 : Cond.selects RX6 yX6_set yX6_set ∈ AW := aT2 (List.mem_of_getElem? (i := 238) rfl) (by decide +kernel)
theorem w_371 : Cond.code yX6_set cX6_set 2 (some (.int)) ∈ AW := aT2 (List.mem_of_getElem? (i := 239) rfl) (by decide +kernel)
theorem w_372 : Cond.methodLink RL 26 yX6_need ∈ AW := aT2 (List.mem_of_getElem? (i := 225) rfl) (by decide +kernel)
theorem w_373 : Cond.instanceMethod yX6_need ∈ AW := aT2 (List.mem_of_getElem? (i := 226) rfl) (by decide +kernel)
theorem w_374 : Cond.selects RX6 yX6_need yX6_need ∈ AW := aT2 (List.mem_of_getElem? (i := 227) rfl) (by decide +kernel)
theorem w_375 : Cond.code yX6_need cX6_need 3 (some (.int)) ∈ AW := aT2 (List.mem_of_getElem? (i := 228) rfl) (by decide +kernel)
theorem w_376 : Cond.methodLink RL 22 yX6_favour ∈ AW := aT2 (List.mem_of_getElem? (i := 217) rfl) (by decide +kernel)
theorem w_377 : Cond.instanceMethod yX6_favour ∈ AW := aT2 (List.mem_of_getElem? (i := 218) rfl) (by decide +kernel)
theorem w_378 : Cond.selects RX6 yX6_favour yX6_favour ∈ AW := aT2 (List.mem_of_getElem? (i := 219) rfl) (by decide +kernel)
theorem w_379 : Cond.code yX6_favour cX6_favour 2 (some (.int)) ∈ AW := aT2 (List.mem_of_getElem? (i := 220) rfl) (by decide +kernel)
theorem w_380 : Cond.methodLink RL 18 yX6_giveBack ∈ AW := aT2 (List.mem_of_getElem? (i := 201) rfl) (by decide +kernel)
theorem w_381 : Cond.instanceMethod yX6_giveBack ∈ AW := aT2 (List.mem_of_getElem? (i := 202) rfl) (by decide +kernel)
theorem w_382 : Cond.selects RX6 yX6_giveBack yX6_giveBack ∈ AW := aT2 (List.mem_of_getElem? (i := 203) rfl) (by decide +kernel)
theorem w_383 : Cond.code yX6_giveBack cX6_giveBack 3 (some (.int)) ∈ AW := aT2 (List.mem_of_getElem? (i := 204) rfl) (by decide +kernel)
theorem w_384 : Cond.methodLink RL 38 yL_low ∈ AW := aT2 (List.mem_of_getElem? (i := 61) rfl) (by decide +kernel)
theorem w_385 : Cond.static yL_low ∈ AW := aT2 (List.mem_of_getElem? (i := 62) rfl) (by decide +kernel)
theorem w_386 : Cond.code yL_low cL_low 2 (some (.int)) ∈ AW := aT2 (List.mem_of_getElem? (i := 63) rfl) (by decide +kernel)
theorem w_387 : Cond.methodLink RL 47 yL_changes ∈ AW := aT2 (List.mem_of_getElem? (i := 197) rfl) (by decide +kernel)
theorem w_388 : Cond.static yL_changes ∈ AW := aT2 (List.mem_of_getElem? (i := 198) rfl) (by decide +kernel)
theorem w_389 : Cond.methodLink RL 43 yL_asks ∈ AW := aT2 (List.mem_of_getElem? (i := 68) rfl) (by decide +kernel)
theorem w_390 : Cond.static yL_asks ∈ AW := aT2 (List.mem_of_getElem? (i := 69) rfl) (by decide +kernel)
theorem w_391 : Cond.methodLink RL 106 yL_areSums ∈ AW := aT3 (List.mem_of_getElem? (i := 62) rfl) (by decide +kernel)
theorem w_392 : Cond.static yL_areSums ∈ AW := aT3 (List.mem_of_getElem? (i := 63) rfl) (by decide +kernel)
theorem w_393 : Cond.code yL_areSums cL_areSums 12 (some (.boolean)) ∈ AW := aT3 (List.mem_of_getElem? (i := 64) rfl) (by decide +kernel)
theorem w_394 : Cond.methodLink RL 94 yL_cell ∈ AW := aT2 (List.mem_of_getElem? (i := 58) rfl) (by decide +kernel)
theorem w_395 : Cond.static yL_cell ∈ AW := aT2 (List.mem_of_getElem? (i := 59) rfl) (by decide +kernel)
theorem w_396 : Cond.code yL_cell cL_cell 2 (some (.int)) ∈ AW := aT2 (List.mem_of_getElem? (i := 60) rfl) (by decide +kernel)
theorem w_397 : Cond.methodLink RL 98 yL_act ∈ AW := aT2 (List.mem_of_getElem? (i := 65) rfl) (by decide +kernel)
theorem w_398 : Cond.static yL_act ∈ AW := aT2 (List.mem_of_getElem? (i := 66) rfl) (by decide +kernel)
theorem w_399 : Cond.code yL_act cL_act 8 (some (.int)) ∈ AW := aT2 (List.mem_of_getElem? (i := 67) rfl) (by decide +kernel)
theorem w_400 : Cond.methodLink RL 102 yL_areAlike ∈ AW := aT3 (List.mem_of_getElem? (i := 22) rfl) (by decide +kernel)
theorem w_401 : Cond.static yL_areAlike ∈ AW := aT3 (List.mem_of_getElem? (i := 23) rfl) (by decide +kernel)
theorem w_402 : Cond.code yL_areAlike cL_areAlike 4 (some (.boolean)) ∈ AW := aT3 (List.mem_of_getElem? (i := 24) rfl) (by decide +kernel)
theorem w_403 : Cond.methodLink RL 110 yL_isAskingSo ∈ AW := aT3 (List.mem_of_getElem? (i := 99) rfl) (by decide +kernel)
theorem w_404 : Cond.static yL_isAskingSo ∈ AW := aT3 (List.mem_of_getElem? (i := 100) rfl) (by decide +kernel)
theorem w_405 : Cond.code yL_isAskingSo cL_isAskingSo 18 (some (.boolean)) ∈ AW := aT3 (List.mem_of_getElem? (i := 101) rfl) (by decide +kernel)
theorem w_406 : Cond.methodLink RL 113 yL_isLongestSo ∈ AW := aT3 (List.mem_of_getElem? (i := 121) rfl) (by decide +kernel)
theorem w_407 : Cond.static yL_isLongestSo ∈ AW := aT3 (List.mem_of_getElem? (i := 122) rfl) (by decide +kernel)
theorem w_408 : Cond.code yL_isLongestSo cL_isLongestSo 9 (some (.boolean)) ∈ AW := aT3 (List.mem_of_getElem? (i := 123) rfl) (by decide +kernel)
theorem w_409 : Cond.laysFinal RX0 "SevenAsks$AskingText" "signs" "[I" ∈ AW := aT1 (List.mem_of_getElem? (i := 127) rfl) (by decide +kernel)
theorem w_410 : Cond.lays RX0 "SevenAsks$AskingText" "size" "I" ∈ AW := aT1 (List.mem_of_getElem? (i := 129) rfl) (by decide +kernel)
theorem w_411 : Cond.laysFinal RX1 "SevenAsks$BedLaying" "busyUntil" "[I" ∈ AW := aT1 (List.mem_of_getElem? (i := 117) rfl) (by decide +kernel)
theorem w_412 : Cond.laysFinal RX2 "SevenAsks$Grid" "rows" "I" ∈ AW := aT1 (List.mem_of_getElem? (i := 50) rfl) (by decide +kernel)
theorem w_413 : Cond.laysFinal RX2 "SevenAsks$Grid" "columns" "I" ∈ AW := aT1 (List.mem_of_getElem? (i := 52) rfl) (by decide +kernel)
theorem w_414 : Cond.laysFinal RX2 "SevenAsks$Grid" "numbers" "[I" ∈ AW := aT1 (List.mem_of_getElem? (i := 54) rfl) (by decide +kernel)
theorem w_415 : Cond.laysFinal RX3 "SevenAsks$House" "night" "LSevenAsks$Night;" ∈ AW := aT1 (List.mem_of_getElem? (i := 83) rfl) (by decide +kernel)
theorem w_416 : Cond.laysFinal RX3 "SevenAsks$House" "lodgers" "LSevenAsks$Grid;" ∈ AW := aT1 (List.mem_of_getElem? (i := 85) rfl) (by decide +kernel)
theorem w_417 : Cond.laysFinal RX3 "SevenAsks$House" "accounts" "LSevenAsks$Grid;" ∈ AW := aT1 (List.mem_of_getElem? (i := 87) rfl) (by decide +kernel)
theorem w_418 : Cond.laysFinal RX3 "SevenAsks$House" "reasons" "LSevenAsks$Grid;" ∈ AW := aT1 (List.mem_of_getElem? (i := 89) rfl) (by decide +kernel)
theorem w_419 : Cond.laysFinal RX4 "SevenAsks$Night" "holders" "LSevenAsks$Grid;" ∈ AW := aT1 (List.mem_of_getElem? (i := 67) rfl) (by decide +kernel)
theorem w_420 : Cond.lays RX4 "SevenAsks$Night" "gone" "I" ∈ AW := aT1 (List.mem_of_getElem? (i := 69) rfl) (by decide +kernel)
theorem w_421 : Cond.laysFinal RX5 "SevenAsks$Shelf" "houses" "[LSevenAsks$House;" ∈ AW := aT1 (List.mem_of_getElem? (i := 104) rfl) (by decide +kernel)
theorem w_422 : Cond.laysFinal RX5 "SevenAsks$Shelf" "filled" "[Z" ∈ AW := aT1 (List.mem_of_getElem? (i := 106) rfl) (by decide +kernel)
theorem w_423 : Cond.laysFinal RX6 "SevenAsks" "house" "LSevenAsks$House;" ∈ AW := aT1 (List.mem_of_getElem? (i := 139) rfl) (by decide +kernel)
theorem w_424 : Cond.laysFinal RX6 "SevenAsks" "slots" "LSevenAsks$Shelf;" ∈ AW := aT1 (List.mem_of_getElem? (i := 141) rfl) (by decide +kernel)
theorem w_425 : Cond.laysFinal RX6 "SevenAsks" "saved" "LSevenAsks$Shelf;" ∈ AW := aT1 (List.mem_of_getElem? (i := 143) rfl) (by decide +kernel)
theorem w_426 : Cond.laysFinal RX6 "SevenAsks" "laying" "LSevenAsks$BedLaying;" ∈ AW := aT1 (List.mem_of_getElem? (i := 145) rfl) (by decide +kernel)
theorem w_427 : Cond.laysFinal RX6 "SevenAsks" "text" "LSevenAsks$AskingText;" ∈ AW := aT1 (List.mem_of_getElem? (i := 147) rfl) (by decide +kernel)
theorem w_428 : Cond.lays RX6 "SevenAsks" "savedCount" "I" ∈ AW := aT1 (List.mem_of_getElem? (i := 149) rfl) (by decide +kernel)
theorem w_429 : Cond.lays RX6 "SevenAsks" "nextSaved" "I" ∈ AW := aT1 (List.mem_of_getElem? (i := 151) rfl) (by decide +kernel)
theorem kd0 {G : gT} {i : Nat} (H : CL G) (h : KD G i 0) : KD G (i + 1) 8 := by
  have hL := H i h.1
  have g0 : ∀ i, i < 203 → kd i = 0 → kd (i + 1) = 8 := by decide +kernel
  have g := g0 i hL.1 h.2
  exact ⟨(hL.2.1 h.2), g⟩
theorem kd1 {G : gT} {i : Nat} (H : CL G) (h : KD G i 1) : KD G (i + 1) 8 := by
  have hL := H i h.1
  have g0 : ∀ i, i < 203 → kd i = 1 → kd (i + 1) = 8 := by decide +kernel
  have g := g0 i hL.1 h.2
  exact ⟨(hL.2.2.1 h.2), g⟩
theorem kd2 {G : gT} {i : Nat} (H : CL G) (h : KD G i 2) : KD G (i + 1) 8 := by
  have hL := H i h.1
  have g0 : ∀ i, i < 203 → kd i = 2 → kd (i + 1) = 8 := by decide +kernel
  have g := g0 i hL.1 h.2
  exact ⟨(hL.2.2.2.1 h.2), g⟩
theorem kd3 {G : gT} {i : Nat} (H : CL G) (h : KD G i 3) : KD G (i + 1) 4 ∧ KD G (i + 4) 2 ∧ KD G (i + 6) 2 ∧ KD G (i + 8) 2 := by
  have hL := H i h.1
  have g0 : ∀ i, i < 203 → kd i = 3 → kd (i + 1) = 4 ∧ kd (i + 4) = 2 ∧ kd (i + 6) = 2 ∧ kd (i + 8) = 2 := by decide +kernel
  have g := g0 i hL.1 h.2
  exact ⟨⟨(hL.2.2.2.2.1 h.2).1, g.1⟩, ⟨(hL.2.2.2.2.1 h.2).2.1, g.2.1⟩, ⟨(hL.2.2.2.2.1 h.2).2.2.1, g.2.2.1⟩, ⟨(hL.2.2.2.2.1 h.2).2.2.2, g.2.2.2⟩⟩
theorem kd4 {G : gT} {i : Nat} (H : CL G) (h : KD G i 4) : KD G (i + 1) 2 := by
  have hL := H i h.1
  have g0 : ∀ i, i < 203 → kd i = 4 → kd (i + 1) = 2 := by decide +kernel
  have g := g0 i hL.1 h.2
  exact ⟨(hL.2.2.2.2.2.1 h.2), g⟩
theorem kd5 {G : gT} {i : Nat} (H : CL G) (h : KD G i 5) : KD G (i + 1) 10 ∧ KD G (i + 2) 9 := by
  have hL := H i h.1
  have g0 : ∀ i, i < 203 → kd i = 5 → kd (i + 1) = 10 ∧ kd (i + 2) = 9 := by decide +kernel
  have g := g0 i hL.1 h.2
  exact ⟨⟨(hL.2.2.2.2.2.2.1 h.2).1, g.1⟩, ⟨(hL.2.2.2.2.2.2.1 h.2).2, g.2⟩⟩
theorem kd6 {G : gT} {i : Nat} (H : CL G) (h : KD G i 6) : KD G (i + 1) 3 ∧ KD G (i + 11) 5 ∧ KD G (i + 34) 5 ∧ KD G (i + 97) 1 ∧ KD G (i + 99) 0 := by
  have hL := H i h.1
  have g0 : ∀ i, i < 203 → kd i = 6 → kd (i + 1) = 3 ∧ kd (i + 11) = 5 ∧ kd (i + 34) = 5 ∧ kd (i + 97) = 1 ∧ kd (i + 99) = 0 := by decide +kernel
  have g := g0 i hL.1 h.2
  exact ⟨⟨(hL.2.2.2.2.2.2.2.1 h.2).1, g.1⟩, ⟨(hL.2.2.2.2.2.2.2.1 h.2).2.1, g.2.1⟩, ⟨(hL.2.2.2.2.2.2.2.1 h.2).2.2.1, g.2.2.1⟩, ⟨(hL.2.2.2.2.2.2.2.1 h.2).2.2.2.1, g.2.2.2.1⟩, ⟨(hL.2.2.2.2.2.2.2.1 h.2).2.2.2.2, g.2.2.2.2⟩⟩
theorem kd10 {G : gT} {i : Nat} (H : CL G) (h : KD G i 10) {j : Int32} (hj : ¬ (j < 0 ∨ ln i ≤ j.toNatClampNeg)) : KD G (i + 2 + 10 * j.toNatClampNeg) 3 := by
  have hL := H i h.1
  have h2 : ∀ i, i < 203 → kd i = 10 → ∀ k, k < ln i → kd (i + 2 + 10 * k) = 3 := by decide +kernel
  have h3 := Nat.not_le.mp fun q => hj (Or.inr q)
  exact ⟨hL.2.2.2.2.2.2.2.2.2 h.2 _ h3, h2 i hL.1 h.2 _ h3⟩
theorem inA0 : ∀ w ∈ u_ws RX0 TX0 2, w ∈ AW := by
  intro w hw
  obtain ⟨k, hk, rfl⟩ := List.mem_map.mp hw
  have hk := List.mem_range.mp hk
  rcases (show k = 0 ∨ k = 1 by omega) with rfl | rfl
  · exact w_409
  · exact w_410
theorem inA1 : ∀ w ∈ u_ws RX1 TX1 1, w ∈ AW := by
  intro w hw
  obtain ⟨k, hk, rfl⟩ := List.mem_map.mp hw
  have hk := List.mem_range.mp hk
  rcases (show k = 0 by omega) with rfl
  · exact w_411
theorem inA2 : ∀ w ∈ u_ws RX2 TX2 3, w ∈ AW := by
  intro w hw
  obtain ⟨k, hk, rfl⟩ := List.mem_map.mp hw
  have hk := List.mem_range.mp hk
  rcases (show k = 0 ∨ k = 1 ∨ k = 2 by omega) with rfl | rfl | rfl
  · exact w_412
  · exact w_413
  · exact w_414
theorem inA3 : ∀ w ∈ u_ws RX3 TX3 4, w ∈ AW := by
  intro w hw
  obtain ⟨k, hk, rfl⟩ := List.mem_map.mp hw
  have hk := List.mem_range.mp hk
  rcases (show k = 0 ∨ k = 1 ∨ k = 2 ∨ k = 3 by omega) with rfl | rfl | rfl | rfl
  · exact w_415
  · exact w_416
  · exact w_417
  · exact w_418
theorem inA4 : ∀ w ∈ u_ws RX4 TX4 2, w ∈ AW := by
  intro w hw
  obtain ⟨k, hk, rfl⟩ := List.mem_map.mp hw
  have hk := List.mem_range.mp hk
  rcases (show k = 0 ∨ k = 1 by omega) with rfl | rfl
  · exact w_419
  · exact w_420
theorem inA5 : ∀ w ∈ u_ws RX5 TX5 2, w ∈ AW := by
  intro w hw
  obtain ⟨k, hk, rfl⟩ := List.mem_map.mp hw
  have hk := List.mem_range.mp hk
  rcases (show k = 0 ∨ k = 1 by omega) with rfl | rfl
  · exact w_421
  · exact w_422
theorem inA6 : ∀ w ∈ u_ws RX6 TX6 7, w ∈ AW := by
  intro w hw
  obtain ⟨k, hk, rfl⟩ := List.mem_map.mp hw
  have hk := List.mem_range.mp hk
  rcases (show k = 0 ∨ k = 1 ∨ k = 2 ∨ k = 3 ∨ k = 4 ∨ k = 5 ∨ k = 6 by omega) with rfl | rfl | rfl | rfl | rfl | rfl | rfl
  · exact w_423
  · exact w_424
  · exact w_425
  · exact w_426
  · exact w_427
  · exact w_428
  · exact w_429
section
variable {p : Program} {l : Launch} {e : Env} {R : Room} {s : State} {m : MethodId} {args : Array Value} {below : List Frame} {meth : Method} {c : Code} {nL : Nat} {G : gT} {A : Nat → Prop} {Q : State → Prop} {k n pc : Nat} {lv : List (Nat × Value)} {st : List Value} {x : xS} {cc : ByteArray} {own : String} {ret : Option FieldType}
theorem gfX1_9 (C : CT p s m args meth c cc nL RX1 ret G A) {i : Nat} (hk : KD G i 1) (hd : decode cc pc = .ok (.getfield 9, 3)) (kk : WB p l e R s m args below meth c nL G A Q k n (pc + 3) lv (.ref (G.2.2 (i + 1)) :: st) x) : WB p l e R s m args below meth c nL G A Q k n pc lv (.ref (G.2.2 i) :: st) x := b_getf (K := 1) (q := 0) C hk (by decide) rfl inA1 (by decide) w_3 rfl rfl hd kk
theorem gfX4_14 (C : CT p s m args meth c cc nL RX4 ret G A) {i : Nat} (hk : KD G i 4) (hd : decode cc pc = .ok (.getfield 14, 3)) (kk : WB p l e R s m args below meth c nL G A Q k n (pc + 3) lv (.ref (G.2.2 (i + 1)) :: st) x) : WB p l e R s m args below meth c nL G A Q k n pc lv (.ref (G.2.2 i) :: st) x := b_getf (K := 4) (q := 0) C hk (by decide) rfl inA4 (by decide) w_8 rfl rfl hd kk
theorem gfX2_15 (C : CT p s m args meth c cc nL RX2 ret G A) {i : Nat} (hk : KD G i 2) (hd : decode cc pc = .ok (.getfield 15, 3)) (kk : WB p l e R s m args below meth c nL G A Q k n (pc + 3) lv (.int (gR i) :: st) x) : WB p l e R s m args below meth c nL G A Q k n pc lv (.ref (G.2.2 i) :: st) x := b_getf (K := 2) (q := 0) C hk (by decide) rfl inA2 (by decide) w_9 rfl rfl hd kk
theorem gfX2_21 (C : CT p s m args meth c cc nL RX2 ret G A) {i : Nat} (hk : KD G i 2) (hd : decode cc pc = .ok (.getfield 21, 3)) (kk : WB p l e R s m args below meth c nL G A Q k n (pc + 3) lv (.int (gC i) :: st) x) : WB p l e R s m args below meth c nL G A Q k n pc lv (.ref (G.2.2 i) :: st) x := b_getf (K := 2) (q := 1) C hk (by decide) rfl inA2 (by decide) w_10 rfl rfl hd kk
theorem gfX2_24 (C : CT p s m args meth c cc nL RX2 ret G A) {i : Nat} (hk : KD G i 2) (hd : decode cc pc = .ok (.getfield 24, 3)) (kk : WB p l e R s m args below meth c nL G A Q k n (pc + 3) lv (.ref (G.2.2 (i + 1)) :: st) x) : WB p l e R s m args below meth c nL G A Q k n pc lv (.ref (G.2.2 i) :: st) x := b_getf (K := 2) (q := 2) C hk (by decide) rfl inA2 (by decide) w_11 rfl rfl hd kk
theorem gfX3_27 (C : CT p s m args meth c cc nL RX3 ret G A) {i : Nat} (hk : KD G i 3) (hd : decode cc pc = .ok (.getfield 27, 3)) (kk : WB p l e R s m args below meth c nL G A Q k n (pc + 3) lv (.ref (G.2.2 (i + 6)) :: st) x) : WB p l e R s m args below meth c nL G A Q k n pc lv (.ref (G.2.2 i) :: st) x := b_getf (K := 3) (q := 2) C hk (by decide) rfl inA3 (by decide) w_45 rfl rfl hd kk
theorem gfX3_12 (C : CT p s m args meth c cc nL RX3 ret G A) {i : Nat} (hk : KD G i 3) (hd : decode cc pc = .ok (.getfield 12, 3)) (kk : WB p l e R s m args below meth c nL G A Q k n (pc + 3) lv (.ref (G.2.2 (i + 1)) :: st) x) : WB p l e R s m args below meth c nL G A Q k n pc lv (.ref (G.2.2 i) :: st) x := b_getf (K := 3) (q := 0) C hk (by decide) rfl inA3 (by decide) w_47 rfl rfl hd kk
theorem gfX4_28 (C : CT p s m args meth c cc nL RX4 ret G A) {i : Nat} (hk : KD G i 4) (hd : decode cc pc = .ok (.getfield 28, 3)) (kk : WB p l e R s m args below meth c nL G A Q k n (pc + 3) lv (.int (x.1 i 1) :: st) x) : WB p l e R s m args below meth c nL G A Q k n pc lv (.ref (G.2.2 i) :: st) x := b_getf (K := 4) (q := 1) C hk (by decide) rfl inA4 (by decide) w_56 rfl rfl hd kk
theorem gfX3_23 (C : CT p s m args meth c cc nL RX3 ret G A) {i : Nat} (hk : KD G i 3) (hd : decode cc pc = .ok (.getfield 23, 3)) (kk : WB p l e R s m args below meth c nL G A Q k n (pc + 3) lv (.ref (G.2.2 (i + 4)) :: st) x) : WB p l e R s m args below meth c nL G A Q k n pc lv (.ref (G.2.2 i) :: st) x := b_getf (K := 3) (q := 1) C hk (by decide) rfl inA3 (by decide) w_73 rfl rfl hd kk
theorem pfX4_28 (C : CT p s m args meth c cc nL RX4 ret G A) {i : Nat} (hk : KD G i 4) {v : Int32} {y : xS} (hd : decode cc pc = .ok (.putfield 28, 3)) (hy : up1 x i 1 v = y) (kk : WB p l e R s m args below meth c nL G A Q k n (pc + 3) lv (st) y) : WB p l e R s m args below meth c nL G A Q k n pc lv (.int v :: .ref (G.2.2 i) :: st) x := by
  subst hy
  exact b_put (y := up1 x i 1 v) (K := 4) (q := 1) (ty := .int) C hk (by decide) rfl inA4 tyX4_ok nmX4 (by decide) w_56 rfl rfl (by decide +kernel) rfl rfl (by simp [gF]) hd (by simp [gF, up1, up2, upR, upd, vp_updL]) (fun j hj => (upR_other x _ hj).symm) (fun _ _ => rfl) kk
theorem gfX3_30 (C : CT p s m args meth c cc nL RX3 ret G A) {i : Nat} (hk : KD G i 3) (hd : decode cc pc = .ok (.getfield 30, 3)) (kk : WB p l e R s m args below meth c nL G A Q k n (pc + 3) lv (.ref (G.2.2 (i + 8)) :: st) x) : WB p l e R s m args below meth c nL G A Q k n pc lv (.ref (G.2.2 i) :: st) x := b_getf (K := 3) (q := 3) C hk (by decide) rfl inA3 (by decide) w_102 rfl rfl hd kk
theorem gfX5_15 (C : CT p s m args meth c cc nL RX5 ret G A) {i : Nat} (hk : KD G i 5) (hd : decode cc pc = .ok (.getfield 15, 3)) (kk : WB p l e R s m args below meth c nL G A Q k n (pc + 3) lv (.ref (G.2.2 (i + 1)) :: st) x) : WB p l e R s m args below meth c nL G A Q k n pc lv (.ref (G.2.2 i) :: st) x := b_getf (K := 5) (q := 0) C hk (by decide) rfl inA5 (by decide) w_179 rfl rfl hd kk
theorem gfX5_21 (C : CT p s m args meth c cc nL RX5 ret G A) {i : Nat} (hk : KD G i 5) (hd : decode cc pc = .ok (.getfield 21, 3)) (kk : WB p l e R s m args below meth c nL G A Q k n (pc + 3) lv (.ref (G.2.2 (i + 2)) :: st) x) : WB p l e R s m args below meth c nL G A Q k n pc lv (.ref (G.2.2 i) :: st) x := b_getf (K := 5) (q := 1) C hk (by decide) rfl inA5 (by decide) w_189 rfl rfl hd kk
theorem gfX6_10 (C : CT p s m args meth c cc nL RX6 ret G A) {i : Nat} (hk : KD G i 6) (hd : decode cc pc = .ok (.getfield 10, 3)) (kk : WB p l e R s m args below meth c nL G A Q k n (pc + 3) lv (.ref (G.2.2 (i + 1)) :: st) x) : WB p l e R s m args below meth c nL G A Q k n pc lv (.ref (G.2.2 i) :: st) x := b_getf (K := 6) (q := 0) C hk (by decide) rfl inA6 (by decide) w_190 rfl rfl hd kk
theorem gfX6_137 (C : CT p s m args meth c cc nL RX6 ret G A) {i : Nat} (hk : KD G i 6) (hd : decode cc pc = .ok (.getfield 137, 3)) (kk : WB p l e R s m args below meth c nL G A Q k n (pc + 3) lv (.int (x.1 i 5) :: st) x) : WB p l e R s m args below meth c nL G A Q k n pc lv (.ref (G.2.2 i) :: st) x := b_getf (K := 6) (q := 5) C hk (by decide) rfl inA6 (by decide) w_195 rfl rfl hd kk
theorem gfX6_25 (C : CT p s m args meth c cc nL RX6 ret G A) {i : Nat} (hk : KD G i 6) (hd : decode cc pc = .ok (.getfield 25, 3)) (kk : WB p l e R s m args below meth c nL G A Q k n (pc + 3) lv (.ref (G.2.2 (i + 34)) :: st) x) : WB p l e R s m args below meth c nL G A Q k n pc lv (.ref (G.2.2 i) :: st) x := b_getf (K := 6) (q := 2) C hk (by decide) rfl inA6 (by decide) w_204 rfl rfl hd kk
theorem gfX6_143 (C : CT p s m args meth c cc nL RX6 ret G A) {i : Nat} (hk : KD G i 6) (hd : decode cc pc = .ok (.getfield 143, 3)) (kk : WB p l e R s m args below meth c nL G A Q k n (pc + 3) lv (.int (x.1 i 6) :: st) x) : WB p l e R s m args below meth c nL G A Q k n pc lv (.ref (G.2.2 i) :: st) x := b_getf (K := 6) (q := 6) C hk (by decide) rfl inA6 (by decide) w_205 rfl rfl hd kk
theorem pfX6_143 (C : CT p s m args meth c cc nL RX6 ret G A) {i : Nat} (hk : KD G i 6) {v : Int32} {y : xS} (hd : decode cc pc = .ok (.putfield 143, 3)) (hy : up1 x i 6 v = y) (kk : WB p l e R s m args below meth c nL G A Q k n (pc + 3) lv (st) y) : WB p l e R s m args below meth c nL G A Q k n pc lv (.int v :: .ref (G.2.2 i) :: st) x := by
  subst hy
  exact b_put (y := up1 x i 6 v) (K := 6) (q := 6) (ty := .int) C hk (by decide) rfl inA6 tyX6_ok nmX6 (by decide) w_205 rfl rfl (by decide +kernel) rfl rfl (by simp [gF]) hd (by simp [gF, up1, up2, upR, upd, vp_updL]) (fun j hj => (upR_other x _ hj).symm) (fun _ _ => rfl) kk
theorem pfX6_137 (C : CT p s m args meth c cc nL RX6 ret G A) {i : Nat} (hk : KD G i 6) {v : Int32} {y : xS} (hd : decode cc pc = .ok (.putfield 137, 3)) (hy : up1 x i 5 v = y) (kk : WB p l e R s m args below meth c nL G A Q k n (pc + 3) lv (st) y) : WB p l e R s m args below meth c nL G A Q k n pc lv (.int v :: .ref (G.2.2 i) :: st) x := by
  subst hy
  exact b_put (y := up1 x i 5 v) (K := 6) (q := 5) (ty := .int) C hk (by decide) rfl inA6 tyX6_ok nmX6 (by decide) w_195 rfl rfl (by decide +kernel) rfl rfl (by simp [gF]) hd (by simp [gF, up1, up2, upR, upd, vp_updL]) (fun j hj => (upR_other x _ hj).symm) (fun _ _ => rfl) kk
theorem gfX6_151 (C : CT p s m args meth c cc nL RX6 ret G A) {i : Nat} (hk : KD G i 3) (hd : decode cc pc = .ok (.getfield 151, 3)) (kk : WB p l e R s m args below meth c nL G A Q k n (pc + 3) lv (.ref (G.2.2 (i + 1)) :: st) x) : WB p l e R s m args below meth c nL G A Q k n pc lv (.ref (G.2.2 i) :: st) x := b_getfN C hk inA3 hd kk
theorem gfX6_31 (C : CT p s m args meth c cc nL RX6 ret G A) {i : Nat} (hk : KD G i 6) (hd : decode cc pc = .ok (.getfield 31, 3)) (kk : WB p l e R s m args below meth c nL G A Q k n (pc + 3) lv (.ref (G.2.2 (i + 97)) :: st) x) : WB p l e R s m args below meth c nL G A Q k n pc lv (.ref (G.2.2 i) :: st) x := b_getf (K := 6) (q := 3) C hk (by decide) rfl inA6 (by decide) w_321 rfl rfl hd kk
end
theorem gkX1_15 : GoodIn AW (va_wsS RX1 15 yJ7_fill_53178 (ws_ yJ7_fill_53178 cJ7_fill_53178 4 none)) := gw_S w_4 w_5 w_6 w_7
theorem ekX1_15 : yJ7_fill_53178.cls ≠ "java/lang/invoke/MethodHandle" ∧ yJ7_fill_53178.cls ≠ "java/lang/invoke/VarHandle" ∧ (parseMethodDescriptor yJ7_fill_53178.desc).map (fun d => d.parameters.length) = some 2 := by decide +kernel
theorem gkX4_32 : GoodIn AW (wsV RX4 32 RX2 yX2_get (ws_ yX2_get cX2_get 3 (some (.int)))) := gw_V w_12 w_13 w_14 w_15 w_16
theorem ekX4_32 : yX2_get.cls = RX2 ∧ yX2_get.cls ≠ "java/lang/invoke/MethodHandle" ∧ yX2_get.cls ≠ "java/lang/invoke/VarHandle" ∧ (parseMethodDescriptor yX2_get.desc).map (fun d => d.parameters.length) = some 2 := by decide +kernel
theorem gkX1_21 : GoodIn AW (wsV RX1 21 RX4 yX4_startsPiece (ws_ yX4_startsPiece cX4_startsPiece 4 (some (.boolean)))) := gw_V w_17 w_18 w_19 w_20 w_21
theorem ekX1_21 : yX4_startsPiece.cls = RX4 ∧ yX4_startsPiece.cls ≠ "java/lang/invoke/MethodHandle" ∧ yX4_startsPiece.cls ≠ "java/lang/invoke/VarHandle" ∧ (parseMethodDescriptor yX4_startsPiece.desc).map (fun d => d.parameters.length) = some 2 := by decide +kernel
theorem gkX1_27 : GoodIn AW (wsV RX1 27 RX4 yX4_pieceEnd (ws_ yX4_pieceEnd cX4_pieceEnd 4 (some (.int)))) := gw_V w_22 w_23 w_24 w_20 w_25
theorem ekX1_27 : yX4_pieceEnd.cls = RX4 ∧ yX4_pieceEnd.cls ≠ "java/lang/invoke/MethodHandle" ∧ yX4_pieceEnd.cls ≠ "java/lang/invoke/VarHandle" ∧ (parseMethodDescriptor yX4_pieceEnd.desc).map (fun d => d.parameters.length) = some 2 := by decide +kernel
theorem gkX1_31 : GoodIn AW (wsV RX1 31 RX1 yX1_lay (ws_ yX1_lay cX1_lay 4 (some (.int)))) := gw_V w_26 w_27 w_28 w_29 w_30
theorem ekX1_31 : yX1_lay.cls = RX1 ∧ yX1_lay.cls ≠ "java/lang/invoke/MethodHandle" ∧ yX1_lay.cls ≠ "java/lang/invoke/VarHandle" ∧ (parseMethodDescriptor yX1_lay.desc).map (fun d => d.parameters.length) = some 2 := by decide +kernel
theorem gkX2_35 : GoodIn AW (va_wsS RX2 35 yJ7_fill_53178 (ws_ yJ7_fill_53178 cJ7_fill_53178 4 none)) := gw_S w_39 w_5 w_6 w_7
theorem ekX2_35 : yJ7_fill_53178.cls ≠ "java/lang/invoke/MethodHandle" ∧ yJ7_fill_53178.cls ≠ "java/lang/invoke/VarHandle" ∧ (parseMethodDescriptor yJ7_fill_53178.desc).map (fun d => d.parameters.length) = some 2 := by decide +kernel
theorem gkX2_28 : GoodIn AW (wsV RX2 28 RX2 yX2_get (ws_ yX2_get cX2_get 3 (some (.int)))) := gw_V w_40 w_13 w_14 w_15 w_16
theorem ekX2_28 : yX2_get.cls = RX2 ∧ yX2_get.cls ≠ "java/lang/invoke/MethodHandle" ∧ yX2_get.cls ≠ "java/lang/invoke/VarHandle" ∧ (parseMethodDescriptor yX2_get.desc).map (fun d => d.parameters.length) = some 2 := by decide +kernel
theorem gkX2_31 : GoodIn AW (wsV RX2 31 RX2 yX2_put (ws_ yX2_put cX2_put 4 none)) := gw_V w_41 w_42 w_43 w_15 w_44
theorem ekX2_31 : yX2_put.cls = RX2 ∧ yX2_put.cls ≠ "java/lang/invoke/MethodHandle" ∧ yX2_put.cls ≠ "java/lang/invoke/VarHandle" ∧ (parseMethodDescriptor yX2_put.desc).map (fun d => d.parameters.length) = some 3 := by decide +kernel
theorem gkX3_51 : GoodIn AW (wsV RX3 51 RX2 yX2_get (ws_ yX2_get cX2_get 3 (some (.int)))) := gw_V w_46 w_13 w_14 w_15 w_16
theorem ekX3_51 : yX2_get.cls = RX2 ∧ yX2_get.cls ≠ "java/lang/invoke/MethodHandle" ∧ yX2_get.cls ≠ "java/lang/invoke/VarHandle" ∧ (parseMethodDescriptor yX2_get.desc).map (fun d => d.parameters.length) = some 2 := by decide +kernel
theorem gkX4_40 : GoodIn AW (wsV RX4 40 RX4 yX4_lentBeds (ws_ yX4_lentBeds cX4_lentBeds 4 (some (.int)))) := gw_V w_48 w_49 w_50 w_20 w_51
theorem ekX4_40 : yX4_lentBeds.cls = RX4 ∧ yX4_lentBeds.cls ≠ "java/lang/invoke/MethodHandle" ∧ yX4_lentBeds.cls ≠ "java/lang/invoke/VarHandle" ∧ (parseMethodDescriptor yX4_lentBeds.desc).map (fun d => d.parameters.length) = some 1 := by decide +kernel
theorem gkX3_48 : GoodIn AW (wsV RX3 48 RX4 yX4_lentHours (ws_ yX4_lentHours cX4_lentHours 3 (some (.int)))) := gw_V w_52 w_53 w_54 w_20 w_55
theorem ekX3_48 : yX4_lentHours.cls = RX4 ∧ yX4_lentHours.cls ≠ "java/lang/invoke/MethodHandle" ∧ yX4_lentHours.cls ≠ "java/lang/invoke/VarHandle" ∧ (parseMethodDescriptor yX4_lentHours.desc).map (fun d => d.parameters.length) = some 0 := by decide +kernel
theorem gkX3_44 : GoodIn AW (wsV RX3 44 RX4 yX4_goneHours (ws_ yX4_goneHours cX4_goneHours 1 (some (.int)))) := gw_V w_57 w_58 w_59 w_20 w_60
theorem ekX3_44 : yX4_goneHours.cls = RX4 ∧ yX4_goneHours.cls ≠ "java/lang/invoke/MethodHandle" ∧ yX4_goneHours.cls ≠ "java/lang/invoke/VarHandle" ∧ (parseMethodDescriptor yX4_goneHours.desc).map (fun d => d.parameters.length) = some 0 := by decide +kernel
theorem gkX3_65 : GoodIn AW (wsV RX3 65 RX4 yX4_wentBy (ws_ yX4_wentBy cX4_wentBy 2 (some (.boolean)))) := gw_V w_61 w_62 w_63 w_20 w_64
theorem ekX3_65 : yX4_wentBy.cls = RX4 ∧ yX4_wentBy.cls ≠ "java/lang/invoke/MethodHandle" ∧ yX4_wentBy.cls ≠ "java/lang/invoke/VarHandle" ∧ (parseMethodDescriptor yX4_wentBy.desc).map (fun d => d.parameters.length) = some 1 := by decide +kernel
theorem gkX4_49 : GoodIn AW (wsV RX4 49 RX4 yX4_bedOf (ws_ yX4_bedOf cX4_bedOf 4 (some (.int)))) := gw_V w_65 w_66 w_67 w_20 w_68
theorem ekX4_49 : yX4_bedOf.cls = RX4 ∧ yX4_bedOf.cls ≠ "java/lang/invoke/MethodHandle" ∧ yX4_bedOf.cls ≠ "java/lang/invoke/VarHandle" ∧ (parseMethodDescriptor yX4_bedOf.desc).map (fun d => d.parameters.length) = some 2 := by decide +kernel
theorem gkX3_55 : GoodIn AW (wsV RX3 55 RX4 yX4_hoursWithBed (ws_ yX4_hoursWithBed cX4_hoursWithBed 6 (some (.int)))) := gw_V w_69 w_70 w_71 w_20 w_72
theorem ekX3_55 : yX4_hoursWithBed.cls = RX4 ∧ yX4_hoursWithBed.cls ≠ "java/lang/invoke/MethodHandle" ∧ yX4_hoursWithBed.cls ≠ "java/lang/invoke/VarHandle" ∧ (parseMethodDescriptor yX4_hoursWithBed.desc).map (fun d => d.parameters.length) = some 3 := by decide +kernel
theorem gkX3_69 : GoodIn AW (wsV RX3 69 RX3 yX3_isEighth (ws_ yX3_isEighth cX3_isEighth 2 (some (.boolean)))) := gw_V w_74 w_75 w_76 w_77 w_78
theorem ekX3_69 : yX3_isEighth.cls = RX3 ∧ yX3_isEighth.cls ≠ "java/lang/invoke/MethodHandle" ∧ yX3_isEighth.cls ≠ "java/lang/invoke/VarHandle" ∧ (parseMethodDescriptor yX3_isEighth.desc).map (fun d => d.parameters.length) = some 1 := by decide +kernel
theorem gkX4_52 : GoodIn AW (wsV RX4 52 RX4 yX4_lentHoursIn (ws_ yX4_lentHoursIn cX4_lentHoursIn 6 (some (.int)))) := gw_V w_79 w_80 w_81 w_20 w_82
theorem ekX4_52 : yX4_lentHoursIn.cls = RX4 ∧ yX4_lentHoursIn.cls ≠ "java/lang/invoke/MethodHandle" ∧ yX4_lentHoursIn.cls ≠ "java/lang/invoke/VarHandle" ∧ (parseMethodDescriptor yX4_lentHoursIn.desc).map (fun d => d.parameters.length) = some 3 := by decide +kernel
theorem gkX3_75 : GoodIn AW (wsV RX3 75 RX4 yX4_leastLentBed (ws_ yX4_leastLentBed cX4_leastLentBed 5 (some (.int)))) := gw_V w_83 w_84 w_85 w_20 w_86
theorem ekX3_75 : yX4_leastLentBed.cls = RX4 ∧ yX4_leastLentBed.cls ≠ "java/lang/invoke/MethodHandle" ∧ yX4_leastLentBed.cls ≠ "java/lang/invoke/VarHandle" ∧ (parseMethodDescriptor yX4_leastLentBed.desc).map (fun d => d.parameters.length) = some 2 := by decide +kernel
theorem gkX3_78 : GoodIn AW (wsV RX3 78 RX4 yX4_lentHoursIn (ws_ yX4_lentHoursIn cX4_lentHoursIn 6 (some (.int)))) := gw_V w_87 w_80 w_81 w_20 w_82
theorem ekX3_78 : yX4_lentHoursIn.cls = RX4 ∧ yX4_lentHoursIn.cls ≠ "java/lang/invoke/MethodHandle" ∧ yX4_lentHoursIn.cls ≠ "java/lang/invoke/VarHandle" ∧ (parseMethodDescriptor yX4_lentHoursIn.desc).map (fun d => d.parameters.length) = some 3 := by decide +kernel
theorem gkX3_72 : GoodIn AW (wsV RX3 72 RX3 yX3_hasTooLittleNeed (ws_ yX3_hasTooLittleNeed cX3_hasTooLittleNeed 2 (some (.boolean)))) := gw_V w_88 w_89 w_90 w_77 w_91
theorem ekX3_72 : yX3_hasTooLittleNeed.cls = RX3 ∧ yX3_hasTooLittleNeed.cls ≠ "java/lang/invoke/MethodHandle" ∧ yX3_hasTooLittleNeed.cls ≠ "java/lang/invoke/VarHandle" ∧ (parseMethodDescriptor yX3_hasTooLittleNeed.desc).map (fun d => d.parameters.length) = some 1 := by decide +kernel
theorem gkX3_33 : GoodIn AW (wsV RX3 33 RX2 yX2_put (ws_ yX2_put cX2_put 4 none)) := gw_V w_92 w_42 w_43 w_15 w_44
theorem ekX3_33 : yX2_put.cls = RX2 ∧ yX2_put.cls ≠ "java/lang/invoke/MethodHandle" ∧ yX2_put.cls ≠ "java/lang/invoke/VarHandle" ∧ (parseMethodDescriptor yX2_put.desc).map (fun d => d.parameters.length) = some 3 := by decide +kernel
theorem gkX4_24 : GoodIn AW (wsV RX4 24 RX2 yX2_copyFrom (ws_ yX2_copyFrom cX2_copyFrom 2 none)) := gw_V w_93 w_94 w_95 w_15 w_96
theorem ekX4_24 : yX2_copyFrom.cls = RX2 ∧ yX2_copyFrom.cls ≠ "java/lang/invoke/MethodHandle" ∧ yX2_copyFrom.cls ≠ "java/lang/invoke/VarHandle" ∧ (parseMethodDescriptor yX2_copyFrom.desc).map (fun d => d.parameters.length) = some 1 := by decide +kernel
theorem gkX3_37 : GoodIn AW (wsV RX3 37 RX4 yX4_copyFrom (ws_ yX4_copyFrom cX4_copyFrom 2 none)) := gw_V w_97 w_98 w_99 w_20 w_100
theorem ekX3_37 : yX4_copyFrom.cls = RX4 ∧ yX4_copyFrom.cls ≠ "java/lang/invoke/MethodHandle" ∧ yX4_copyFrom.cls ≠ "java/lang/invoke/VarHandle" ∧ (parseMethodDescriptor yX4_copyFrom.desc).map (fun d => d.parameters.length) = some 1 := by decide +kernel
theorem gkX3_41 : GoodIn AW (wsV RX3 41 RX2 yX2_copyFrom (ws_ yX2_copyFrom cX2_copyFrom 2 none)) := gw_V w_101 w_94 w_95 w_15 w_96
theorem ekX3_41 : yX2_copyFrom.cls = RX2 ∧ yX2_copyFrom.cls ≠ "java/lang/invoke/MethodHandle" ∧ yX2_copyFrom.cls ≠ "java/lang/invoke/VarHandle" ∧ (parseMethodDescriptor yX2_copyFrom.desc).map (fun d => d.parameters.length) = some 1 := by decide +kernel
theorem gkX3_115 : GoodIn AW (va_wsS RX3 115 yJ6_bitCount_0f7a4 (ws_ yJ6_bitCount_0f7a4 cJ6_bitCount_0f7a4 1 (some (.int)))) := gw_S w_103 w_104 w_105 w_106
theorem ekX3_115 : yJ6_bitCount_0f7a4.cls ≠ "java/lang/invoke/MethodHandle" ∧ yJ6_bitCount_0f7a4.cls ≠ "java/lang/invoke/VarHandle" ∧ (parseMethodDescriptor yJ6_bitCount_0f7a4.desc).map (fun d => d.parameters.length) = some 1 := by decide +kernel
theorem gkX3_94 : GoodIn AW (wsV RX3 94 RX2 yX2_raise (ws_ yX2_raise cX2_raise 4 none)) := gw_V w_107 w_108 w_109 w_15 w_110
theorem ekX3_94 : yX2_raise.cls = RX2 ∧ yX2_raise.cls ≠ "java/lang/invoke/MethodHandle" ∧ yX2_raise.cls ≠ "java/lang/invoke/VarHandle" ∧ (parseMethodDescriptor yX2_raise.desc).map (fun d => d.parameters.length) = some 3 := by decide +kernel
theorem gkX3_97 : GoodIn AW (wsV RX3 97 RX3 yX3_countRefusal (ws_ yX3_countRefusal cX3_countRefusal 3 none)) := gw_V w_114 w_115 w_116 w_77 w_117
theorem ekX3_97 : yX3_countRefusal.cls = RX3 ∧ yX3_countRefusal.cls ≠ "java/lang/invoke/MethodHandle" ∧ yX3_countRefusal.cls ≠ "java/lang/invoke/VarHandle" ∧ (parseMethodDescriptor yX3_countRefusal.desc).map (fun d => d.parameters.length) = some 1 := by decide +kernel
theorem gkX4_36 : GoodIn AW (wsV RX4 36 RX2 yX2_put (ws_ yX2_put cX2_put 4 none)) := gw_V w_118 w_42 w_43 w_15 w_44
theorem ekX4_36 : yX2_put.cls = RX2 ∧ yX2_put.cls ≠ "java/lang/invoke/MethodHandle" ∧ yX2_put.cls ≠ "java/lang/invoke/VarHandle" ∧ (parseMethodDescriptor yX2_put.desc).map (fun d => d.parameters.length) = some 3 := by decide +kernel
theorem gkX3_112 : GoodIn AW (wsV RX3 112 RX4 yX4_lend (ws_ yX4_lend cX4_lend 6 none)) := gw_V w_119 w_120 w_121 w_20 w_122
theorem ekX3_112 : yX4_lend.cls = RX4 ∧ yX4_lend.cls ≠ "java/lang/invoke/MethodHandle" ∧ yX4_lend.cls ≠ "java/lang/invoke/VarHandle" ∧ (parseMethodDescriptor yX4_lend.desc).map (fun d => d.parameters.length) = some 4 := by decide +kernel
theorem gkX3_84 : GoodIn AW (wsV RX3 84 RX4 yX4_holdersMask (ws_ yX4_holdersMask cX4_holdersMask 7 (some (.int)))) := gw_V w_123 w_124 w_125 w_20 w_126
theorem ekX3_84 : yX4_holdersMask.cls = RX4 ∧ yX4_holdersMask.cls ≠ "java/lang/invoke/MethodHandle" ∧ yX4_holdersMask.cls ≠ "java/lang/invoke/VarHandle" ∧ (parseMethodDescriptor yX4_holdersMask.desc).map (fun d => d.parameters.length) = some 3 := by decide +kernel
theorem gkX3_106 : GoodIn AW (wsV RX3 106 RX3 yX3_countPutOut (ws_ yX3_countPutOut cX3_countPutOut 3 none)) := gw_V w_127 w_128 w_129 w_77 w_130
theorem ekX3_106 : yX3_countPutOut.cls = RX3 ∧ yX3_countPutOut.cls ≠ "java/lang/invoke/MethodHandle" ∧ yX3_countPutOut.cls ≠ "java/lang/invoke/VarHandle" ∧ (parseMethodDescriptor yX3_countPutOut.desc).map (fun d => d.parameters.length) = some 1 := by decide +kernel
theorem gkX4_56 : GoodIn AW (wsV RX4 56 RX4 yX4_pieceEnd (ws_ yX4_pieceEnd cX4_pieceEnd 4 (some (.int)))) := gw_V w_131 w_23 w_24 w_20 w_25
theorem ekX4_56 : yX4_pieceEnd.cls = RX4 ∧ yX4_pieceEnd.cls ≠ "java/lang/invoke/MethodHandle" ∧ yX4_pieceEnd.cls ≠ "java/lang/invoke/VarHandle" ∧ (parseMethodDescriptor yX4_pieceEnd.desc).map (fun d => d.parameters.length) = some 2 := by decide +kernel
theorem gkX4_59 : GoodIn AW (wsV RX4 59 RX4 yX4_lend (ws_ yX4_lend cX4_lend 6 none)) := gw_V w_132 w_120 w_121 w_20 w_122
theorem ekX4_59 : yX4_lend.cls = RX4 ∧ yX4_lend.cls ≠ "java/lang/invoke/MethodHandle" ∧ yX4_lend.cls ≠ "java/lang/invoke/VarHandle" ∧ (parseMethodDescriptor yX4_lend.desc).map (fun d => d.parameters.length) = some 4 := by decide +kernel
theorem gkX3_109 : GoodIn AW (wsV RX3 109 RX4 yX4_freePiecesIn (ws_ yX4_freePiecesIn cX4_freePiecesIn 7 (some (.int)))) := gw_V w_133 w_134 w_135 w_20 w_136
theorem ekX3_109 : yX4_freePiecesIn.cls = RX4 ∧ yX4_freePiecesIn.cls ≠ "java/lang/invoke/MethodHandle" ∧ yX4_freePiecesIn.cls ≠ "java/lang/invoke/VarHandle" ∧ (parseMethodDescriptor yX4_freePiecesIn.desc).map (fun d => d.parameters.length) = some 3 := by decide +kernel
theorem gkX3_127 : GoodIn AW (wsV RX3 127 RX4 yX4_lentBeds (ws_ yX4_lentBeds cX4_lentBeds 4 (some (.int)))) := gw_V w_137 w_49 w_50 w_20 w_51
theorem ekX3_127 : yX4_lentBeds.cls = RX4 ∧ yX4_lentBeds.cls ≠ "java/lang/invoke/MethodHandle" ∧ yX4_lentBeds.cls ≠ "java/lang/invoke/VarHandle" ∧ (parseMethodDescriptor yX4_lentBeds.desc).map (fun d => d.parameters.length) = some 1 := by decide +kernel
theorem gkX4_20 : GoodIn AW (wsV RX4 20 RX2 yX2_fill (ws_ yX2_fill cX2_fill 2 none)) := gw_V w_138 w_139 w_140 w_15 w_141
theorem ekX4_20 : yX2_fill.cls = RX2 ∧ yX2_fill.cls ≠ "java/lang/invoke/MethodHandle" ∧ yX2_fill.cls ≠ "java/lang/invoke/VarHandle" ∧ (parseMethodDescriptor yX2_fill.desc).map (fun d => d.parameters.length) = some 1 := by decide +kernel
theorem gkX3_130 : GoodIn AW (wsV RX3 130 RX4 yX4_advance (ws_ yX4_advance cX4_advance 1 none)) := gw_V w_142 w_143 w_144 w_20 w_145
theorem ekX3_130 : yX4_advance.cls = RX4 ∧ yX4_advance.cls ≠ "java/lang/invoke/MethodHandle" ∧ yX4_advance.cls ≠ "java/lang/invoke/VarHandle" ∧ (parseMethodDescriptor yX4_advance.desc).map (fun d => d.parameters.length) = some 0 := by decide +kernel
theorem gkX3_61 : GoodIn AW (wsV RX3 61 RX3 yX3_isPoorer (ws_ yX3_isPoorer cX3_isPoorer 4 (some (.boolean)))) := gw_V w_146 w_147 w_148 w_77 w_149
theorem ekX3_61 : yX3_isPoorer.cls = RX3 ∧ yX3_isPoorer.cls ≠ "java/lang/invoke/MethodHandle" ∧ yX3_isPoorer.cls ≠ "java/lang/invoke/VarHandle" ∧ (parseMethodDescriptor yX3_isPoorer.desc).map (fun d => d.parameters.length) = some 2 := by decide +kernel
theorem gkX3_81 : GoodIn AW (wsV RX3 81 RX3 yX3_answerTo (ws_ yX3_answerTo cX3_answerTo 6 (some (.int)))) := gw_V w_151 w_152 w_153 w_77 w_154
theorem ekX3_81 : yX3_answerTo.cls = RX3 ∧ yX3_answerTo.cls ≠ "java/lang/invoke/MethodHandle" ∧ yX3_answerTo.cls ≠ "java/lang/invoke/VarHandle" ∧ (parseMethodDescriptor yX3_answerTo.desc).map (fun d => d.parameters.length) = some 3 := by decide +kernel
theorem gkX3_90 : GoodIn AW (wsV RX3 90 RX3 yX3_grant (ws_ yX3_grant cX3_grant 5 none)) := gw_V w_155 w_156 w_157 w_77 w_158
theorem ekX3_90 : yX3_grant.cls = RX3 ∧ yX3_grant.cls ≠ "java/lang/invoke/MethodHandle" ∧ yX3_grant.cls ≠ "java/lang/invoke/VarHandle" ∧ (parseMethodDescriptor yX3_grant.desc).map (fun d => d.parameters.length) = some 4 := by decide +kernel
theorem gkX3_87 : GoodIn AW (wsV RX3 87 RX3 yX3_refuse (ws_ yX3_refuse cX3_refuse 3 none)) := gw_V w_159 w_160 w_161 w_77 w_162
theorem ekX3_87 : yX3_refuse.cls = RX3 ∧ yX3_refuse.cls ≠ "java/lang/invoke/MethodHandle" ∧ yX3_refuse.cls ≠ "java/lang/invoke/VarHandle" ∧ (parseMethodDescriptor yX3_refuse.desc).map (fun d => d.parameters.length) = some 2 := by decide +kernel
theorem gkX3_121 : GoodIn AW (wsV RX3 121 RX4 yX4_bedOf (ws_ yX4_bedOf cX4_bedOf 4 (some (.int)))) := gw_V w_163 w_66 w_67 w_20 w_68
theorem ekX3_121 : yX4_bedOf.cls = RX4 ∧ yX4_bedOf.cls ≠ "java/lang/invoke/MethodHandle" ∧ yX4_bedOf.cls ≠ "java/lang/invoke/VarHandle" ∧ (parseMethodDescriptor yX4_bedOf.desc).map (fun d => d.parameters.length) = some 2 := by decide +kernel
theorem gkX3_124 : GoodIn AW (wsV RX3 124 RX4 yX4_freePieceFrom (ws_ yX4_freePieceFrom cX4_freePieceFrom 4 (some (.int)))) := gw_V w_164 w_165 w_166 w_20 w_167
theorem ekX3_124 : yX4_freePieceFrom.cls = RX4 ∧ yX4_freePieceFrom.cls ≠ "java/lang/invoke/MethodHandle" ∧ yX4_freePieceFrom.cls ≠ "java/lang/invoke/VarHandle" ∧ (parseMethodDescriptor yX4_freePieceFrom.desc).map (fun d => d.parameters.length) = some 2 := by decide +kernel
theorem gkX4_67 : GoodIn AW (ws_ yX6_isWithinNight cX6_isWithinNight 2 (some (.boolean))) := gw_ws w_168
theorem ekX4_67 : (parseMethodDescriptor yX6_isWithinNight.desc).map (fun d => d.parameters.length) = some 2 := by decide +kernel
theorem gkX4_71 : GoodIn AW (wsV RX4 71 RX4 yX4_wentBy (ws_ yX4_wentBy cX4_wentBy 2 (some (.boolean)))) := gw_V w_171 w_62 w_63 w_20 w_64
theorem ekX4_71 : yX4_wentBy.cls = RX4 ∧ yX4_wentBy.cls ≠ "java/lang/invoke/MethodHandle" ∧ yX4_wentBy.cls ≠ "java/lang/invoke/VarHandle" ∧ (parseMethodDescriptor yX4_wentBy.desc).map (fun d => d.parameters.length) = some 1 := by decide +kernel
theorem gkX4_75 : GoodIn AW (wsV RX4 75 RX4 yX4_hoursWithBed (ws_ yX4_hoursWithBed cX4_hoursWithBed 6 (some (.int)))) := gw_V w_172 w_70 w_71 w_20 w_72
theorem ekX4_75 : yX4_hoursWithBed.cls = RX4 ∧ yX4_hoursWithBed.cls ≠ "java/lang/invoke/MethodHandle" ∧ yX4_hoursWithBed.cls ≠ "java/lang/invoke/VarHandle" ∧ (parseMethodDescriptor yX4_hoursWithBed.desc).map (fun d => d.parameters.length) = some 3 := by decide +kernel
theorem gkX4_78 : GoodIn AW (wsV RX4 78 RX4 yX4_leastLentBed (ws_ yX4_leastLentBed cX4_leastLentBed 5 (some (.int)))) := gw_V w_173 w_84 w_85 w_20 w_86
theorem ekX4_78 : yX4_leastLentBed.cls = RX4 ∧ yX4_leastLentBed.cls ≠ "java/lang/invoke/MethodHandle" ∧ yX4_leastLentBed.cls ≠ "java/lang/invoke/VarHandle" ∧ (parseMethodDescriptor yX4_leastLentBed.desc).map (fun d => d.parameters.length) = some 2 := by decide +kernel
theorem gkX4_63 : GoodIn AW (wsV RX4 63 RX4 yX4_isOpenTo (ws_ yX4_isOpenTo cX4_isOpenTo 4 (some (.boolean)))) := gw_V w_174 w_175 w_176 w_20 w_177
theorem ekX4_63 : yX4_isOpenTo.cls = RX4 ∧ yX4_isOpenTo.cls ≠ "java/lang/invoke/MethodHandle" ∧ yX4_isOpenTo.cls ≠ "java/lang/invoke/VarHandle" ∧ (parseMethodDescriptor yX4_isOpenTo.desc).map (fun d => d.parameters.length) = some 3 := by decide +kernel
theorem gkX5_26 : GoodIn AW (wsV RX5 26 RX5 yX5_houseIn (ws_ yX5_houseIn cX5_houseIn 2 (some ((.object "SevenAsks$House"))))) := gw_V w_180 w_181 w_182 w_183 w_184
theorem ekX5_26 : yX5_houseIn.cls = RX5 ∧ yX5_houseIn.cls ≠ "java/lang/invoke/MethodHandle" ∧ yX5_houseIn.cls ≠ "java/lang/invoke/VarHandle" ∧ (parseMethodDescriptor yX5_houseIn.desc).map (fun d => d.parameters.length) = some 1 := by decide +kernel
theorem gkX5_30 : GoodIn AW (wsV RX5 30 RX3 yX3_copyFrom (ws_ yX3_copyFrom cX3_copyFrom 2 none)) := gw_V w_185 w_186 w_187 w_77 w_188
theorem ekX5_30 : yX3_copyFrom.cls = RX3 ∧ yX3_copyFrom.cls ≠ "java/lang/invoke/MethodHandle" ∧ yX3_copyFrom.cls ≠ "java/lang/invoke/VarHandle" ∧ (parseMethodDescriptor yX3_copyFrom.desc).map (fun d => d.parameters.length) = some 1 := by decide +kernel
theorem gkX6_125 : GoodIn AW (wsV RX6 125 RX3 yX3_account (ws_ yX3_account cX3_account 2 (some (.int)))) := gw_V w_191 w_192 w_193 w_77 w_194
theorem ekX6_125 : yX3_account.cls = RX3 ∧ yX3_account.cls ≠ "java/lang/invoke/MethodHandle" ∧ yX3_account.cls ≠ "java/lang/invoke/VarHandle" ∧ (parseMethodDescriptor yX3_account.desc).map (fun d => d.parameters.length) = some 1 := by decide +kernel
theorem gkX6_191 : GoodIn AW (wsV RX6 191 RX3 yX3_shareLent (ws_ yX3_shareLent cX3_shareLent 1 (some (.double)))) := gw_V w_196 w_197 w_198 w_77 w_199
theorem ekX6_191 : yX3_shareLent.cls = RX3 ∧ yX3_shareLent.cls ≠ "java/lang/invoke/MethodHandle" ∧ yX3_shareLent.cls ≠ "java/lang/invoke/VarHandle" ∧ (parseMethodDescriptor yX3_shareLent.desc).map (fun d => d.parameters.length) = some 0 := by decide +kernel
theorem gkX6_188 : GoodIn AW (wsV RX6 188 RX3 yX3_poorestLodger (ws_ yX3_poorestLodger cX3_poorestLodger 3 (some (.int)))) := gw_V w_200 w_201 w_202 w_77 w_203
theorem ekX6_188 : yX3_poorestLodger.cls = RX3 ∧ yX3_poorestLodger.cls ≠ "java/lang/invoke/MethodHandle" ∧ yX3_poorestLodger.cls ≠ "java/lang/invoke/VarHandle" ∧ (parseMethodDescriptor yX3_poorestLodger.desc).map (fun d => d.parameters.length) = some 0 := by decide +kernel
theorem gkX6_121 : GoodIn AW (wsV RX6 121 RX5 yX5_store (ws_ yX5_store cX5_store 4 none)) := gw_V w_206 w_207 w_208 w_183 w_209
theorem ekX6_121 : yX5_store.cls = RX5 ∧ yX5_store.cls ≠ "java/lang/invoke/MethodHandle" ∧ yX5_store.cls ≠ "java/lang/invoke/VarHandle" ∧ (parseMethodDescriptor yX5_store.desc).map (fun d => d.parameters.length) = some 2 := by decide +kernel
theorem gkX6_53 : GoodIn AW (va_wsS RX6 53 yX6_checkLodger (ws_ yX6_checkLodger cX6_checkLodger 1 none)) := gw_S w_212 w_213 w_170 w_214
theorem ekX6_53 : yX6_checkLodger.cls ≠ "java/lang/invoke/MethodHandle" ∧ yX6_checkLodger.cls ≠ "java/lang/invoke/VarHandle" ∧ (parseMethodDescriptor yX6_checkLodger.desc).map (fun d => d.parameters.length) = some 1 := by decide +kernel
theorem gkX6_236 : GoodIn AW (va_wsS RX6 236 yX6_isWithinNight (ws_ yX6_isWithinNight cX6_isWithinNight 2 (some (.boolean)))) := gw_S w_215 w_169 w_170 w_168
theorem ekX6_236 : yX6_isWithinNight.cls ≠ "java/lang/invoke/MethodHandle" ∧ yX6_isWithinNight.cls ≠ "java/lang/invoke/VarHandle" ∧ (parseMethodDescriptor yX6_isWithinNight.desc).map (fun d => d.parameters.length) = some 2 := by decide +kernel
theorem gkX6_42 : GoodIn AW (va_wsS RX6 42 yX6_checkAsking (ws_ yX6_checkAsking cX6_checkAsking 3 none)) := gw_S w_218 w_219 w_170 w_220
theorem ekX6_42 : yX6_checkAsking.cls ≠ "java/lang/invoke/MethodHandle" ∧ yX6_checkAsking.cls ≠ "java/lang/invoke/VarHandle" ∧ (parseMethodDescriptor yX6_checkAsking.desc).map (fun d => d.parameters.length) = some 3 := by decide +kernel
theorem gkX6_46 : GoodIn AW (wsV RX6 46 RX6 yX6_saveState (ws_ yX6_saveState cX6_saveState 1 none)) := gw_V w_221 w_222 w_223 w_170 w_224
theorem ekX6_46 : yX6_saveState.cls = RX6 ∧ yX6_saveState.cls ≠ "java/lang/invoke/MethodHandle" ∧ yX6_saveState.cls ≠ "java/lang/invoke/VarHandle" ∧ (parseMethodDescriptor yX6_saveState.desc).map (fun d => d.parameters.length) = some 0 := by decide +kernel
theorem gkX6_49 : GoodIn AW (wsV RX6 49 RX3 yX3_takeAsking (ws_ yX3_takeAsking cX3_takeAsking 5 (some (.int)))) := gw_V w_225 w_226 w_227 w_77 w_228
theorem ekX6_49 : yX3_takeAsking.cls = RX3 ∧ yX3_takeAsking.cls ≠ "java/lang/invoke/MethodHandle" ∧ yX3_takeAsking.cls ≠ "java/lang/invoke/VarHandle" ∧ (parseMethodDescriptor yX3_takeAsking.desc).map (fun d => d.parameters.length) = some 3 := by decide +kernel
theorem gkX6_160 : GoodIn AW (va_wsS RX6 160 yX6_checkRange (ws_ yX6_checkRange cX6_checkRange 3 none)) := gw_S w_229 w_230 w_170 w_231
theorem ekX6_160 : yX6_checkRange.cls ≠ "java/lang/invoke/MethodHandle" ∧ yX6_checkRange.cls ≠ "java/lang/invoke/VarHandle" ∧ (parseMethodDescriptor yX6_checkRange.desc).map (fun d => d.parameters.length) = some 3 := by decide +kernel
theorem gkX6_56 : GoodIn AW (va_wsS RX6 56 yX6_checkHour (ws_ yX6_checkHour cX6_checkHour 1 none)) := gw_S w_232 w_233 w_170 w_234
theorem ekX6_56 : yX6_checkHour.cls ≠ "java/lang/invoke/MethodHandle" ∧ yX6_checkHour.cls ≠ "java/lang/invoke/VarHandle" ∧ (parseMethodDescriptor yX6_checkHour.desc).map (fun d => d.parameters.length) = some 1 := by decide +kernel
theorem gkX6_59 : GoodIn AW (wsV RX6 59 RX3 yX3_takeBack (ws_ yX3_takeBack cX3_takeBack 4 (some (.int)))) := gw_V w_235 w_236 w_237 w_77 w_238
theorem ekX6_59 : yX3_takeBack.cls = RX3 ∧ yX3_takeBack.cls ≠ "java/lang/invoke/MethodHandle" ∧ yX3_takeBack.cls ≠ "java/lang/invoke/VarHandle" ∧ (parseMethodDescriptor yX3_takeBack.desc).map (fun d => d.parameters.length) = some 2 := by decide +kernel
theorem gkX6_63 : GoodIn AW (wsV RX6 63 RX3 yX3_giveFavour (ws_ yX3_giveFavour cX3_giveFavour 2 (some (.int)))) := gw_V w_239 w_240 w_241 w_77 w_242
theorem ekX6_63 : yX3_giveFavour.cls = RX3 ∧ yX3_giveFavour.cls ≠ "java/lang/invoke/MethodHandle" ∧ yX3_giveFavour.cls ≠ "java/lang/invoke/VarHandle" ∧ (parseMethodDescriptor yX3_giveFavour.desc).map (fun d => d.parameters.length) = some 1 := by decide +kernel
theorem gkX6_67 : GoodIn AW (va_wsS RX6 67 yX6_checkNeed (ws_ yX6_checkNeed cX6_checkNeed 1 none)) := gw_S w_243 w_244 w_170 w_245
theorem ekX6_67 : yX6_checkNeed.cls ≠ "java/lang/invoke/MethodHandle" ∧ yX6_checkNeed.cls ≠ "java/lang/invoke/VarHandle" ∧ (parseMethodDescriptor yX6_checkNeed.desc).map (fun d => d.parameters.length) = some 1 := by decide +kernel
theorem gkX6_70 : GoodIn AW (wsV RX6 70 RX3 yX3_changeNeed (ws_ yX3_changeNeed cX3_changeNeed 4 (some (.int)))) := gw_V w_246 w_247 w_248 w_77 w_249
theorem ekX6_70 : yX3_changeNeed.cls = RX3 ∧ yX3_changeNeed.cls ≠ "java/lang/invoke/MethodHandle" ∧ yX3_changeNeed.cls ≠ "java/lang/invoke/VarHandle" ∧ (parseMethodDescriptor yX3_changeNeed.desc).map (fun d => d.parameters.length) = some 2 := by decide +kernel
theorem gkX6_88 : GoodIn AW (wsV RX6 88 RX3 yX3_changeSetting (ws_ yX3_changeSetting cX3_changeSetting 3 (some (.int)))) := gw_V w_250 w_251 w_252 w_77 w_253
theorem ekX6_88 : yX3_changeSetting.cls = RX3 ∧ yX3_changeSetting.cls ≠ "java/lang/invoke/MethodHandle" ∧ yX3_changeSetting.cls ≠ "java/lang/invoke/VarHandle" ∧ (parseMethodDescriptor yX3_changeSetting.desc).map (fun d => d.parameters.length) = some 1 := by decide +kernel
theorem gkX6_73 : GoodIn AW (wsV RX6 73 RX3 yX3_canLetHourGo (ws_ yX3_canLetHourGo cX3_canLetHourGo 1 (some (.boolean)))) := gw_V w_254 w_255 w_256 w_77 w_257
theorem ekX6_73 : yX3_canLetHourGo.cls = RX3 ∧ yX3_canLetHourGo.cls ≠ "java/lang/invoke/MethodHandle" ∧ yX3_canLetHourGo.cls ≠ "java/lang/invoke/VarHandle" ∧ (parseMethodDescriptor yX3_canLetHourGo.desc).map (fun d => d.parameters.length) = some 0 := by decide +kernel
theorem gkX6_84 : GoodIn AW (wsV RX6 84 RX3 yX3_letHourGo (ws_ yX3_letHourGo cX3_letHourGo 4 (some (.int)))) := gw_V w_258 w_259 w_260 w_77 w_261
theorem ekX6_84 : yX3_letHourGo.cls = RX3 ∧ yX3_letHourGo.cls ≠ "java/lang/invoke/MethodHandle" ∧ yX3_letHourGo.cls ≠ "java/lang/invoke/VarHandle" ∧ (parseMethodDescriptor yX3_letHourGo.desc).map (fun d => d.parameters.length) = some 0 := by decide +kernel
theorem gkX6_155 : GoodIn AW (wsV RX6 155 RX4 yX4_holder (ws_ yX4_holder cX4_holder 3 (some (.int)))) := gw_V w_265 w_266 w_267 w_20 w_268
theorem ekX6_155 : yX4_holder.cls = RX4 ∧ yX4_holder.cls ≠ "java/lang/invoke/MethodHandle" ∧ yX4_holder.cls ≠ "java/lang/invoke/VarHandle" ∧ (parseMethodDescriptor yX4_holder.desc).map (fun d => d.parameters.length) = some 2 := by decide +kernel
theorem gkL_59 : GoodIn AW (wsV RL 59 RX6 yX6_at (ws_ yX6_at cX6_at 3 (some (.int)))) := gw_V w_269 w_270 w_271 w_170 w_272
theorem ekL_59 : yX6_at.cls = RX6 ∧ yX6_at.cls ≠ "java/lang/invoke/MethodHandle" ∧ yX6_at.cls ≠ "java/lang/invoke/VarHandle" ∧ (parseMethodDescriptor yX6_at.desc).map (fun d => d.parameters.length) = some 2 := by decide +kernel
theorem gkX6_185 : GoodIn AW (wsV RX6 185 RX4 yX4_longestFor (ws_ yX4_longestFor cX4_longestFor 4 (some (.int)))) := gw_V w_273 w_274 w_275 w_20 w_276
theorem ekX6_185 : yX4_longestFor.cls = RX4 ∧ yX4_longestFor.cls ≠ "java/lang/invoke/MethodHandle" ∧ yX4_longestFor.cls ≠ "java/lang/invoke/VarHandle" ∧ (parseMethodDescriptor yX4_longestFor.desc).map (fun d => d.parameters.length) = some 2 := by decide +kernel
theorem gkL_90 : GoodIn AW (wsV RL 90 RX6 yX6_longest (ws_ yX6_longest cX6_longest 3 (some (.int)))) := gw_V w_277 w_278 w_279 w_170 w_280
theorem ekL_90 : yX6_longest.cls = RX6 ∧ yX6_longest.cls ≠ "java/lang/invoke/MethodHandle" ∧ yX6_longest.cls ≠ "java/lang/invoke/VarHandle" ∧ (parseMethodDescriptor yX6_longest.desc).map (fun d => d.parameters.length) = some 2 := by decide +kernel
theorem gkL_74 : GoodIn AW (va_wsS RL 74 yL_isFree (ws_ yL_isFree cL_isFree 6 (some (.boolean)))) := gw_S w_281 w_282 w_283 w_284
theorem ekL_74 : yL_isFree.cls ≠ "java/lang/invoke/MethodHandle" ∧ yL_isFree.cls ≠ "java/lang/invoke/VarHandle" ∧ (parseMethodDescriptor yL_isFree.desc).map (fun d => d.parameters.length) = some 4 := by decide +kernel
theorem gkL_78 : GoodIn AW (va_wsS RL 78 yL_has (ws_ yL_has cL_has 6 (some (.boolean)))) := gw_S w_285 w_286 w_283 w_287
theorem ekL_78 : yL_has.cls ≠ "java/lang/invoke/MethodHandle" ∧ yL_has.cls ≠ "java/lang/invoke/VarHandle" ∧ (parseMethodDescriptor yL_has.desc).map (fun d => d.parameters.length) = some 4 := by decide +kernel
theorem gkX6_166 : GoodIn AW (wsV RX6 166 RX6 yX6_accountOf (ws_ yX6_accountOf cX6_accountOf 2 (some (.int)))) := gw_V w_288 w_289 w_290 w_170 w_291
theorem ekX6_166 : yX6_accountOf.cls = RX6 ∧ yX6_accountOf.cls ≠ "java/lang/invoke/MethodHandle" ∧ yX6_accountOf.cls ≠ "java/lang/invoke/VarHandle" ∧ (parseMethodDescriptor yX6_accountOf.desc).map (fun d => d.parameters.length) = some 1 := by decide +kernel
theorem gkL_53 : GoodIn AW (wsV RL 53 RX6 yX6_count (ws_ yX6_count cX6_count 2 (some (.int)))) := gw_V w_292 w_293 w_294 w_170 w_295
theorem ekL_53 : yX6_count.cls = RX6 ∧ yX6_count.cls ≠ "java/lang/invoke/MethodHandle" ∧ yX6_count.cls ≠ "java/lang/invoke/VarHandle" ∧ (parseMethodDescriptor yX6_count.desc).map (fun d => d.parameters.length) = some 1 := by decide +kernel
theorem gkL_50 : GoodIn AW (wsV RL 50 RX6 yX6_poorest (ws_ yX6_poorest cX6_poorest 1 (some (.int)))) := gw_V w_296 w_297 w_298 w_170 w_299
theorem ekL_50 : yX6_poorest.cls = RX6 ∧ yX6_poorest.cls ≠ "java/lang/invoke/MethodHandle" ∧ yX6_poorest.cls ≠ "java/lang/invoke/VarHandle" ∧ (parseMethodDescriptor yX6_poorest.desc).map (fun d => d.parameters.length) = some 0 := by decide +kernel
theorem gkX6_169 : GoodIn AW (wsV RX6 169 RX3 yX3_refusedFor (ws_ yX3_refusedFor cX3_refusedFor 2 (some (.int)))) := gw_V w_300 w_301 w_302 w_77 w_303
theorem ekX6_169 : yX3_refusedFor.cls = RX3 ∧ yX3_refusedFor.cls ≠ "java/lang/invoke/MethodHandle" ∧ yX3_refusedFor.cls ≠ "java/lang/invoke/VarHandle" ∧ (parseMethodDescriptor yX3_refusedFor.desc).map (fun d => d.parameters.length) = some 1 := by decide +kernel
theorem gkL_62 : GoodIn AW (wsV RL 62 RX6 yX6_refused (ws_ yX6_refused cX6_refused 2 (some (.int)))) := gw_V w_304 w_305 w_306 w_170 w_307
theorem ekL_62 : yX6_refused.cls = RX6 ∧ yX6_refused.cls ≠ "java/lang/invoke/MethodHandle" ∧ yX6_refused.cls ≠ "java/lang/invoke/VarHandle" ∧ (parseMethodDescriptor yX6_refused.desc).map (fun d => d.parameters.length) = some 1 := by decide +kernel
theorem gkX6_163 : GoodIn AW (wsV RX6 163 RX3 yX3_lodgerNumber (ws_ yX3_lodgerNumber cX3_lodgerNumber 3 (some (.int)))) := gw_V w_308 w_309 w_310 w_77 w_311
theorem ekX6_163 : yX3_lodgerNumber.cls = RX3 ∧ yX3_lodgerNumber.cls ≠ "java/lang/invoke/MethodHandle" ∧ yX3_lodgerNumber.cls ≠ "java/lang/invoke/VarHandle" ∧ (parseMethodDescriptor yX3_lodgerNumber.desc).map (fun d => d.parameters.length) = some 2 := by decide +kernel
theorem gkL_56 : GoodIn AW (wsV RL 56 RX6 yX6_lodgerOf (ws_ yX6_lodgerOf cX6_lodgerOf 3 (some (.int)))) := gw_V w_312 w_313 w_314 w_170 w_315
theorem ekL_56 : yX6_lodgerOf.cls = RX6 ∧ yX6_lodgerOf.cls ≠ "java/lang/invoke/MethodHandle" ∧ yX6_lodgerOf.cls ≠ "java/lang/invoke/VarHandle" ∧ (parseMethodDescriptor yX6_lodgerOf.desc).map (fun d => d.parameters.length) = some 2 := by decide +kernel
theorem gkX6_182 : GoodIn AW (wsV RX6 182 RX4 yX4_mostLentBeds (ws_ yX4_mostLentBeds cX4_mostLentBeds 3 (some (.int)))) := gw_V w_317 w_318 w_319 w_20 w_320
theorem ekX6_182 : yX4_mostLentBeds.cls = RX4 ∧ yX4_mostLentBeds.cls ≠ "java/lang/invoke/MethodHandle" ∧ yX4_mostLentBeds.cls ≠ "java/lang/invoke/VarHandle" ∧ (parseMethodDescriptor yX4_mostLentBeds.desc).map (fun d => d.parameters.length) = some 0 := by decide +kernel
theorem gkX6_178 : GoodIn AW (wsV RX6 178 RX1 yX1_bedsFor (ws_ yX1_bedsFor cX1_bedsFor 5 (some (.int)))) := gw_V w_322 w_323 w_324 w_29 w_325
theorem ekX6_178 : yX1_bedsFor.cls = RX1 ∧ yX1_bedsFor.cls ≠ "java/lang/invoke/MethodHandle" ∧ yX1_bedsFor.cls ≠ "java/lang/invoke/VarHandle" ∧ (parseMethodDescriptor yX1_bedsFor.desc).map (fun d => d.parameters.length) = some 1 := by decide +kernel
theorem gkL_67 : GoodIn AW (wsV RL 67 RX6 yX6_fewestBeds (ws_ yX6_fewestBeds cX6_fewestBeds 2 (some (.int)))) := gw_V w_326 w_327 w_328 w_170 w_329
theorem ekL_67 : yX6_fewestBeds.cls = RX6 ∧ yX6_fewestBeds.cls ≠ "java/lang/invoke/MethodHandle" ∧ yX6_fewestBeds.cls ≠ "java/lang/invoke/VarHandle" ∧ (parseMethodDescriptor yX6_fewestBeds.desc).map (fun d => d.parameters.length) = some 1 := by decide +kernel
theorem gkL_70 : GoodIn AW (wsV RL 70 RX6 yX6_fullness (ws_ yX6_fullness cX6_fullness 1 (some (.double)))) := gw_V w_330 w_331 w_332 w_170 w_333
theorem ekL_70 : yX6_fullness.cls = RX6 ∧ yX6_fullness.cls ≠ "java/lang/invoke/MethodHandle" ∧ yX6_fullness.cls ≠ "java/lang/invoke/VarHandle" ∧ (parseMethodDescriptor yX6_fullness.desc).map (fun d => d.parameters.length) = some 0 := by decide +kernel
theorem gkX6_172 : GoodIn AW (wsV RX6 172 RX3 yX3_answerTo (ws_ yX3_answerTo cX3_answerTo 6 (some (.int)))) := gw_V w_334 w_152 w_153 w_77 w_154
theorem ekX6_172 : yX3_answerTo.cls = RX3 ∧ yX3_answerTo.cls ≠ "java/lang/invoke/MethodHandle" ∧ yX3_answerTo.cls ≠ "java/lang/invoke/VarHandle" ∧ (parseMethodDescriptor yX3_answerTo.desc).map (fun d => d.parameters.length) = some 3 := by decide +kernel
theorem gkL_81 : GoodIn AW (wsV RL 81 RX6 yX6_ifAsked (ws_ yX6_ifAsked cX6_ifAsked 4 (some (.int)))) := gw_V w_335 w_336 w_337 w_170 w_338
theorem ekL_81 : yX6_ifAsked.cls = RX6 ∧ yX6_ifAsked.cls ≠ "java/lang/invoke/MethodHandle" ∧ yX6_ifAsked.cls ≠ "java/lang/invoke/VarHandle" ∧ (parseMethodDescriptor yX6_ifAsked.desc).map (fun d => d.parameters.length) = some 3 := by decide +kernel
theorem gkX6_175 : GoodIn AW (wsV RX6 175 RX3 yX3_wouldBePutOut (ws_ yX3_wouldBePutOut cX3_wouldBePutOut 5 (some (.int)))) := gw_V w_339 w_340 w_341 w_77 w_342
theorem ekX6_175 : yX3_wouldBePutOut.cls = RX3 ∧ yX3_wouldBePutOut.cls ≠ "java/lang/invoke/MethodHandle" ∧ yX3_wouldBePutOut.cls ≠ "java/lang/invoke/VarHandle" ∧ (parseMethodDescriptor yX3_wouldBePutOut.desc).map (fun d => d.parameters.length) = some 3 := by decide +kernel
theorem gkL_84 : GoodIn AW (wsV RL 84 RX6 yX6_ifPutOut (ws_ yX6_ifPutOut cX6_ifPutOut 4 (some (.int)))) := gw_V w_343 w_344 w_345 w_170 w_346
theorem ekL_84 : yX6_ifPutOut.cls = RX6 ∧ yX6_ifPutOut.cls ≠ "java/lang/invoke/MethodHandle" ∧ yX6_ifPutOut.cls ≠ "java/lang/invoke/VarHandle" ∧ (parseMethodDescriptor yX6_ifPutOut.desc).map (fun d => d.parameters.length) = some 3 := by decide +kernel
theorem gkX6_134 : GoodIn AW (wsV RX6 134 RX5 yX5_restore (ws_ yX5_restore cX5_restore 4 none)) := gw_V w_347 w_348 w_349 w_183 w_350
theorem ekX6_134 : yX5_restore.cls = RX5 ∧ yX5_restore.cls ≠ "java/lang/invoke/MethodHandle" ∧ yX5_restore.cls ≠ "java/lang/invoke/VarHandle" ∧ (parseMethodDescriptor yX5_restore.desc).map (fun d => d.parameters.length) = some 2 := by decide +kernel
theorem gkL_87 : GoodIn AW (wsV RL 87 RX6 yX6_undo (ws_ yX6_undo cX6_undo 1 (some (.int)))) := gw_V w_351 w_352 w_353 w_170 w_354
theorem ekL_87 : yX6_undo.cls = RX6 ∧ yX6_undo.cls ≠ "java/lang/invoke/MethodHandle" ∧ yX6_undo.cls ≠ "java/lang/invoke/VarHandle" ∧ (parseMethodDescriptor yX6_undo.desc).map (fun d => d.parameters.length) = some 0 := by decide +kernel
theorem gkL_8 : GoodIn AW (wsV RL 8 RX6 yX6_ask (ws_ yX6_ask cX6_ask 4 (some (.int)))) := gw_V w_355 w_356 w_357 w_170 w_358
theorem ekL_8 : yX6_ask.cls = RX6 ∧ yX6_ask.cls ≠ "java/lang/invoke/MethodHandle" ∧ yX6_ask.cls ≠ "java/lang/invoke/VarHandle" ∧ (parseMethodDescriptor yX6_ask.desc).map (fun d => d.parameters.length) = some 3 := by decide +kernel
theorem gkL_32 : GoodIn AW (wsV RL 32 RX6 yX6_pass (ws_ yX6_pass cX6_pass 1 (some (.int)))) := gw_V w_364 w_365 w_366 w_170 w_367
theorem ekL_32 : yX6_pass.cls = RX6 ∧ yX6_pass.cls ≠ "java/lang/invoke/MethodHandle" ∧ yX6_pass.cls ≠ "java/lang/invoke/VarHandle" ∧ (parseMethodDescriptor yX6_pass.desc).map (fun d => d.parameters.length) = some 0 := by decide +kernel
theorem gkL_29 : GoodIn AW (wsV RL 29 RX6 yX6_set (ws_ yX6_set cX6_set 2 (some (.int)))) := gw_V w_368 w_369 w_370 w_170 w_371
theorem ekL_29 : yX6_set.cls = RX6 ∧ yX6_set.cls ≠ "java/lang/invoke/MethodHandle" ∧ yX6_set.cls ≠ "java/lang/invoke/VarHandle" ∧ (parseMethodDescriptor yX6_set.desc).map (fun d => d.parameters.length) = some 1 := by decide +kernel
theorem gkL_26 : GoodIn AW (wsV RL 26 RX6 yX6_need (ws_ yX6_need cX6_need 3 (some (.int)))) := gw_V w_372 w_373 w_374 w_170 w_375
theorem ekL_26 : yX6_need.cls = RX6 ∧ yX6_need.cls ≠ "java/lang/invoke/MethodHandle" ∧ yX6_need.cls ≠ "java/lang/invoke/VarHandle" ∧ (parseMethodDescriptor yX6_need.desc).map (fun d => d.parameters.length) = some 2 := by decide +kernel
theorem gkL_22 : GoodIn AW (wsV RL 22 RX6 yX6_favour (ws_ yX6_favour cX6_favour 2 (some (.int)))) := gw_V w_376 w_377 w_378 w_170 w_379
theorem ekL_22 : yX6_favour.cls = RX6 ∧ yX6_favour.cls ≠ "java/lang/invoke/MethodHandle" ∧ yX6_favour.cls ≠ "java/lang/invoke/VarHandle" ∧ (parseMethodDescriptor yX6_favour.desc).map (fun d => d.parameters.length) = some 1 := by decide +kernel
theorem gkL_18 : GoodIn AW (wsV RL 18 RX6 yX6_giveBack (ws_ yX6_giveBack cX6_giveBack 3 (some (.int)))) := gw_V w_380 w_381 w_382 w_170 w_383
theorem ekL_18 : yX6_giveBack.cls = RX6 ∧ yX6_giveBack.cls ≠ "java/lang/invoke/MethodHandle" ∧ yX6_giveBack.cls ≠ "java/lang/invoke/VarHandle" ∧ (parseMethodDescriptor yX6_giveBack.desc).map (fun d => d.parameters.length) = some 2 := by decide +kernel
theorem gkL_38 : GoodIn AW (va_wsS RL 38 yL_low (ws_ yL_low cL_low 2 (some (.int)))) := gw_S w_384 w_385 w_283 w_386
theorem ekL_38 : yL_low.cls ≠ "java/lang/invoke/MethodHandle" ∧ yL_low.cls ≠ "java/lang/invoke/VarHandle" ∧ (parseMethodDescriptor yL_low.desc).map (fun d => d.parameters.length) = some 2 := by decide +kernel
theorem gkL_106 : GoodIn AW (va_wsS RL 106 yL_areSums (ws_ yL_areSums cL_areSums 12 (some (.boolean)))) := gw_S w_391 w_392 w_283 w_393
theorem ekL_106 : yL_areSums.cls ≠ "java/lang/invoke/MethodHandle" ∧ yL_areSums.cls ≠ "java/lang/invoke/VarHandle" ∧ (parseMethodDescriptor yL_areSums.desc).map (fun d => d.parameters.length) = some 1 := by decide +kernel
theorem gkL_94 : GoodIn AW (va_wsS RL 94 yL_cell (ws_ yL_cell cL_cell 2 (some (.int)))) := gw_S w_394 w_395 w_283 w_396
theorem ekL_94 : yL_cell.cls ≠ "java/lang/invoke/MethodHandle" ∧ yL_cell.cls ≠ "java/lang/invoke/VarHandle" ∧ (parseMethodDescriptor yL_cell.desc).map (fun d => d.parameters.length) = some 2 := by decide +kernel
theorem gkL_98 : GoodIn AW (va_wsS RL 98 yL_act (ws_ yL_act cL_act 8 (some (.int)))) := gw_S w_397 w_398 w_283 w_399
theorem ekL_98 : yL_act.cls ≠ "java/lang/invoke/MethodHandle" ∧ yL_act.cls ≠ "java/lang/invoke/VarHandle" ∧ (parseMethodDescriptor yL_act.desc).map (fun d => d.parameters.length) = some 3 := by decide +kernel
theorem gkL_102 : GoodIn AW (va_wsS RL 102 yL_areAlike (ws_ yL_areAlike cL_areAlike 4 (some (.boolean)))) := gw_S w_400 w_401 w_283 w_402
theorem ekL_102 : yL_areAlike.cls ≠ "java/lang/invoke/MethodHandle" ∧ yL_areAlike.cls ≠ "java/lang/invoke/VarHandle" ∧ (parseMethodDescriptor yL_areAlike.desc).map (fun d => d.parameters.length) = some 2 := by decide +kernel
theorem gkL_110 : GoodIn AW (va_wsS RL 110 yL_isAskingSo (ws_ yL_isAskingSo cL_isAskingSo 18 (some (.boolean)))) := gw_S w_403 w_404 w_283 w_405
theorem ekL_110 : yL_isAskingSo.cls ≠ "java/lang/invoke/MethodHandle" ∧ yL_isAskingSo.cls ≠ "java/lang/invoke/VarHandle" ∧ (parseMethodDescriptor yL_isAskingSo.desc).map (fun d => d.parameters.length) = some 4 := by decide +kernel
theorem gkL_113 : GoodIn AW (va_wsS RL 113 yL_isLongestSo (ws_ yL_isLongestSo cL_isLongestSo 9 (some (.boolean)))) := gw_S w_406 w_407 w_283 w_408
theorem ekL_113 : yL_isLongestSo.cls ≠ "java/lang/invoke/MethodHandle" ∧ yL_isLongestSo.cls ≠ "java/lang/invoke/VarHandle" ∧ (parseMethodDescriptor yL_isLongestSo.desc).map (fun d => d.parameters.length) = some 3 := by decide +kernel

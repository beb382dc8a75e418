theorem aT {w : Cond} (h : w ∈ tables_1) (g : goodWord w = true) : w ∈ AW := AW_of (List.mem_append_right _ h) g
theorem aP {w : Cond} (h : w ∈ k2_sels lw_privs) (g : goodWord w = true) : w ∈ AW := AW_of (List.mem_append_left _ h) g
theorem aT1 {w : Cond} (h : w ∈ tables_1_1) (g : goodWord w = true) : w ∈ AW := aT (List.mem_append_left _ h) g
theorem aT2 {w : Cond} (h : w ∈ tables_1_2) (g : goodWord w = true) : w ∈ AW := aT (List.mem_append_right _ (List.mem_append_left _ h)) g
theorem aT3 {w : Cond} (h : w ∈ tables_1_3) (g : goodWord w = true) : w ∈ AW := aT (List.mem_append_right _ (List.mem_append_right _ (List.mem_append_left _ h))) g
theorem aT4 {w : Cond} (h : w ∈ tables_1_4) (g : goodWord w = true) : w ∈ AW := aT (List.mem_append_right _ (List.mem_append_right _ (List.mem_append_right _ (List.mem_append_left _ h)))) g
theorem aT5 {w : Cond} (h : w ∈ tables_1_5) (g : goodWord w = true) : w ∈ AW := aT (List.mem_append_right _ (List.mem_append_right _ (List.mem_append_right _ (List.mem_append_right _ (h))))) g
theorem w_0 : Cond.constant RJ6 265 1431655765 ∈ AW := aT3 (List.mem_of_getElem? (i := 39) rfl) (by decide +kernel)
theorem w_1 : Cond.constant RJ6 266 858993459 ∈ AW := aT3 (List.mem_of_getElem? (i := 40) rfl) (by decide +kernel)
theorem w_2 : Cond.constant RJ6 267 252645135 ∈ AW := aT3 (List.mem_of_getElem? (i := 41) rfl) (by decide +kernel)
theorem w_3 : Cond.fieldLink RX0 15 "SevenAsks$AskingText" "size" "I" ∈ AW := aT1 (List.mem_of_getElem? (i := 128) rfl) (by decide +kernel)
theorem w_4 : Cond.fieldLink RX0 9 "SevenAsks$AskingText" "signs" "[I" ∈ AW := aT1 (List.mem_of_getElem? (i := 127) rfl) (by decide +kernel)
theorem w_5 : Cond.methodLink RX0 19 yX0_sign ∈ AW := aT1 (List.mem_of_getElem? (i := 172) rfl) (by decide +kernel)
theorem w_6 : Cond.instanceMethod yX0_sign ∈ AW := aT1 (List.mem_of_getElem? (i := 173) rfl) (by decide +kernel)
theorem w_7 : Cond.selects RX0 yX0_sign yX0_sign ∈ AW := aT1 (List.mem_of_getElem? (i := 174) rfl) (by decide +kernel)
theorem w_8 : Cond.initialized RX0 ∈ AW := aT1 (List.mem_of_getElem? (i := 9) rfl) (by decide +kernel)
theorem w_9 : Cond.code yX0_sign cX0_sign 2 (some (.int)) ∈ AW := aT1 (List.mem_of_getElem? (i := 175) rfl) (by decide +kernel)
theorem w_10 : Cond.methodLink RX0 27 yX0_next ∈ AW := aT1 (List.mem_of_getElem? (i := 179) rfl) (by decide +kernel)
theorem w_11 : Cond.static yX0_next ∈ AW := aT1 (List.mem_of_getElem? (i := 180) rfl) (by decide +kernel)
theorem w_12 : Cond.code yX0_next cX0_next 2 (some (.int)) ∈ AW := aT1 (List.mem_of_getElem? (i := 181) rfl) (by decide +kernel)
theorem w_13 : Cond.methodLink RX0 23 yX0_stateAfter ∈ AW := aT1 (List.mem_of_getElem? (i := 176) rfl) (by decide +kernel)
theorem w_14 : Cond.static yX0_stateAfter ∈ AW := aT1 (List.mem_of_getElem? (i := 177) rfl) (by decide +kernel)
theorem w_15 : Cond.code yX0_stateAfter cX0_stateAfter 2 (some (.int)) ∈ AW := aT1 (List.mem_of_getElem? (i := 178) rfl) (by decide +kernel)
theorem w_16 : Cond.fieldLink RX1 9 "SevenAsks$BedLaying" "busyUntil" "[I" ∈ AW := aT1 (List.mem_of_getElem? (i := 117) rfl) (by decide +kernel)
theorem w_17 : Cond.methodLink RX1 15 yJ7_fill_53178 ∈ AW := aT2 (List.mem_of_getElem? (i := 81) rfl) (by decide +kernel)
theorem w_18 : Cond.static yJ7_fill_53178 ∈ AW := aT1 (List.mem_of_getElem? (i := 64) rfl) (by decide +kernel)
theorem w_19 : Cond.initialized RJ7 ∈ AW := aT1 (List.mem_of_getElem? (i := 6) rfl) (by decide +kernel)
theorem w_20 : Cond.code yJ7_fill_53178 cJ7_fill_53178 4 none ∈ AW := aT1 (List.mem_of_getElem? (i := 65) rfl) (by decide +kernel)
theorem w_21 : Cond.fieldLink RX4 14 "SevenAsks$Night" "holders" "LSevenAsks$Grid;" ∈ AW := aT1 (List.mem_of_getElem? (i := 66) rfl) (by decide +kernel)
theorem w_22 : Cond.fieldLink RX2 15 "SevenAsks$Grid" "rows" "I" ∈ AW := aT1 (List.mem_of_getElem? (i := 48) rfl) (by decide +kernel)
theorem w_23 : Cond.fieldLink RX2 21 "SevenAsks$Grid" "columns" "I" ∈ AW := aT1 (List.mem_of_getElem? (i := 49) rfl) (by decide +kernel)
theorem w_24 : Cond.fieldLink RX2 24 "SevenAsks$Grid" "numbers" "[I" ∈ AW := aT1 (List.mem_of_getElem? (i := 50) rfl) (by decide +kernel)
theorem w_25 : Cond.methodLink RX4 32 yX2_get ∈ AW := aT1 (List.mem_of_getElem? (i := 214) rfl) (by decide +kernel)
theorem w_26 : Cond.instanceMethod yX2_get ∈ AW := aT1 (List.mem_of_getElem? (i := 195) rfl) (by decide +kernel)
theorem w_27 : Cond.selects RX2 yX2_get yX2_get ∈ AW := aT1 (List.mem_of_getElem? (i := 196) rfl) (by decide +kernel)
theorem w_28 : Cond.initialized RX2 ∈ AW := aT1 (List.mem_of_getElem? (i := 4) rfl) (by decide +kernel)
theorem w_29 : Cond.code yX2_get cX2_get 3 (some (.int)) ∈ AW := aT1 (List.mem_of_getElem? (i := 197) rfl) (by decide +kernel)
theorem w_30 : Cond.methodLink RX1 21 yX4_startsPiece ∈ AW := aT2 (List.mem_of_getElem? (i := 82) rfl) (by decide +kernel)
theorem w_31 : Cond.instanceMethod yX4_startsPiece ∈ AW := aT2 (List.mem_of_getElem? (i := 83) rfl) (by decide +kernel)
theorem w_32 : Cond.selects RX4 yX4_startsPiece yX4_startsPiece ∈ AW := aT2 (List.mem_of_getElem? (i := 84) rfl) (by decide +kernel)
theorem w_33 : Cond.initialized RX4 ∈ AW := aT1 (List.mem_of_getElem? (i := 3) rfl) (by decide +kernel)
theorem w_34 : Cond.code yX4_startsPiece cX4_startsPiece 4 (some (.boolean)) ∈ AW := aT2 (List.mem_of_getElem? (i := 85) rfl) (by decide +kernel)
theorem w_35 : Cond.methodLink RX1 27 yX4_pieceEnd ∈ AW := aT2 (List.mem_of_getElem? (i := 86) rfl) (by decide +kernel)
theorem w_36 : Cond.instanceMethod yX4_pieceEnd ∈ AW := aT2 (List.mem_of_getElem? (i := 87) rfl) (by decide +kernel)
theorem w_37 : Cond.selects RX4 yX4_pieceEnd yX4_pieceEnd ∈ AW := aT2 (List.mem_of_getElem? (i := 88) rfl) (by decide +kernel)
theorem w_38 : Cond.code yX4_pieceEnd cX4_pieceEnd 4 (some (.int)) ∈ AW := aT2 (List.mem_of_getElem? (i := 89) rfl) (by decide +kernel)
theorem w_39 : Cond.methodLink RX1 31 yX1_lay ∈ AW := aT2 (List.mem_of_getElem? (i := 90) rfl) (by decide +kernel)
theorem w_40 : Cond.instanceMethod yX1_lay ∈ AW := aT2 (List.mem_of_getElem? (i := 92) rfl) (by decide +kernel)
theorem w_41 : Cond.selects RX1 yX1_lay yX1_lay ∈ AW := aP (List.mem_of_getElem? (i := 8) rfl) (by decide +kernel)
theorem w_42 : Cond.initialized RX1 ∈ AW := aT1 (List.mem_of_getElem? (i := 8) rfl) (by decide +kernel)
theorem w_43 : Cond.code yX1_lay cX1_lay 4 (some (.int)) ∈ AW := aT2 (List.mem_of_getElem? (i := 93) rfl) (by decide +kernel)
theorem w_44 : Cond.methodLink RX1 34 yJ9_max_7cf53 ∈ AW := aT2 (List.mem_of_getElem? (i := 94) rfl) (by decide +kernel)
theorem w_45 : Cond.static yJ9_max_7cf53 ∈ AW := aT1 (List.mem_of_getElem? (i := 46) rfl) (by decide +kernel)
theorem w_46 : Cond.initialized RJ9 ∈ AW := aT1 (List.mem_of_getElem? (i := 5) rfl) (by decide +kernel)
theorem w_47 : Cond.code Lib.Math.max.name Lib.Math.max.code 2 (some .int) ∈ AW := aT1 (List.mem_of_getElem? (i := 47) rfl) (by decide +kernel)
theorem w_48 : Cond.methodLink RX2 41 arraycopyName ∈ AW := aT3 (List.mem_of_getElem? (i := 3) rfl) (by decide +kernel)
theorem w_49 : Cond.native arraycopyName ∈ AW := aT3 (List.mem_of_getElem? (i := 5) rfl) (by decide +kernel)
theorem w_50 : Cond.static arraycopyName ∈ AW := aT3 (List.mem_of_getElem? (i := 4) rfl) (by decide +kernel)
theorem w_51 : Cond.initialized RJ10 ∈ AW := aT1 (List.mem_of_getElem? (i := 16) rfl) (by decide +kernel)
theorem w_52 : Cond.methodLink RX2 35 yJ7_fill_53178 ∈ AW := aT1 (List.mem_of_getElem? (i := 63) rfl) (by decide +kernel)
theorem w_53 : Cond.methodLink RX2 28 yX2_get ∈ AW := aT3 (List.mem_of_getElem? (i := 19) rfl) (by decide +kernel)
theorem w_54 : Cond.methodLink RX2 31 yX2_put ∈ AW := aT3 (List.mem_of_getElem? (i := 20) rfl) (by decide +kernel)
theorem w_55 : Cond.instanceMethod yX2_put ∈ AW := aT1 (List.mem_of_getElem? (i := 76) rfl) (by decide +kernel)
theorem w_56 : Cond.selects RX2 yX2_put yX2_put ∈ AW := aT1 (List.mem_of_getElem? (i := 77) rfl) (by decide +kernel)
theorem w_57 : Cond.code yX2_put cX2_put 4 none ∈ AW := aT1 (List.mem_of_getElem? (i := 78) rfl) (by decide +kernel)
theorem w_58 : Cond.fieldLink RX3 27 "SevenAsks$House" "accounts" "LSevenAsks$Grid;" ∈ AW := aT1 (List.mem_of_getElem? (i := 82) rfl) (by decide +kernel)
theorem w_59 : Cond.methodLink RX3 51 yX2_get ∈ AW := aT1 (List.mem_of_getElem? (i := 194) rfl) (by decide +kernel)
theorem w_60 : Cond.fieldLink RX3 12 "SevenAsks$House" "night" "LSevenAsks$Night;" ∈ AW := aT1 (List.mem_of_getElem? (i := 79) rfl) (by decide +kernel)
theorem w_61 : Cond.methodLink RX4 40 yX4_lentBeds ∈ AW := aT1 (List.mem_of_getElem? (i := 210) rfl) (by decide +kernel)
theorem w_62 : Cond.instanceMethod yX4_lentBeds ∈ AW := aT1 (List.mem_of_getElem? (i := 211) rfl) (by decide +kernel)
theorem w_63 : Cond.selects RX4 yX4_lentBeds yX4_lentBeds ∈ AW := aT1 (List.mem_of_getElem? (i := 212) rfl) (by decide +kernel)
theorem w_64 : Cond.code yX4_lentBeds cX4_lentBeds 4 (some (.int)) ∈ AW := aT1 (List.mem_of_getElem? (i := 213) rfl) (by decide +kernel)
theorem w_65 : Cond.methodLink RX3 48 yX4_lentHours ∈ AW := aT1 (List.mem_of_getElem? (i := 206) rfl) (by decide +kernel)
theorem w_66 : Cond.instanceMethod yX4_lentHours ∈ AW := aT1 (List.mem_of_getElem? (i := 207) rfl) (by decide +kernel)
theorem w_67 : Cond.selects RX4 yX4_lentHours yX4_lentHours ∈ AW := aT1 (List.mem_of_getElem? (i := 208) rfl) (by decide +kernel)
theorem w_68 : Cond.code yX4_lentHours cX4_lentHours 3 (some (.int)) ∈ AW := aT1 (List.mem_of_getElem? (i := 209) rfl) (by decide +kernel)
theorem w_69 : Cond.fieldLink RX4 28 "SevenAsks$Night" "gone" "I" ∈ AW := aT1 (List.mem_of_getElem? (i := 67) rfl) (by decide +kernel)
theorem w_70 : Cond.methodLink RX3 44 yX4_goneHours ∈ AW := aT1 (List.mem_of_getElem? (i := 233) rfl) (by decide +kernel)
theorem w_71 : Cond.instanceMethod yX4_goneHours ∈ AW := aT1 (List.mem_of_getElem? (i := 234) rfl) (by decide +kernel)
theorem w_72 : Cond.selects RX4 yX4_goneHours yX4_goneHours ∈ AW := aT1 (List.mem_of_getElem? (i := 235) rfl) (by decide +kernel)
theorem w_73 : Cond.code yX4_goneHours cX4_goneHours 1 (some (.int)) ∈ AW := aT1 (List.mem_of_getElem? (i := 236) rfl) (by decide +kernel)
theorem w_74 : Cond.methodLink RX3 65 yX4_wentBy ∈ AW := aT2 (List.mem_of_getElem? (i := 57) rfl) (by decide +kernel)
theorem w_75 : Cond.instanceMethod yX4_wentBy ∈ AW := aT2 (List.mem_of_getElem? (i := 41) rfl) (by decide +kernel)
theorem w_76 : Cond.selects RX4 yX4_wentBy yX4_wentBy ∈ AW := aT2 (List.mem_of_getElem? (i := 42) rfl) (by decide +kernel)
theorem w_77 : Cond.code yX4_wentBy cX4_wentBy 2 (some (.boolean)) ∈ AW := aT2 (List.mem_of_getElem? (i := 43) rfl) (by decide +kernel)
theorem w_78 : Cond.methodLink RX4 49 yX4_bedOf ∈ AW := aT2 (List.mem_of_getElem? (i := 25) rfl) (by decide +kernel)
theorem w_79 : Cond.instanceMethod yX4_bedOf ∈ AW := aT2 (List.mem_of_getElem? (i := 26) rfl) (by decide +kernel)
theorem w_80 : Cond.selects RX4 yX4_bedOf yX4_bedOf ∈ AW := aT2 (List.mem_of_getElem? (i := 27) rfl) (by decide +kernel)
theorem w_81 : Cond.code yX4_bedOf cX4_bedOf 4 (some (.int)) ∈ AW := aT2 (List.mem_of_getElem? (i := 28) rfl) (by decide +kernel)
theorem w_82 : Cond.methodLink RX3 55 yX4_hoursWithBed ∈ AW := aT2 (List.mem_of_getElem? (i := 21) rfl) (by decide +kernel)
theorem w_83 : Cond.instanceMethod yX4_hoursWithBed ∈ AW := aT2 (List.mem_of_getElem? (i := 22) rfl) (by decide +kernel)
theorem w_84 : Cond.selects RX4 yX4_hoursWithBed yX4_hoursWithBed ∈ AW := aT2 (List.mem_of_getElem? (i := 23) rfl) (by decide +kernel)
theorem w_85 : Cond.code yX4_hoursWithBed cX4_hoursWithBed 6 (some (.int)) ∈ AW := aT2 (List.mem_of_getElem? (i := 24) rfl) (by decide +kernel)
theorem w_86 : Cond.fieldLink RX3 23 "SevenAsks$House" "lodgers" "LSevenAsks$Grid;" ∈ AW := aT1 (List.mem_of_getElem? (i := 81) rfl) (by decide +kernel)
theorem w_87 : Cond.methodLink RX3 69 yX3_isEighth ∈ AW := aT2 (List.mem_of_getElem? (i := 58) rfl) (by decide +kernel)
theorem w_88 : Cond.instanceMethod yX3_isEighth ∈ AW := aT2 (List.mem_of_getElem? (i := 60) rfl) (by decide +kernel)
theorem w_89 : Cond.selects RX3 yX3_isEighth yX3_isEighth ∈ AW := aP (List.mem_of_getElem? (i := 6) rfl) (by decide +kernel)
theorem w_90 : Cond.initialized RX3 ∈ AW := aT1 (List.mem_of_getElem? (i := 2) rfl) (by decide +kernel)
theorem w_91 : Cond.code yX3_isEighth cX3_isEighth 2 (some (.boolean)) ∈ AW := aT2 (List.mem_of_getElem? (i := 61) rfl) (by decide +kernel)
theorem w_92 : Cond.methodLink RX4 52 yX4_lentHoursIn ∈ AW := aT2 (List.mem_of_getElem? (i := 49) rfl) (by decide +kernel)
theorem w_93 : Cond.instanceMethod yX4_lentHoursIn ∈ AW := aT2 (List.mem_of_getElem? (i := 50) rfl) (by decide +kernel)
theorem w_94 : Cond.selects RX4 yX4_lentHoursIn yX4_lentHoursIn ∈ AW := aT2 (List.mem_of_getElem? (i := 51) rfl) (by decide +kernel)
theorem w_95 : Cond.code yX4_lentHoursIn cX4_lentHoursIn 6 (some (.int)) ∈ AW := aT2 (List.mem_of_getElem? (i := 52) rfl) (by decide +kernel)
theorem w_96 : Cond.methodLink RX3 75 yX4_leastLentBed ∈ AW := aT2 (List.mem_of_getElem? (i := 66) rfl) (by decide +kernel)
theorem w_97 : Cond.instanceMethod yX4_leastLentBed ∈ AW := aT2 (List.mem_of_getElem? (i := 46) rfl) (by decide +kernel)
theorem w_98 : Cond.selects RX4 yX4_leastLentBed yX4_leastLentBed ∈ AW := aT2 (List.mem_of_getElem? (i := 47) rfl) (by decide +kernel)
theorem w_99 : Cond.code yX4_leastLentBed cX4_leastLentBed 5 (some (.int)) ∈ AW := aT2 (List.mem_of_getElem? (i := 48) rfl) (by decide +kernel)
theorem w_100 : Cond.methodLink RX3 78 yX4_lentHoursIn ∈ AW := aT2 (List.mem_of_getElem? (i := 67) rfl) (by decide +kernel)
theorem w_101 : Cond.methodLink RX3 72 yX3_hasTooLittleNeed ∈ AW := aT2 (List.mem_of_getElem? (i := 62) rfl) (by decide +kernel)
theorem w_102 : Cond.instanceMethod yX3_hasTooLittleNeed ∈ AW := aT2 (List.mem_of_getElem? (i := 64) rfl) (by decide +kernel)
theorem w_103 : Cond.selects RX3 yX3_hasTooLittleNeed yX3_hasTooLittleNeed ∈ AW := aP (List.mem_of_getElem? (i := 7) rfl) (by decide +kernel)
theorem w_104 : Cond.code yX3_hasTooLittleNeed cX3_hasTooLittleNeed 2 (some (.boolean)) ∈ AW := aT2 (List.mem_of_getElem? (i := 65) rfl) (by decide +kernel)
theorem w_105 : Cond.methodLink RX3 33 yX2_put ∈ AW := aT1 (List.mem_of_getElem? (i := 75) rfl) (by decide +kernel)
theorem w_106 : Cond.methodLink RX4 24 yX2_copyFrom ∈ AW := aT2 (List.mem_of_getElem? (i := 239) rfl) (by decide +kernel)
theorem w_107 : Cond.instanceMethod yX2_copyFrom ∈ AW := aT3 (List.mem_of_getElem? (i := 0) rfl) (by decide +kernel)
theorem w_108 : Cond.selects RX2 yX2_copyFrom yX2_copyFrom ∈ AW := aT3 (List.mem_of_getElem? (i := 1) rfl) (by decide +kernel)
theorem w_109 : Cond.code yX2_copyFrom cX2_copyFrom 2 none ∈ AW := aT3 (List.mem_of_getElem? (i := 2) rfl) (by decide +kernel)
theorem w_110 : Cond.methodLink RX3 37 yX4_copyFrom ∈ AW := aT2 (List.mem_of_getElem? (i := 235) rfl) (by decide +kernel)
theorem w_111 : Cond.instanceMethod yX4_copyFrom ∈ AW := aT2 (List.mem_of_getElem? (i := 236) rfl) (by decide +kernel)
theorem w_112 : Cond.selects RX4 yX4_copyFrom yX4_copyFrom ∈ AW := aT2 (List.mem_of_getElem? (i := 237) rfl) (by decide +kernel)
theorem w_113 : Cond.code yX4_copyFrom cX4_copyFrom 2 none ∈ AW := aT2 (List.mem_of_getElem? (i := 238) rfl) (by decide +kernel)
theorem w_114 : Cond.methodLink RX3 41 yX2_copyFrom ∈ AW := aT3 (List.mem_of_getElem? (i := 6) rfl) (by decide +kernel)
theorem w_115 : Cond.fieldLink RX3 30 "SevenAsks$House" "reasons" "LSevenAsks$Grid;" ∈ AW := aT1 (List.mem_of_getElem? (i := 83) rfl) (by decide +kernel)
theorem w_116 : Cond.methodLink RX3 115 yJ6_bitCount_0f7a4 ∈ AW := aT3 (List.mem_of_getElem? (i := 36) rfl) (by decide +kernel)
theorem w_117 : Cond.static yJ6_bitCount_0f7a4 ∈ AW := aT3 (List.mem_of_getElem? (i := 37) rfl) (by decide +kernel)
theorem w_118 : Cond.initialized RJ6 ∈ AW := aT1 (List.mem_of_getElem? (i := 17) rfl) (by decide +kernel)
theorem w_119 : Cond.code yJ6_bitCount_0f7a4 cJ6_bitCount_0f7a4 1 (some (.int)) ∈ AW := aT3 (List.mem_of_getElem? (i := 38) rfl) (by decide +kernel)
theorem w_120 : Cond.methodLink RX3 94 yX2_raise ∈ AW := aT3 (List.mem_of_getElem? (i := 15) rfl) (by decide +kernel)
theorem w_121 : Cond.instanceMethod yX2_raise ∈ AW := aT3 (List.mem_of_getElem? (i := 16) rfl) (by decide +kernel)
theorem w_122 : Cond.selects RX2 yX2_raise yX2_raise ∈ AW := aT3 (List.mem_of_getElem? (i := 17) rfl) (by decide +kernel)
theorem w_123 : Cond.code yX2_raise cX2_raise 4 none ∈ AW := aT3 (List.mem_of_getElem? (i := 18) rfl) (by decide +kernel)
theorem w_124 : Cond.methodLink RX3 101 yJ9_min_7cf53 ∈ AW := aT3 (List.mem_of_getElem? (i := 25) rfl) (by decide +kernel)
theorem w_125 : Cond.static yJ9_min_7cf53 ∈ AW := aT3 (List.mem_of_getElem? (i := 26) rfl) (by decide +kernel)
theorem w_126 : Cond.code Lib.Math.min.name Lib.Math.min.code 2 (some .int) ∈ AW := aT3 (List.mem_of_getElem? (i := 27) rfl) (by decide +kernel)
theorem w_127 : Cond.methodLink RX3 97 yX3_countRefusal ∈ AW := aT3 (List.mem_of_getElem? (i := 21) rfl) (by decide +kernel)
theorem w_128 : Cond.instanceMethod yX3_countRefusal ∈ AW := aT3 (List.mem_of_getElem? (i := 23) rfl) (by decide +kernel)
theorem w_129 : Cond.selects RX3 yX3_countRefusal yX3_countRefusal ∈ AW := aP (List.mem_of_getElem? (i := 14) rfl) (by decide +kernel)
theorem w_130 : Cond.code yX3_countRefusal cX3_countRefusal 3 none ∈ AW := aT3 (List.mem_of_getElem? (i := 24) rfl) (by decide +kernel)
theorem w_131 : Cond.methodLink RX4 36 yX2_put ∈ AW := aT3 (List.mem_of_getElem? (i := 51) rfl) (by decide +kernel)
theorem w_132 : Cond.methodLink RX3 112 yX4_lend ∈ AW := aT3 (List.mem_of_getElem? (i := 52) rfl) (by decide +kernel)
theorem w_133 : Cond.instanceMethod yX4_lend ∈ AW := aT3 (List.mem_of_getElem? (i := 48) rfl) (by decide +kernel)
theorem w_134 : Cond.selects RX4 yX4_lend yX4_lend ∈ AW := aT3 (List.mem_of_getElem? (i := 49) rfl) (by decide +kernel)
theorem w_135 : Cond.code yX4_lend cX4_lend 6 none ∈ AW := aT3 (List.mem_of_getElem? (i := 50) rfl) (by decide +kernel)
theorem w_136 : Cond.methodLink RX3 84 yX4_holdersMask ∈ AW := aT2 (List.mem_of_getElem? (i := 73) rfl) (by decide +kernel)
theorem w_137 : Cond.instanceMethod yX4_holdersMask ∈ AW := aT2 (List.mem_of_getElem? (i := 74) rfl) (by decide +kernel)
theorem w_138 : Cond.selects RX4 yX4_holdersMask yX4_holdersMask ∈ AW := aT2 (List.mem_of_getElem? (i := 75) rfl) (by decide +kernel)
theorem w_139 : Cond.code yX4_holdersMask cX4_holdersMask 7 (some (.int)) ∈ AW := aT2 (List.mem_of_getElem? (i := 76) rfl) (by decide +kernel)
theorem w_140 : Cond.methodLink RX3 106 yX3_countPutOut ∈ AW := aT3 (List.mem_of_getElem? (i := 32) rfl) (by decide +kernel)
theorem w_141 : Cond.instanceMethod yX3_countPutOut ∈ AW := aT3 (List.mem_of_getElem? (i := 34) rfl) (by decide +kernel)
theorem w_142 : Cond.selects RX3 yX3_countPutOut yX3_countPutOut ∈ AW := aP (List.mem_of_getElem? (i := 16) rfl) (by decide +kernel)
theorem w_143 : Cond.code yX3_countPutOut cX3_countPutOut 3 none ∈ AW := aT3 (List.mem_of_getElem? (i := 35) rfl) (by decide +kernel)
theorem w_144 : Cond.methodLink RX4 56 yX4_pieceEnd ∈ AW := aT3 (List.mem_of_getElem? (i := 46) rfl) (by decide +kernel)
theorem w_145 : Cond.methodLink RX4 59 yX4_lend ∈ AW := aT3 (List.mem_of_getElem? (i := 47) rfl) (by decide +kernel)
theorem w_146 : Cond.methodLink RX3 109 yX4_freePiecesIn ∈ AW := aT3 (List.mem_of_getElem? (i := 42) rfl) (by decide +kernel)
theorem w_147 : Cond.instanceMethod yX4_freePiecesIn ∈ AW := aT3 (List.mem_of_getElem? (i := 43) rfl) (by decide +kernel)
theorem w_148 : Cond.selects RX4 yX4_freePiecesIn yX4_freePiecesIn ∈ AW := aT3 (List.mem_of_getElem? (i := 44) rfl) (by decide +kernel)
theorem w_149 : Cond.code yX4_freePiecesIn cX4_freePiecesIn 7 (some (.int)) ∈ AW := aT3 (List.mem_of_getElem? (i := 45) rfl) (by decide +kernel)
theorem w_150 : Cond.methodLink RX3 127 yX4_lentBeds ∈ AW := aT3 (List.mem_of_getElem? (i := 133) rfl) (by decide +kernel)
theorem w_151 : Cond.methodLink RX4 20 yX2_fill ∈ AW := aT1 (List.mem_of_getElem? (i := 59) rfl) (by decide +kernel)
theorem w_152 : Cond.instanceMethod yX2_fill ∈ AW := aT1 (List.mem_of_getElem? (i := 60) rfl) (by decide +kernel)
theorem w_153 : Cond.selects RX2 yX2_fill yX2_fill ∈ AW := aT1 (List.mem_of_getElem? (i := 61) rfl) (by decide +kernel)
theorem w_154 : Cond.code yX2_fill cX2_fill 2 none ∈ AW := aT1 (List.mem_of_getElem? (i := 62) rfl) (by decide +kernel)
theorem w_155 : Cond.methodLink RX3 130 yX4_advance ∈ AW := aT3 (List.mem_of_getElem? (i := 134) rfl) (by decide +kernel)
theorem w_156 : Cond.instanceMethod yX4_advance ∈ AW := aT3 (List.mem_of_getElem? (i := 135) rfl) (by decide +kernel)
theorem w_157 : Cond.selects RX4 yX4_advance yX4_advance ∈ AW := aT3 (List.mem_of_getElem? (i := 136) rfl) (by decide +kernel)
theorem w_158 : Cond.code yX4_advance cX4_advance 1 none ∈ AW := aT3 (List.mem_of_getElem? (i := 137) rfl) (by decide +kernel)
theorem w_159 : Cond.methodLink RX3 61 yX3_isPoorer ∈ AW := aT1 (List.mem_of_getElem? (i := 190) rfl) (by decide +kernel)
theorem w_160 : Cond.instanceMethod yX3_isPoorer ∈ AW := aT1 (List.mem_of_getElem? (i := 192) rfl) (by decide +kernel)
theorem w_161 : Cond.selects RX3 yX3_isPoorer yX3_isPoorer ∈ AW := aP (List.mem_of_getElem? (i := 0) rfl) (by decide +kernel)
theorem w_162 : Cond.code yX3_isPoorer cX3_isPoorer 4 (some (.boolean)) ∈ AW := aT1 (List.mem_of_getElem? (i := 193) rfl) (by decide +kernel)
theorem w_163 : Cond.constantDouble RX3 59 4631952216750555136 ∈ AW := aT1 (List.mem_of_getElem? (i := 215) rfl) (by decide +kernel)
theorem w_164 : Cond.methodLink RX3 81 yX3_answerTo ∈ AW := aT2 (List.mem_of_getElem? (i := 72) rfl) (by decide +kernel)
theorem w_165 : Cond.instanceMethod yX3_answerTo ∈ AW := aT2 (List.mem_of_getElem? (i := 54) rfl) (by decide +kernel)
theorem w_166 : Cond.selects RX3 yX3_answerTo yX3_answerTo ∈ AW := aT2 (List.mem_of_getElem? (i := 55) rfl) (by decide +kernel)
theorem w_167 : Cond.code yX3_answerTo cX3_answerTo 6 (some (.int)) ∈ AW := aT2 (List.mem_of_getElem? (i := 56) rfl) (by decide +kernel)
theorem w_168 : Cond.methodLink RX3 90 yX3_grant ∈ AW := aT3 (List.mem_of_getElem? (i := 28) rfl) (by decide +kernel)
theorem w_169 : Cond.instanceMethod yX3_grant ∈ AW := aT3 (List.mem_of_getElem? (i := 30) rfl) (by decide +kernel)
theorem w_170 : Cond.selects RX3 yX3_grant yX3_grant ∈ AW := aP (List.mem_of_getElem? (i := 15) rfl) (by decide +kernel)
theorem w_171 : Cond.code yX3_grant cX3_grant 5 none ∈ AW := aT3 (List.mem_of_getElem? (i := 31) rfl) (by decide +kernel)
theorem w_172 : Cond.methodLink RX3 87 yX3_refuse ∈ AW := aT3 (List.mem_of_getElem? (i := 11) rfl) (by decide +kernel)
theorem w_173 : Cond.instanceMethod yX3_refuse ∈ AW := aT3 (List.mem_of_getElem? (i := 13) rfl) (by decide +kernel)
theorem w_174 : Cond.selects RX3 yX3_refuse yX3_refuse ∈ AW := aP (List.mem_of_getElem? (i := 13) rfl) (by decide +kernel)
theorem w_175 : Cond.code yX3_refuse cX3_refuse 3 none ∈ AW := aT3 (List.mem_of_getElem? (i := 14) rfl) (by decide +kernel)
theorem w_176 : Cond.methodLink RX3 121 yX4_bedOf ∈ AW := aT3 (List.mem_of_getElem? (i := 71) rfl) (by decide +kernel)
theorem w_177 : Cond.methodLink RX3 124 yX4_freePieceFrom ∈ AW := aT3 (List.mem_of_getElem? (i := 72) rfl) (by decide +kernel)
theorem w_178 : Cond.instanceMethod yX4_freePieceFrom ∈ AW := aT3 (List.mem_of_getElem? (i := 73) rfl) (by decide +kernel)
theorem w_179 : Cond.selects RX4 yX4_freePieceFrom yX4_freePieceFrom ∈ AW := aT3 (List.mem_of_getElem? (i := 74) rfl) (by decide +kernel)
theorem w_180 : Cond.code yX4_freePieceFrom cX4_freePieceFrom 4 (some (.int)) ∈ AW := aT3 (List.mem_of_getElem? (i := 75) rfl) (by decide +kernel)
theorem w_181 : Cond.code yX6_isWithinNight cX6_isWithinNight 2 (some (.boolean)) ∈ AW := aT2 (List.mem_of_getElem? (i := 39) rfl) (by decide +kernel)
theorem w_182 : Cond.static yX6_isWithinNight ∈ AW := aT2 (List.mem_of_getElem? (i := 38) rfl) (by decide +kernel)
theorem w_183 : Cond.initialized RX6 ∈ AW := aT1 (List.mem_of_getElem? (i := 1) rfl) (by decide +kernel)
theorem w_184 : Cond.methodLink RX4 71 yX4_wentBy ∈ AW := aT2 (List.mem_of_getElem? (i := 40) rfl) (by decide +kernel)
theorem w_185 : Cond.methodLink RX4 75 yX4_hoursWithBed ∈ AW := aT2 (List.mem_of_getElem? (i := 44) rfl) (by decide +kernel)
theorem w_186 : Cond.methodLink RX4 78 yX4_leastLentBed ∈ AW := aT2 (List.mem_of_getElem? (i := 45) rfl) (by decide +kernel)
theorem w_187 : Cond.methodLink RX4 63 yX4_isOpenTo ∈ AW := aT2 (List.mem_of_getElem? (i := 33) rfl) (by decide +kernel)
theorem w_188 : Cond.instanceMethod yX4_isOpenTo ∈ AW := aT2 (List.mem_of_getElem? (i := 35) rfl) (by decide +kernel)
theorem w_189 : Cond.selects RX4 yX4_isOpenTo yX4_isOpenTo ∈ AW := aP (List.mem_of_getElem? (i := 5) rfl) (by decide +kernel)
theorem w_190 : Cond.code yX4_isOpenTo cX4_isOpenTo 4 (some (.boolean)) ∈ AW := aT2 (List.mem_of_getElem? (i := 36) rfl) (by decide +kernel)
theorem w_191 : Cond.methodLink RX4 44 yJ9_max_7cf53 ∈ AW := aT2 (List.mem_of_getElem? (i := 99) rfl) (by decide +kernel)
theorem w_192 : Cond.fieldLink RX5 15 "SevenAsks$Shelf" "houses" "[LSevenAsks$House;" ∈ AW := aT1 (List.mem_of_getElem? (i := 103) rfl) (by decide +kernel)
theorem w_193 : Cond.fieldLink RX5 21 "SevenAsks$Shelf" "filled" "[Z" ∈ AW := aT1 (List.mem_of_getElem? (i := 104) rfl) (by decide +kernel)
theorem w_194 : Cond.methodLink RX5 26 yX5_houseIn ∈ AW := aT2 (List.mem_of_getElem? (i := 227) rfl) (by decide +kernel)
theorem w_195 : Cond.instanceMethod yX5_houseIn ∈ AW := aT2 (List.mem_of_getElem? (i := 229) rfl) (by decide +kernel)
theorem w_196 : Cond.selects RX5 yX5_houseIn yX5_houseIn ∈ AW := aP (List.mem_of_getElem? (i := 12) rfl) (by decide +kernel)
theorem w_197 : Cond.initialized RX5 ∈ AW := aT1 (List.mem_of_getElem? (i := 7) rfl) (by decide +kernel)
theorem w_198 : Cond.code yX5_houseIn cX5_houseIn 2 (some ((.object "SevenAsks$House"))) ∈ AW := aT2 (List.mem_of_getElem? (i := 230) rfl) (by decide +kernel)
theorem w_199 : Cond.methodLink RX5 30 yX3_copyFrom ∈ AW := aT2 (List.mem_of_getElem? (i := 231) rfl) (by decide +kernel)
theorem w_200 : Cond.instanceMethod yX3_copyFrom ∈ AW := aT2 (List.mem_of_getElem? (i := 232) rfl) (by decide +kernel)
theorem w_201 : Cond.selects RX3 yX3_copyFrom yX3_copyFrom ∈ AW := aT2 (List.mem_of_getElem? (i := 233) rfl) (by decide +kernel)
theorem w_202 : Cond.code yX3_copyFrom cX3_copyFrom 2 none ∈ AW := aT2 (List.mem_of_getElem? (i := 234) rfl) (by decide +kernel)
theorem w_203 : Cond.fieldLink RX6 10 "SevenAsks" "house" "LSevenAsks$House;" ∈ AW := aT1 (List.mem_of_getElem? (i := 134) rfl) (by decide +kernel)
theorem w_204 : Cond.methodLink RX6 125 yX3_account ∈ AW := aT1 (List.mem_of_getElem? (i := 229) rfl) (by decide +kernel)
theorem w_205 : Cond.instanceMethod yX3_account ∈ AW := aT1 (List.mem_of_getElem? (i := 230) rfl) (by decide +kernel)
theorem w_206 : Cond.selects RX3 yX3_account yX3_account ∈ AW := aT1 (List.mem_of_getElem? (i := 231) rfl) (by decide +kernel)
theorem w_207 : Cond.code yX3_account cX3_account 2 (some (.int)) ∈ AW := aT1 (List.mem_of_getElem? (i := 232) rfl) (by decide +kernel)
theorem w_208 : Cond.fieldLink RX6 137 "SevenAsks" "savedCount" "I" ∈ AW := aT1 (List.mem_of_getElem? (i := 139) rfl) (by decide +kernel)
theorem w_209 : Cond.constantLong RX6 226 1023 ∈ AW := aT2 (List.mem_of_getElem? (i := 103) rfl) (by decide +kernel)
theorem w_210 : Cond.constantLong RX6 230 4503599627370496 ∈ AW := aT2 (List.mem_of_getElem? (i := 105) rfl) (by decide +kernel)
theorem w_211 : Cond.constantDouble RX6 228 4611686018427387904 ∈ AW := aT2 (List.mem_of_getElem? (i := 104) rfl) (by decide +kernel)
theorem w_212 : Cond.fieldLink RX6 38 "SevenAsks" "text" "LSevenAsks$AskingText;" ∈ AW := aT1 (List.mem_of_getElem? (i := 138) rfl) (by decide +kernel)
theorem w_213 : Cond.methodLink RX6 245 yX0_tellsHour ∈ AW := aT3 (List.mem_of_getElem? (i := 186) rfl) (by decide +kernel)
theorem w_214 : Cond.instanceMethod yX0_tellsHour ∈ AW := aT3 (List.mem_of_getElem? (i := 187) rfl) (by decide +kernel)
theorem w_215 : Cond.selects RX0 yX0_tellsHour yX0_tellsHour ∈ AW := aT3 (List.mem_of_getElem? (i := 188) rfl) (by decide +kernel)
theorem w_216 : Cond.code yX0_tellsHour cX0_tellsHour 2 (some (.boolean)) ∈ AW := aT3 (List.mem_of_getElem? (i := 189) rfl) (by decide +kernel)
theorem w_217 : Cond.methodLink RX6 248 yX0_firstHour ∈ AW := aT3 (List.mem_of_getElem? (i := 190) rfl) (by decide +kernel)
theorem w_218 : Cond.instanceMethod yX0_firstHour ∈ AW := aT3 (List.mem_of_getElem? (i := 191) rfl) (by decide +kernel)
theorem w_219 : Cond.selects RX0 yX0_firstHour yX0_firstHour ∈ AW := aT3 (List.mem_of_getElem? (i := 192) rfl) (by decide +kernel)
theorem w_220 : Cond.code yX0_firstHour cX0_firstHour 2 (some (.int)) ∈ AW := aT3 (List.mem_of_getElem? (i := 193) rfl) (by decide +kernel)
theorem w_221 : Cond.methodLink RX6 254 yX0_hours ∈ AW := aT3 (List.mem_of_getElem? (i := 194) rfl) (by decide +kernel)
theorem w_222 : Cond.instanceMethod yX0_hours ∈ AW := aT3 (List.mem_of_getElem? (i := 195) rfl) (by decide +kernel)
theorem w_223 : Cond.selects RX0 yX0_hours yX0_hours ∈ AW := aT3 (List.mem_of_getElem? (i := 196) rfl) (by decide +kernel)
theorem w_224 : Cond.code yX0_hours cX0_hours 2 (some (.int)) ∈ AW := aT3 (List.mem_of_getElem? (i := 197) rfl) (by decide +kernel)
theorem w_225 : Cond.methodLink RX6 236 yX6_isWithinNight ∈ AW := aT2 (List.mem_of_getElem? (i := 202) rfl) (by decide +kernel)
theorem w_226 : Cond.methodLink RX6 73 yX3_canLetHourGo ∈ AW := aT3 (List.mem_of_getElem? (i := 109) rfl) (by decide +kernel)
theorem w_227 : Cond.instanceMethod yX3_canLetHourGo ∈ AW := aT3 (List.mem_of_getElem? (i := 110) rfl) (by decide +kernel)
theorem w_228 : Cond.selects RX3 yX3_canLetHourGo yX3_canLetHourGo ∈ AW := aT3 (List.mem_of_getElem? (i := 111) rfl) (by decide +kernel)
theorem w_229 : Cond.code yX3_canLetHourGo cX3_canLetHourGo 1 (some (.boolean)) ∈ AW := aT3 (List.mem_of_getElem? (i := 112) rfl) (by decide +kernel)
theorem w_230 : Cond.methodLink RX6 104 yX0_empty ∈ AW := aT1 (List.mem_of_getElem? (i := 160) rfl) (by decide +kernel)
theorem w_231 : Cond.instanceMethod yX0_empty ∈ AW := aT1 (List.mem_of_getElem? (i := 161) rfl) (by decide +kernel)
theorem w_232 : Cond.selects RX0 yX0_empty yX0_empty ∈ AW := aT1 (List.mem_of_getElem? (i := 162) rfl) (by decide +kernel)
theorem w_233 : Cond.code yX0_empty cX0_empty 2 (some (.int)) ∈ AW := aT1 (List.mem_of_getElem? (i := 163) rfl) (by decide +kernel)
theorem w_234 : Cond.constantLong RX6 195 3659 ∈ AW := aT1 (List.mem_of_getElem? (i := 220) rfl) (by decide +kernel)
theorem w_235 : Cond.methodLink RX6 169 yX3_refusedFor ∈ AW := aT2 (List.mem_of_getElem? (i := 1) rfl) (by decide +kernel)
theorem w_236 : Cond.instanceMethod yX3_refusedFor ∈ AW := aT2 (List.mem_of_getElem? (i := 2) rfl) (by decide +kernel)
theorem w_237 : Cond.selects RX3 yX3_refusedFor yX3_refusedFor ∈ AW := aT2 (List.mem_of_getElem? (i := 3) rfl) (by decide +kernel)
theorem w_238 : Cond.code yX3_refusedFor cX3_refusedFor 2 (some (.int)) ∈ AW := aT2 (List.mem_of_getElem? (i := 4) rfl) (by decide +kernel)
theorem w_239 : Cond.constantLong RX6 218 31 ∈ AW := aT2 (List.mem_of_getElem? (i := 0) rfl) (by decide +kernel)
theorem w_240 : Cond.methodLink RX6 207 yX6_mixed ∈ AW := aT1 (List.mem_of_getElem? (i := 237) rfl) (by decide +kernel)
theorem w_241 : Cond.static yX6_mixed ∈ AW := aT1 (List.mem_of_getElem? (i := 238) rfl) (by decide +kernel)
theorem w_242 : Cond.code yX6_mixed cX6_mixed 4 (some (.long)) ∈ AW := aT1 (List.mem_of_getElem? (i := 239) rfl) (by decide +kernel)
theorem w_243 : Cond.methodLink RX6 166 yX6_accountOf ∈ AW := aT1 (List.mem_of_getElem? (i := 225) rfl) (by decide +kernel)
theorem w_244 : Cond.instanceMethod yX6_accountOf ∈ AW := aT1 (List.mem_of_getElem? (i := 227) rfl) (by decide +kernel)
theorem w_245 : Cond.selects RX6 yX6_accountOf yX6_accountOf ∈ AW := aP (List.mem_of_getElem? (i := 2) rfl) (by decide +kernel)
theorem w_246 : Cond.code yX6_accountOf cX6_accountOf 2 (some (.int)) ∈ AW := aT1 (List.mem_of_getElem? (i := 228) rfl) (by decide +kernel)
theorem w_247 : Cond.methodLink RX6 197 yX6_withAccounts ∈ AW := aT1 (List.mem_of_getElem? (i := 221) rfl) (by decide +kernel)
theorem w_248 : Cond.instanceMethod yX6_withAccounts ∈ AW := aT1 (List.mem_of_getElem? (i := 223) rfl) (by decide +kernel)
theorem w_249 : Cond.selects RX6 yX6_withAccounts yX6_withAccounts ∈ AW := aP (List.mem_of_getElem? (i := 1) rfl) (by decide +kernel)
theorem w_250 : Cond.code yX6_withAccounts cX6_withAccounts 6 (some (.long)) ∈ AW := aT1 (List.mem_of_getElem? (i := 224) rfl) (by decide +kernel)
theorem w_251 : Cond.methodLink RX6 155 yX4_holder ∈ AW := aT2 (List.mem_of_getElem? (i := 9) rfl) (by decide +kernel)
theorem w_252 : Cond.instanceMethod yX4_holder ∈ AW := aT2 (List.mem_of_getElem? (i := 10) rfl) (by decide +kernel)
theorem w_253 : Cond.selects RX4 yX4_holder yX4_holder ∈ AW := aT2 (List.mem_of_getElem? (i := 11) rfl) (by decide +kernel)
theorem w_254 : Cond.code yX4_holder cX4_holder 3 (some (.int)) ∈ AW := aT2 (List.mem_of_getElem? (i := 12) rfl) (by decide +kernel)
theorem w_255 : Cond.methodLink RX6 201 yX6_withBeds ∈ AW := aT2 (List.mem_of_getElem? (i := 5) rfl) (by decide +kernel)
theorem w_256 : Cond.instanceMethod yX6_withBeds ∈ AW := aT2 (List.mem_of_getElem? (i := 7) rfl) (by decide +kernel)
theorem w_257 : Cond.selects RX6 yX6_withBeds yX6_withBeds ∈ AW := aP (List.mem_of_getElem? (i := 3) rfl) (by decide +kernel)
theorem w_258 : Cond.code yX6_withBeds cX6_withBeds 7 (some (.long)) ∈ AW := aT2 (List.mem_of_getElem? (i := 8) rfl) (by decide +kernel)
theorem w_259 : Cond.methodLink RX6 185 yX4_longestFor ∈ AW := aT2 (List.mem_of_getElem? (i := 29) rfl) (by decide +kernel)
theorem w_260 : Cond.instanceMethod yX4_longestFor ∈ AW := aT2 (List.mem_of_getElem? (i := 30) rfl) (by decide +kernel)
theorem w_261 : Cond.selects RX4 yX4_longestFor yX4_longestFor ∈ AW := aT2 (List.mem_of_getElem? (i := 31) rfl) (by decide +kernel)
theorem w_262 : Cond.code yX4_longestFor cX4_longestFor 4 (some (.int)) ∈ AW := aT2 (List.mem_of_getElem? (i := 32) rfl) (by decide +kernel)
theorem w_263 : Cond.methodLink RX6 172 yX3_answerTo ∈ AW := aT2 (List.mem_of_getElem? (i := 53) rfl) (by decide +kernel)
theorem w_264 : Cond.methodLink RX6 175 yX3_wouldBePutOut ∈ AW := aT2 (List.mem_of_getElem? (i := 68) rfl) (by decide +kernel)
theorem w_265 : Cond.instanceMethod yX3_wouldBePutOut ∈ AW := aT2 (List.mem_of_getElem? (i := 69) rfl) (by decide +kernel)
theorem w_266 : Cond.selects RX3 yX3_wouldBePutOut yX3_wouldBePutOut ∈ AW := aT2 (List.mem_of_getElem? (i := 70) rfl) (by decide +kernel)
theorem w_267 : Cond.code yX3_wouldBePutOut cX3_wouldBePutOut 5 (some (.int)) ∈ AW := aT2 (List.mem_of_getElem? (i := 71) rfl) (by decide +kernel)
theorem w_268 : Cond.methodLink RX6 163 yX3_lodgerNumber ∈ AW := aT2 (List.mem_of_getElem? (i := 17) rfl) (by decide +kernel)
theorem w_269 : Cond.instanceMethod yX3_lodgerNumber ∈ AW := aT2 (List.mem_of_getElem? (i := 18) rfl) (by decide +kernel)
theorem w_270 : Cond.selects RX3 yX3_lodgerNumber yX3_lodgerNumber ∈ AW := aT2 (List.mem_of_getElem? (i := 19) rfl) (by decide +kernel)
theorem w_271 : Cond.code yX3_lodgerNumber cX3_lodgerNumber 3 (some (.int)) ∈ AW := aT2 (List.mem_of_getElem? (i := 20) rfl) (by decide +kernel)
theorem w_272 : Cond.methodLink RX6 204 yX6_withLodgers ∈ AW := aT2 (List.mem_of_getElem? (i := 13) rfl) (by decide +kernel)
theorem w_273 : Cond.instanceMethod yX6_withLodgers ∈ AW := aT2 (List.mem_of_getElem? (i := 15) rfl) (by decide +kernel)
theorem w_274 : Cond.selects RX6 yX6_withLodgers yX6_withLodgers ∈ AW := aP (List.mem_of_getElem? (i := 4) rfl) (by decide +kernel)
theorem w_275 : Cond.code yX6_withLodgers cX6_withLodgers 7 (some (.long)) ∈ AW := aT2 (List.mem_of_getElem? (i := 16) rfl) (by decide +kernel)
theorem w_276 : Cond.fieldLink RX6 31 "SevenAsks" "laying" "LSevenAsks$BedLaying;" ∈ AW := aT1 (List.mem_of_getElem? (i := 137) rfl) (by decide +kernel)
theorem w_277 : Cond.methodLink RX6 178 yX1_bedsFor ∈ AW := aT2 (List.mem_of_getElem? (i := 77) rfl) (by decide +kernel)
theorem w_278 : Cond.instanceMethod yX1_bedsFor ∈ AW := aT2 (List.mem_of_getElem? (i := 78) rfl) (by decide +kernel)
theorem w_279 : Cond.selects RX1 yX1_bedsFor yX1_bedsFor ∈ AW := aT2 (List.mem_of_getElem? (i := 79) rfl) (by decide +kernel)
theorem w_280 : Cond.code yX1_bedsFor cX1_bedsFor 5 (some (.int)) ∈ AW := aT2 (List.mem_of_getElem? (i := 80) rfl) (by decide +kernel)
theorem w_281 : Cond.methodLink RX6 182 yX4_mostLentBeds ∈ AW := aT2 (List.mem_of_getElem? (i := 95) rfl) (by decide +kernel)
theorem w_282 : Cond.instanceMethod yX4_mostLentBeds ∈ AW := aT2 (List.mem_of_getElem? (i := 96) rfl) (by decide +kernel)
theorem w_283 : Cond.selects RX4 yX4_mostLentBeds yX4_mostLentBeds ∈ AW := aT2 (List.mem_of_getElem? (i := 97) rfl) (by decide +kernel)
theorem w_284 : Cond.code yX4_mostLentBeds cX4_mostLentBeds 3 (some (.int)) ∈ AW := aT2 (List.mem_of_getElem? (i := 98) rfl) (by decide +kernel)
theorem w_285 : Cond.methodLink RX6 188 yX3_poorestLodger ∈ AW := aT1 (List.mem_of_getElem? (i := 186) rfl) (by decide +kernel)
theorem w_286 : Cond.instanceMethod yX3_poorestLodger ∈ AW := aT1 (List.mem_of_getElem? (i := 187) rfl) (by decide +kernel)
theorem w_287 : Cond.selects RX3 yX3_poorestLodger yX3_poorestLodger ∈ AW := aT1 (List.mem_of_getElem? (i := 188) rfl) (by decide +kernel)
theorem w_288 : Cond.code yX3_poorestLodger cX3_poorestLodger 3 (some (.int)) ∈ AW := aT1 (List.mem_of_getElem? (i := 189) rfl) (by decide +kernel)
theorem w_289 : Cond.methodLink RX6 191 yX3_shareLent ∈ AW := aT1 (List.mem_of_getElem? (i := 202) rfl) (by decide +kernel)
theorem w_290 : Cond.instanceMethod yX3_shareLent ∈ AW := aT1 (List.mem_of_getElem? (i := 203) rfl) (by decide +kernel)
theorem w_291 : Cond.selects RX3 yX3_shareLent yX3_shareLent ∈ AW := aT1 (List.mem_of_getElem? (i := 204) rfl) (by decide +kernel)
theorem w_292 : Cond.code yX3_shareLent cX3_shareLent 1 (some (.double)) ∈ AW := aT1 (List.mem_of_getElem? (i := 205) rfl) (by decide +kernel)
theorem w_293 : Cond.methodLink RX6 211 yX6_bitsOf ∈ AW := aT2 (List.mem_of_getElem? (i := 100) rfl) (by decide +kernel)
theorem w_294 : Cond.static yX6_bitsOf ∈ AW := aT2 (List.mem_of_getElem? (i := 101) rfl) (by decide +kernel)
theorem w_295 : Cond.code yX6_bitsOf cX6_bitsOf 8 (some (.long)) ∈ AW := aT2 (List.mem_of_getElem? (i := 102) rfl) (by decide +kernel)
theorem w_296 : Cond.methodLink RX6 220 yX0_size ∈ AW := aT2 (List.mem_of_getElem? (i := 114) rfl) (by decide +kernel)
theorem w_297 : Cond.instanceMethod yX0_size ∈ AW := aT2 (List.mem_of_getElem? (i := 115) rfl) (by decide +kernel)
theorem w_298 : Cond.selects RX0 yX0_size yX0_size ∈ AW := aT2 (List.mem_of_getElem? (i := 116) rfl) (by decide +kernel)
theorem w_299 : Cond.code yX0_size cX0_size 1 (some (.int)) ∈ AW := aT2 (List.mem_of_getElem? (i := 117) rfl) (by decide +kernel)
theorem w_300 : Cond.methodLink RX6 223 yX0_sign ∈ AW := aT2 (List.mem_of_getElem? (i := 118) rfl) (by decide +kernel)
theorem w_301 : Cond.methodLink RX6 215 yX6_withText ∈ AW := aT2 (List.mem_of_getElem? (i := 110) rfl) (by decide +kernel)
theorem w_302 : Cond.instanceMethod yX6_withText ∈ AW := aT2 (List.mem_of_getElem? (i := 112) rfl) (by decide +kernel)
theorem w_303 : Cond.selects RX6 yX6_withText yX6_withText ∈ AW := aP (List.mem_of_getElem? (i := 9) rfl) (by decide +kernel)
theorem w_304 : Cond.code yX6_withText cX6_withText 6 (some (.long)) ∈ AW := aT2 (List.mem_of_getElem? (i := 113) rfl) (by decide +kernel)
theorem w_305 : Cond.fieldLink RX6 21 "SevenAsks" "slots" "LSevenAsks$Shelf;" ∈ AW := aT1 (List.mem_of_getElem? (i := 135) rfl) (by decide +kernel)
theorem w_306 : Cond.methodLink RX6 128 yX5_isFilled ∈ AW := aT2 (List.mem_of_getElem? (i := 106) rfl) (by decide +kernel)
theorem w_307 : Cond.instanceMethod yX5_isFilled ∈ AW := aT2 (List.mem_of_getElem? (i := 107) rfl) (by decide +kernel)
theorem w_308 : Cond.selects RX5 yX5_isFilled yX5_isFilled ∈ AW := aT2 (List.mem_of_getElem? (i := 108) rfl) (by decide +kernel)
theorem w_309 : Cond.code yX5_isFilled cX5_isFilled 2 (some (.boolean)) ∈ AW := aT2 (List.mem_of_getElem? (i := 109) rfl) (by decide +kernel)
theorem w_310 : Cond.methodLink RX6 242 yX6_canDo ∈ AW := aT3 (List.mem_of_getElem? (i := 182) rfl) (by decide +kernel)
theorem w_311 : Cond.instanceMethod yX6_canDo ∈ AW := aT3 (List.mem_of_getElem? (i := 184) rfl) (by decide +kernel)
theorem w_312 : Cond.selects RX6 yX6_canDo yX6_canDo ∈ AW := aP (List.mem_of_getElem? (i := 18) rfl) (by decide +kernel)
theorem w_313 : Cond.code yX6_canDo cX6_canDo 2 (some (.boolean)) ∈ AW := aT3 (List.mem_of_getElem? (i := 185) rfl) (by decide +kernel)
theorem w_314 : Cond.methodLink RX6 251 yX0_lodger ∈ AW := aT3 (List.mem_of_getElem? (i := 198) rfl) (by decide +kernel)
theorem w_315 : Cond.instanceMethod yX0_lodger ∈ AW := aT3 (List.mem_of_getElem? (i := 199) rfl) (by decide +kernel)
theorem w_316 : Cond.selects RX0 yX0_lodger yX0_lodger ∈ AW := aT3 (List.mem_of_getElem? (i := 200) rfl) (by decide +kernel)
theorem w_317 : Cond.code yX0_lodger cX0_lodger 2 (some (.int)) ∈ AW := aT3 (List.mem_of_getElem? (i := 201) rfl) (by decide +kernel)
theorem w_318 : Cond.methodLink RX6 49 yX3_takeAsking ∈ AW := aT3 (List.mem_of_getElem? (i := 7) rfl) (by decide +kernel)
theorem w_319 : Cond.instanceMethod yX3_takeAsking ∈ AW := aT3 (List.mem_of_getElem? (i := 8) rfl) (by decide +kernel)
theorem w_320 : Cond.selects RX3 yX3_takeAsking yX3_takeAsking ∈ AW := aT3 (List.mem_of_getElem? (i := 9) rfl) (by decide +kernel)
theorem w_321 : Cond.code yX3_takeAsking cX3_takeAsking 5 (some (.int)) ∈ AW := aT3 (List.mem_of_getElem? (i := 10) rfl) (by decide +kernel)
theorem w_322 : Cond.methodLink RX6 84 yX3_letHourGo ∈ AW := aT3 (List.mem_of_getElem? (i := 129) rfl) (by decide +kernel)
theorem w_323 : Cond.instanceMethod yX3_letHourGo ∈ AW := aT3 (List.mem_of_getElem? (i := 130) rfl) (by decide +kernel)
theorem w_324 : Cond.selects RX3 yX3_letHourGo yX3_letHourGo ∈ AW := aT3 (List.mem_of_getElem? (i := 131) rfl) (by decide +kernel)
theorem w_325 : Cond.code yX3_letHourGo cX3_letHourGo 4 (some (.int)) ∈ AW := aT3 (List.mem_of_getElem? (i := 132) rfl) (by decide +kernel)
theorem w_326 : Cond.methodLink RX6 107 yX0_errorPlace ∈ AW := aT1 (List.mem_of_getElem? (i := 168) rfl) (by decide +kernel)
theorem w_327 : Cond.instanceMethod yX0_errorPlace ∈ AW := aT1 (List.mem_of_getElem? (i := 169) rfl) (by decide +kernel)
theorem w_328 : Cond.selects RX0 yX0_errorPlace yX0_errorPlace ∈ AW := aT1 (List.mem_of_getElem? (i := 170) rfl) (by decide +kernel)
theorem w_329 : Cond.code yX0_errorPlace cX0_errorPlace 3 (some (.int)) ∈ AW := aT1 (List.mem_of_getElem? (i := 171) rfl) (by decide +kernel)
theorem w_330 : Cond.fieldLink RX6 25 "SevenAsks" "saved" "LSevenAsks$Shelf;" ∈ AW := aT1 (List.mem_of_getElem? (i := 136) rfl) (by decide +kernel)
theorem w_331 : Cond.fieldLink RX6 143 "SevenAsks" "nextSaved" "I" ∈ AW := aT1 (List.mem_of_getElem? (i := 140) rfl) (by decide +kernel)
theorem w_332 : Cond.methodLink RX6 121 yX5_store ∈ AW := aT2 (List.mem_of_getElem? (i := 223) rfl) (by decide +kernel)
theorem w_333 : Cond.instanceMethod yX5_store ∈ AW := aT2 (List.mem_of_getElem? (i := 224) rfl) (by decide +kernel)
theorem w_334 : Cond.selects RX5 yX5_store yX5_store ∈ AW := aT2 (List.mem_of_getElem? (i := 225) rfl) (by decide +kernel)
theorem w_335 : Cond.code yX5_store cX5_store 4 none ∈ AW := aT2 (List.mem_of_getElem? (i := 226) rfl) (by decide +kernel)
theorem w_336 : Cond.methodLink RX6 46 yX6_saveState ∈ AW := aT2 (List.mem_of_getElem? (i := 219) rfl) (by decide +kernel)
theorem w_337 : Cond.instanceMethod yX6_saveState ∈ AW := aT2 (List.mem_of_getElem? (i := 221) rfl) (by decide +kernel)
theorem w_338 : Cond.selects RX6 yX6_saveState yX6_saveState ∈ AW := aP (List.mem_of_getElem? (i := 11) rfl) (by decide +kernel)
theorem w_339 : Cond.code yX6_saveState cX6_saveState 1 none ∈ AW := aT2 (List.mem_of_getElem? (i := 222) rfl) (by decide +kernel)
theorem w_340 : Cond.methodLink RX6 110 yX0_tellsAskings ∈ AW := aT3 (List.mem_of_getElem? (i := 173) rfl) (by decide +kernel)
theorem w_341 : Cond.instanceMethod yX0_tellsAskings ∈ AW := aT3 (List.mem_of_getElem? (i := 174) rfl) (by decide +kernel)
theorem w_342 : Cond.selects RX0 yX0_tellsAskings yX0_tellsAskings ∈ AW := aT3 (List.mem_of_getElem? (i := 175) rfl) (by decide +kernel)
theorem w_343 : Cond.code yX0_tellsAskings cX0_tellsAskings 3 (some (.boolean)) ∈ AW := aT3 (List.mem_of_getElem? (i := 176) rfl) (by decide +kernel)
theorem w_344 : Cond.methodLink RX6 115 yX6_doText ∈ AW := aT3 (List.mem_of_getElem? (i := 178) rfl) (by decide +kernel)
theorem w_345 : Cond.instanceMethod yX6_doText ∈ AW := aT3 (List.mem_of_getElem? (i := 180) rfl) (by decide +kernel)
theorem w_346 : Cond.selects RX6 yX6_doText yX6_doText ∈ AW := aP (List.mem_of_getElem? (i := 17) rfl) (by decide +kernel)
theorem w_347 : Cond.code yX6_doText cX6_doText 5 (some (.int)) ∈ AW := aT3 (List.mem_of_getElem? (i := 181) rfl) (by decide +kernel)
theorem w_348 : Cond.methodLink RX6 134 yX5_restore ∈ AW := aT3 (List.mem_of_getElem? (i := 220) rfl) (by decide +kernel)
theorem w_349 : Cond.instanceMethod yX5_restore ∈ AW := aT3 (List.mem_of_getElem? (i := 221) rfl) (by decide +kernel)
theorem w_350 : Cond.selects RX5 yX5_restore yX5_restore ∈ AW := aT3 (List.mem_of_getElem? (i := 222) rfl) (by decide +kernel)
theorem w_351 : Cond.code yX5_restore cX5_restore 4 none ∈ AW := aT3 (List.mem_of_getElem? (i := 223) rfl) (by decide +kernel)
theorem w_352 : Cond.methodLink RX7 33 yX7_in ∈ AW := aT4 (List.mem_of_getElem? (i := 118) rfl) (by decide +kernel)
theorem w_353 : Cond.static yX7_in ∈ AW := aT4 (List.mem_of_getElem? (i := 119) rfl) (by decide +kernel)
theorem w_354 : Cond.initialized RX7 ∈ AW := aT1 (List.mem_of_getElem? (i := 10) rfl) (by decide +kernel)
theorem w_355 : Cond.code yX7_in cX7_in 3 (some (.boolean)) ∈ AW := aT4 (List.mem_of_getElem? (i := 120) rfl) (by decide +kernel)
theorem w_356 : Cond.fieldLink RX7 97 "SevenAsksModel" "length" "I" ∈ AW := aT4 (List.mem_of_getElem? (i := 66) rfl) (by decide +kernel)
theorem w_357 : Cond.fieldLink RX7 29 "SevenAsksModel" "thrown" "I" ∈ AW := aT4 (List.mem_of_getElem? (i := 58) rfl) (by decide +kernel)
theorem w_358 : Cond.methodLink RX7 78 yX7_holds ∈ AW := aT4 (List.mem_of_getElem? (i := 124) rfl) (by decide +kernel)
theorem w_359 : Cond.instanceMethod yX7_holds ∈ AW := aT4 (List.mem_of_getElem? (i := 126) rfl) (by decide +kernel)
theorem w_360 : Cond.selects RX7 yX7_holds yX7_holds ∈ AW := aP (List.mem_of_getElem? (i := 19) rfl) (by decide +kernel)
theorem w_361 : Cond.code yX7_holds cX7_holds 2 (some (.boolean)) ∈ AW := aT4 (List.mem_of_getElem? (i := 127) rfl) (by decide +kernel)
theorem w_362 : Cond.fieldLink RX7 22 "SevenAsksModel" "text" "[I" ∈ AW := aT4 (List.mem_of_getElem? (i := 65) rfl) (by decide +kernel)
theorem w_363 : Cond.methodLink RX7 70 yX7_isLodger ∈ AW := aT4 (List.mem_of_getElem? (i := 115) rfl) (by decide +kernel)
theorem w_364 : Cond.static yX7_isLodger ∈ AW := aT4 (List.mem_of_getElem? (i := 116) rfl) (by decide +kernel)
theorem w_365 : Cond.code yX7_isLodger cX7_isLodger 1 (some (.boolean)) ∈ AW := aT4 (List.mem_of_getElem? (i := 117) rfl) (by decide +kernel)
theorem w_366 : Cond.methodLink RX7 74 yX7_isTime ∈ AW := aT4 (List.mem_of_getElem? (i := 121) rfl) (by decide +kernel)
theorem w_367 : Cond.static yX7_isTime ∈ AW := aT4 (List.mem_of_getElem? (i := 122) rfl) (by decide +kernel)
theorem w_368 : Cond.code yX7_isTime cX7_isTime 2 (some (.boolean)) ∈ AW := aT4 (List.mem_of_getElem? (i := 123) rfl) (by decide +kernel)
theorem w_369 : Cond.fieldLink RX7 37 "SevenAsksModel" "savedMany" "I" ∈ AW := aT4 (List.mem_of_getElem? (i := 62) rfl) (by decide +kernel)
theorem w_370 : Cond.fieldLink RX7 16 "SevenAsksModel" "saved" "[I" ∈ AW := aT4 (List.mem_of_getElem? (i := 61) rfl) (by decide +kernel)
theorem w_371 : Cond.fieldLink RX7 7 "SevenAsksModel" "s" "[I" ∈ AW := aT4 (List.mem_of_getElem? (i := 59) rfl) (by decide +kernel)
theorem w_372 : Cond.methodLink RX7 81 yX7_save ∈ AW := aT4 (List.mem_of_getElem? (i := 128) rfl) (by decide +kernel)
theorem w_373 : Cond.instanceMethod yX7_save ∈ AW := aT4 (List.mem_of_getElem? (i := 130) rfl) (by decide +kernel)
theorem w_374 : Cond.selects RX7 yX7_save yX7_save ∈ AW := aP (List.mem_of_getElem? (i := 20) rfl) (by decide +kernel)
theorem w_375 : Cond.code yX7_save cX7_save 2 none ∈ AW := aT4 (List.mem_of_getElem? (i := 131) rfl) (by decide +kernel)
theorem w_376 : Cond.methodLink RX7 40 yX7_ofBed ∈ AW := aT4 (List.mem_of_getElem? (i := 148) rfl) (by decide +kernel)
theorem w_377 : Cond.static yX7_ofBed ∈ AW := aT4 (List.mem_of_getElem? (i := 149) rfl) (by decide +kernel)
theorem w_378 : Cond.code yX7_ofBed cX7_ofBed 2 (some (.int)) ∈ AW := aT4 (List.mem_of_getElem? (i := 150) rfl) (by decide +kernel)
theorem w_379 : Cond.methodLink RX7 47 yX7_bedOf ∈ AW := aT4 (List.mem_of_getElem? (i := 144) rfl) (by decide +kernel)
theorem w_380 : Cond.instanceMethod yX7_bedOf ∈ AW := aT4 (List.mem_of_getElem? (i := 146) rfl) (by decide +kernel)
theorem w_381 : Cond.selects RX7 yX7_bedOf yX7_bedOf ∈ AW := aP (List.mem_of_getElem? (i := 24) rfl) (by decide +kernel)
theorem w_382 : Cond.code yX7_bedOf cX7_bedOf 5 (some (.int)) ∈ AW := aT4 (List.mem_of_getElem? (i := 147) rfl) (by decide +kernel)
theorem w_383 : Cond.methodLink RX7 50 yX7_hasBed ∈ AW := aT4 (List.mem_of_getElem? (i := 140) rfl) (by decide +kernel)
theorem w_384 : Cond.instanceMethod yX7_hasBed ∈ AW := aT4 (List.mem_of_getElem? (i := 142) rfl) (by decide +kernel)
theorem w_385 : Cond.selects RX7 yX7_hasBed yX7_hasBed ∈ AW := aP (List.mem_of_getElem? (i := 23) rfl) (by decide +kernel)
theorem w_386 : Cond.code yX7_hasBed cX7_hasBed 6 (some (.boolean)) ∈ AW := aT4 (List.mem_of_getElem? (i := 143) rfl) (by decide +kernel)
theorem w_387 : Cond.methodLink RX7 25 yX7_of ∈ AW := aT4 (List.mem_of_getElem? (i := 55) rfl) (by decide +kernel)
theorem w_388 : Cond.static yX7_of ∈ AW := aT4 (List.mem_of_getElem? (i := 56) rfl) (by decide +kernel)
theorem w_389 : Cond.code yX7_of cX7_of 2 (some (.int)) ∈ AW := aT4 (List.mem_of_getElem? (i := 57) rfl) (by decide +kernel)
theorem w_390 : Cond.methodLink RX7 43 yX7_lentIn ∈ AW := aT4 (List.mem_of_getElem? (i := 155) rfl) (by decide +kernel)
theorem w_391 : Cond.instanceMethod yX7_lentIn ∈ AW := aT4 (List.mem_of_getElem? (i := 157) rfl) (by decide +kernel)
theorem w_392 : Cond.selects RX7 yX7_lentIn yX7_lentIn ∈ AW := aP (List.mem_of_getElem? (i := 26) rfl) (by decide +kernel)
theorem w_393 : Cond.code yX7_lentIn cX7_lentIn 6 (some (.int)) ∈ AW := aT4 (List.mem_of_getElem? (i := 158) rfl) (by decide +kernel)
theorem w_394 : Cond.methodLink RX7 53 yX7_emptiest ∈ AW := aT4 (List.mem_of_getElem? (i := 151) rfl) (by decide +kernel)
theorem w_395 : Cond.instanceMethod yX7_emptiest ∈ AW := aT4 (List.mem_of_getElem? (i := 153) rfl) (by decide +kernel)
theorem w_396 : Cond.selects RX7 yX7_emptiest yX7_emptiest ∈ AW := aP (List.mem_of_getElem? (i := 25) rfl) (by decide +kernel)
theorem w_397 : Cond.code yX7_emptiest cX7_emptiest 5 (some (.int)) ∈ AW := aT4 (List.mem_of_getElem? (i := 154) rfl) (by decide +kernel)
theorem w_398 : Cond.methodLink RX7 63 yX7_hindrance ∈ AW := aT4 (List.mem_of_getElem? (i := 136) rfl) (by decide +kernel)
theorem w_399 : Cond.instanceMethod yX7_hindrance ∈ AW := aT4 (List.mem_of_getElem? (i := 138) rfl) (by decide +kernel)
theorem w_400 : Cond.selects RX7 yX7_hindrance yX7_hindrance ∈ AW := aP (List.mem_of_getElem? (i := 22) rfl) (by decide +kernel)
theorem w_401 : Cond.code yX7_hindrance cX7_hindrance 4 (some (.int)) ∈ AW := aT4 (List.mem_of_getElem? (i := 139) rfl) (by decide +kernel)
theorem w_402 : Cond.fieldLink RX7 60 "SevenAsksModel" "wereOut" "I" ∈ AW := aT4 (List.mem_of_getElem? (i := 67) rfl) (by decide +kernel)
theorem w_403 : Cond.methodLink RX7 56 yX7_frees ∈ AW := aT4 (List.mem_of_getElem? (i := 163) rfl) (by decide +kernel)
theorem w_404 : Cond.instanceMethod yX7_frees ∈ AW := aT4 (List.mem_of_getElem? (i := 165) rfl) (by decide +kernel)
theorem w_405 : Cond.selects RX7 yX7_frees yX7_frees ∈ AW := aP (List.mem_of_getElem? (i := 28) rfl) (by decide +kernel)
theorem w_406 : Cond.code yX7_frees cX7_frees 6 none ∈ AW := aT4 (List.mem_of_getElem? (i := 166) rfl) (by decide +kernel)
theorem w_407 : Cond.methodLink RX7 66 yX7_putsOut ∈ AW := aT4 (List.mem_of_getElem? (i := 159) rfl) (by decide +kernel)
theorem w_408 : Cond.instanceMethod yX7_putsOut ∈ AW := aT4 (List.mem_of_getElem? (i := 161) rfl) (by decide +kernel)
theorem w_409 : Cond.selects RX7 yX7_putsOut yX7_putsOut ∈ AW := aP (List.mem_of_getElem? (i := 27) rfl) (by decide +kernel)
theorem w_410 : Cond.code yX7_putsOut cX7_putsOut 4 none ∈ AW := aT4 (List.mem_of_getElem? (i := 162) rfl) (by decide +kernel)
theorem w_411 : Cond.methodLink RX7 84 yX7_asks ∈ AW := aT4 (List.mem_of_getElem? (i := 132) rfl) (by decide +kernel)
theorem w_412 : Cond.instanceMethod yX7_asks ∈ AW := aT4 (List.mem_of_getElem? (i := 134) rfl) (by decide +kernel)
theorem w_413 : Cond.selects RX7 yX7_asks yX7_asks ∈ AW := aP (List.mem_of_getElem? (i := 21) rfl) (by decide +kernel)
theorem w_414 : Cond.code yX7_asks cX7_asks 9 (some (.int)) ∈ AW := aT4 (List.mem_of_getElem? (i := 135) rfl) (by decide +kernel)
theorem w_415 : Cond.constantLong RX7 173 1023 ∈ AW := aT5 (List.mem_of_getElem? (i := 109) rfl) (by decide +kernel)
theorem w_416 : Cond.constantLong RX7 177 4503599627370496 ∈ AW := aT5 (List.mem_of_getElem? (i := 111) rfl) (by decide +kernel)
theorem w_417 : Cond.constantDouble RX7 179 4841369599423283200 ∈ AW := aT5 (List.mem_of_getElem? (i := 112) rfl) (by decide +kernel)
theorem w_418 : Cond.constantDouble RX7 175 4611686018427387904 ∈ AW := aT5 (List.mem_of_getElem? (i := 110) rfl) (by decide +kernel)
theorem w_419 : Cond.methodLink RX7 139 yX7_lent ∈ AW := aT5 (List.mem_of_getElem? (i := 3) rfl) (by decide +kernel)
theorem w_420 : Cond.instanceMethod yX7_lent ∈ AW := aT5 (List.mem_of_getElem? (i := 5) rfl) (by decide +kernel)
theorem w_421 : Cond.selects RX7 yX7_lent yX7_lent ∈ AW := aP (List.mem_of_getElem? (i := 38) rfl) (by decide +kernel)
theorem w_422 : Cond.code yX7_lent cX7_lent 3 (some (.int)) ∈ AW := aT5 (List.mem_of_getElem? (i := 6) rfl) (by decide +kernel)
theorem w_423 : Cond.methodLink RX7 149 yX7_slept ∈ AW := aT5 (List.mem_of_getElem? (i := 39) rfl) (by decide +kernel)
theorem w_424 : Cond.instanceMethod yX7_slept ∈ AW := aT5 (List.mem_of_getElem? (i := 41) rfl) (by decide +kernel)
theorem w_425 : Cond.selects RX7 yX7_slept yX7_slept ∈ AW := aP (List.mem_of_getElem? (i := 42) rfl) (by decide +kernel)
theorem w_426 : Cond.code yX7_slept cX7_slept 3 (some (.int)) ∈ AW := aT5 (List.mem_of_getElem? (i := 42) rfl) (by decide +kernel)
theorem w_427 : Cond.methodLink RX7 152 yX7_counted ∈ AW := aT5 (List.mem_of_getElem? (i := 35) rfl) (by decide +kernel)
theorem w_428 : Cond.instanceMethod yX7_counted ∈ AW := aT5 (List.mem_of_getElem? (i := 37) rfl) (by decide +kernel)
theorem w_429 : Cond.selects RX7 yX7_counted yX7_counted ∈ AW := aP (List.mem_of_getElem? (i := 41) rfl) (by decide +kernel)
theorem w_430 : Cond.code yX7_counted cX7_counted 2 (some (.int)) ∈ AW := aT5 (List.mem_of_getElem? (i := 38) rfl) (by decide +kernel)
theorem w_431 : Cond.constantLong RX7 191 3659 ∈ AW := aT5 (List.mem_of_getElem? (i := 96) rfl) (by decide +kernel)
theorem w_432 : Cond.fieldLink RX7 183 "SevenAsksModel" "digested" "J" ∈ AW := aT4 (List.mem_of_getElem? (i := 73) rfl) (by decide +kernel)
theorem w_433 : Cond.methodLink RX7 158 yX7_mostAtOnce ∈ AW := aT5 (List.mem_of_getElem? (i := 63) rfl) (by decide +kernel)
theorem w_434 : Cond.instanceMethod yX7_mostAtOnce ∈ AW := aT5 (List.mem_of_getElem? (i := 65) rfl) (by decide +kernel)
theorem w_435 : Cond.selects RX7 yX7_mostAtOnce yX7_mostAtOnce ∈ AW := aP (List.mem_of_getElem? (i := 44) rfl) (by decide +kernel)
theorem w_436 : Cond.code yX7_mostAtOnce cX7_mostAtOnce 5 (some (.int)) ∈ AW := aT5 (List.mem_of_getElem? (i := 66) rfl) (by decide +kernel)
theorem w_437 : Cond.constantLong RX7 181 31 ∈ AW := aT5 (List.mem_of_getElem? (i := 101) rfl) (by decide +kernel)
theorem w_438 : Cond.methodLink RX7 187 yX7_digestOne ∈ AW := aT5 (List.mem_of_getElem? (i := 97) rfl) (by decide +kernel)
theorem w_439 : Cond.instanceMethod yX7_digestOne ∈ AW := aT5 (List.mem_of_getElem? (i := 99) rfl) (by decide +kernel)
theorem w_440 : Cond.selects RX7 yX7_digestOne yX7_digestOne ∈ AW := aP (List.mem_of_getElem? (i := 48) rfl) (by decide +kernel)
theorem w_441 : Cond.code yX7_digestOne cX7_digestOne 3 none ∈ AW := aT5 (List.mem_of_getElem? (i := 100) rfl) (by decide +kernel)
theorem w_442 : Cond.methodLink RX7 164 yX7_refusedMost ∈ AW := aT5 (List.mem_of_getElem? (i := 79) rfl) (by decide +kernel)
theorem w_443 : Cond.instanceMethod yX7_refusedMost ∈ AW := aT5 (List.mem_of_getElem? (i := 81) rfl) (by decide +kernel)
theorem w_444 : Cond.selects RX7 yX7_refusedMost yX7_refusedMost ∈ AW := aP (List.mem_of_getElem? (i := 46) rfl) (by decide +kernel)
theorem w_445 : Cond.code yX7_refusedMost cX7_refusedMost 4 (some (.int)) ∈ AW := aT5 (List.mem_of_getElem? (i := 82) rfl) (by decide +kernel)
theorem w_446 : Cond.constantDouble RX7 167 4631952216750555136 ∈ AW := aT5 (List.mem_of_getElem? (i := 91) rfl) (by decide +kernel)
theorem w_447 : Cond.methodLink RX7 169 yX7_share ∈ AW := aT5 (List.mem_of_getElem? (i := 87) rfl) (by decide +kernel)
theorem w_448 : Cond.instanceMethod yX7_share ∈ AW := aT5 (List.mem_of_getElem? (i := 89) rfl) (by decide +kernel)
theorem w_449 : Cond.selects RX7 yX7_share yX7_share ∈ AW := aP (List.mem_of_getElem? (i := 47) rfl) (by decide +kernel)
theorem w_450 : Cond.code yX7_share cX7_share 1 (some (.double)) ∈ AW := aT5 (List.mem_of_getElem? (i := 90) rfl) (by decide +kernel)
theorem w_451 : Cond.methodLink RX7 197 yX7_bitsOf ∈ AW := aT5 (List.mem_of_getElem? (i := 106) rfl) (by decide +kernel)
theorem w_452 : Cond.static yX7_bitsOf ∈ AW := aT5 (List.mem_of_getElem? (i := 107) rfl) (by decide +kernel)
theorem w_453 : Cond.code yX7_bitsOf cX7_bitsOf 6 (some (.long)) ∈ AW := aT5 (List.mem_of_getElem? (i := 108) rfl) (by decide +kernel)
theorem w_454 : Cond.fieldLink RX7 136 "SevenAsksModel" "kept" "I" ∈ AW := aT4 (List.mem_of_getElem? (i := 64) rfl) (by decide +kernel)
theorem w_455 : Cond.methodLink RX7 161 yX7_longestFor ∈ AW := aT5 (List.mem_of_getElem? (i := 71) rfl) (by decide +kernel)
theorem w_456 : Cond.instanceMethod yX7_longestFor ∈ AW := aT5 (List.mem_of_getElem? (i := 73) rfl) (by decide +kernel)
theorem w_457 : Cond.selects RX7 yX7_longestFor yX7_longestFor ∈ AW := aP (List.mem_of_getElem? (i := 45) rfl) (by decide +kernel)
theorem w_458 : Cond.code yX7_longestFor cX7_longestFor 6 (some (.int)) ∈ AW := aT5 (List.mem_of_getElem? (i := 74) rfl) (by decide +kernel)
theorem w_459 : Cond.fieldLink RX7 13 "SevenAsksModel" "aside" "[I" ∈ AW := aT4 (List.mem_of_getElem? (i := 60) rfl) (by decide +kernel)
theorem w_460 : Cond.methodLink RX7 155 yX7_would ∈ AW := aT5 (List.mem_of_getElem? (i := 51) rfl) (by decide +kernel)
theorem w_461 : Cond.instanceMethod yX7_would ∈ AW := aT5 (List.mem_of_getElem? (i := 53) rfl) (by decide +kernel)
theorem w_462 : Cond.selects RX7 yX7_would yX7_would ∈ AW := aP (List.mem_of_getElem? (i := 43) rfl) (by decide +kernel)
theorem w_463 : Cond.code yX7_would cX7_would 6 (some (.int)) ∈ AW := aT5 (List.mem_of_getElem? (i := 54) rfl) (by decide +kernel)
theorem w_464 : Cond.methodLink RX7 142 yX7_lentTo ∈ AW := aT5 (List.mem_of_getElem? (i := 27) rfl) (by decide +kernel)
theorem w_465 : Cond.instanceMethod yX7_lentTo ∈ AW := aT5 (List.mem_of_getElem? (i := 29) rfl) (by decide +kernel)
theorem w_466 : Cond.selects RX7 yX7_lentTo yX7_lentTo ∈ AW := aP (List.mem_of_getElem? (i := 40) rfl) (by decide +kernel)
theorem w_467 : Cond.code yX7_lentTo cX7_lentTo 4 (some (.int)) ∈ AW := aT5 (List.mem_of_getElem? (i := 30) rfl) (by decide +kernel)
theorem w_468 : Cond.methodLink RX7 146 yX7_ofLodger ∈ AW := aT5 (List.mem_of_getElem? (i := 23) rfl) (by decide +kernel)
theorem w_469 : Cond.instanceMethod yX7_ofLodger ∈ AW := aT5 (List.mem_of_getElem? (i := 25) rfl) (by decide +kernel)
theorem w_470 : Cond.selects RX7 yX7_ofLodger yX7_ofLodger ∈ AW := aP (List.mem_of_getElem? (i := 39) rfl) (by decide +kernel)
theorem w_471 : Cond.code yX7_ofLodger cX7_ofLodger 3 (some (.int)) ∈ AW := aT5 (List.mem_of_getElem? (i := 26) rfl) (by decide +kernel)
theorem w_472 : Cond.methodLink RX7 193 yX7_digestLodger ∈ AW := aT5 (List.mem_of_getElem? (i := 102) rfl) (by decide +kernel)
theorem w_473 : Cond.instanceMethod yX7_digestLodger ∈ AW := aT5 (List.mem_of_getElem? (i := 104) rfl) (by decide +kernel)
theorem w_474 : Cond.selects RX7 yX7_digestLodger yX7_digestLodger ∈ AW := aP (List.mem_of_getElem? (i := 49) rfl) (by decide +kernel)
theorem w_475 : Cond.code yX7_digestLodger cX7_digestLodger 3 none ∈ AW := aT5 (List.mem_of_getElem? (i := 105) rfl) (by decide +kernel)
theorem w_476 : Cond.fieldLink RX7 110 "SevenAsksModel" "asker" "I" ∈ AW := aT4 (List.mem_of_getElem? (i := 70) rfl) (by decide +kernel)
theorem w_477 : Cond.fieldLink RX7 116 "SevenAsksModel" "askedFirst" "I" ∈ AW := aT4 (List.mem_of_getElem? (i := 71) rfl) (by decide +kernel)
theorem w_478 : Cond.fieldLink RX7 119 "SevenAsksModel" "askedHours" "I" ∈ AW := aT4 (List.mem_of_getElem? (i := 72) rfl) (by decide +kernel)
theorem w_479 : Cond.methodLink RX7 94 yX7_passes ∈ AW := aT4 (List.mem_of_getElem? (i := 191) rfl) (by decide +kernel)
theorem w_480 : Cond.instanceMethod yX7_passes ∈ AW := aT4 (List.mem_of_getElem? (i := 193) rfl) (by decide +kernel)
theorem w_481 : Cond.selects RX7 yX7_passes yX7_passes ∈ AW := aP (List.mem_of_getElem? (i := 31) rfl) (by decide +kernel)
theorem w_482 : Cond.code yX7_passes cX7_passes 4 (some (.int)) ∈ AW := aT4 (List.mem_of_getElem? (i := 194) rfl) (by decide +kernel)
theorem w_483 : Cond.methodLink RX7 87 yX7_refuses ∈ AW := aT4 (List.mem_of_getElem? (i := 171) rfl) (by decide +kernel)
theorem w_484 : Cond.instanceMethod yX7_refuses ∈ AW := aT4 (List.mem_of_getElem? (i := 173) rfl) (by decide +kernel)
theorem w_485 : Cond.selects RX7 yX7_refuses yX7_refuses ∈ AW := aP (List.mem_of_getElem? (i := 29) rfl) (by decide +kernel)
theorem w_486 : Cond.code yX7_refuses cX7_refuses 1 (some (.int)) ∈ AW := aT4 (List.mem_of_getElem? (i := 174) rfl) (by decide +kernel)
theorem w_487 : Cond.fieldLink RX7 104 "SevenAsksModel" "spot" "I" ∈ AW := aT4 (List.mem_of_getElem? (i := 68) rfl) (by decide +kernel)
theorem w_488 : Cond.fieldLink RX7 100 "SevenAsksModel" "isWrong" "Z" ∈ AW := aT4 (List.mem_of_getElem? (i := 69) rfl) (by decide +kernel)
theorem w_489 : Cond.methodLink RX7 107 yX7_isNext ∈ AW := aT4 (List.mem_of_getElem? (i := 219) rfl) (by decide +kernel)
theorem w_490 : Cond.instanceMethod yX7_isNext ∈ AW := aT4 (List.mem_of_getElem? (i := 221) rfl) (by decide +kernel)
theorem w_491 : Cond.selects RX7 yX7_isNext yX7_isNext ∈ AW := aP (List.mem_of_getElem? (i := 34) rfl) (by decide +kernel)
theorem w_492 : Cond.code yX7_isNext cX7_isNext 3 (some (.boolean)) ∈ AW := aT4 (List.mem_of_getElem? (i := 222) rfl) (by decide +kernel)
theorem w_493 : Cond.methodLink RX7 113 yX7_takes ∈ AW := aT4 (List.mem_of_getElem? (i := 223) rfl) (by decide +kernel)
theorem w_494 : Cond.instanceMethod yX7_takes ∈ AW := aT4 (List.mem_of_getElem? (i := 225) rfl) (by decide +kernel)
theorem w_495 : Cond.selects RX7 yX7_takes yX7_takes ∈ AW := aP (List.mem_of_getElem? (i := 35) rfl) (by decide +kernel)
theorem w_496 : Cond.code yX7_takes cX7_takes 5 (some (.int)) ∈ AW := aT4 (List.mem_of_getElem? (i := 226) rfl) (by decide +kernel)
theorem w_497 : Cond.methodLink RX7 122 yX7_readOne ∈ AW := aT4 (List.mem_of_getElem? (i := 215) rfl) (by decide +kernel)
theorem w_498 : Cond.instanceMethod yX7_readOne ∈ AW := aT4 (List.mem_of_getElem? (i := 217) rfl) (by decide +kernel)
theorem w_499 : Cond.selects RX7 yX7_readOne yX7_readOne ∈ AW := aP (List.mem_of_getElem? (i := 33) rfl) (by decide +kernel)
theorem w_500 : Cond.code yX7_readOne cX7_readOne 2 none ∈ AW := aT4 (List.mem_of_getElem? (i := 218) rfl) (by decide +kernel)
theorem w_501 : Cond.methodLink RX7 129 yX7_does ∈ AW := aT4 (List.mem_of_getElem? (i := 231) rfl) (by decide +kernel)
theorem w_502 : Cond.instanceMethod yX7_does ∈ AW := aT4 (List.mem_of_getElem? (i := 233) rfl) (by decide +kernel)
theorem w_503 : Cond.selects RX7 yX7_does yX7_does ∈ AW := aP (List.mem_of_getElem? (i := 37) rfl) (by decide +kernel)
theorem w_504 : Cond.code yX7_does cX7_does 1 (some (.int)) ∈ AW := aT4 (List.mem_of_getElem? (i := 234) rfl) (by decide +kernel)
theorem w_505 : Cond.methodLink RX7 125 yX7_isPossible ∈ AW := aT4 (List.mem_of_getElem? (i := 227) rfl) (by decide +kernel)
theorem w_506 : Cond.instanceMethod yX7_isPossible ∈ AW := aT4 (List.mem_of_getElem? (i := 229) rfl) (by decide +kernel)
theorem w_507 : Cond.selects RX7 yX7_isPossible yX7_isPossible ∈ AW := aP (List.mem_of_getElem? (i := 36) rfl) (by decide +kernel)
theorem w_508 : Cond.code yX7_isPossible cX7_isPossible 1 (some (.boolean)) ∈ AW := aT4 (List.mem_of_getElem? (i := 230) rfl) (by decide +kernel)
theorem w_509 : Cond.methodLink RX7 132 yX7_goesThrough ∈ AW := aT4 (List.mem_of_getElem? (i := 211) rfl) (by decide +kernel)
theorem w_510 : Cond.instanceMethod yX7_goesThrough ∈ AW := aT4 (List.mem_of_getElem? (i := 213) rfl) (by decide +kernel)
theorem w_511 : Cond.selects RX7 yX7_goesThrough yX7_goesThrough ∈ AW := aP (List.mem_of_getElem? (i := 32) rfl) (by decide +kernel)
theorem w_512 : Cond.code yX7_goesThrough cX7_goesThrough 5 (some (.int)) ∈ AW := aT4 (List.mem_of_getElem? (i := 214) rfl) (by decide +kernel)
theorem w_513 : Cond.fieldLink RX7 19 "SevenAsksModel" "slots" "[I" ∈ AW := aT4 (List.mem_of_getElem? (i := 63) rfl) (by decide +kernel)
theorem w_514 : Cond.methodLink RX7 91 yX7_becomes ∈ AW := aT4 (List.mem_of_getElem? (i := 183) rfl) (by decide +kernel)
theorem w_515 : Cond.instanceMethod yX7_becomes ∈ AW := aT4 (List.mem_of_getElem? (i := 185) rfl) (by decide +kernel)
theorem w_516 : Cond.selects RX7 yX7_becomes yX7_becomes ∈ AW := aP (List.mem_of_getElem? (i := 30) rfl) (by decide +kernel)
theorem w_517 : Cond.code yX7_becomes cX7_becomes 4 (some (.int)) ∈ AW := aT4 (List.mem_of_getElem? (i := 186) rfl) (by decide +kernel)
theorem w_518 : Cond.classLink RX6 91 "java/lang/IllegalArgumentException" ∈ AW := aT2 (List.mem_of_getElem? (i := 203) rfl) (by decide +kernel)
theorem w_519 : Cond.initialized "java/lang/IllegalArgumentException" ∈ AW := aT1 (List.mem_of_getElem? (i := 15) rfl) (by decide +kernel)
theorem w_520 : Cond.methodLink RX6 96 yX0_isFull ∈ AW := aT3 (List.mem_of_getElem? (i := 157) rfl) (by decide +kernel)
theorem w_521 : Cond.instanceMethod yX0_isFull ∈ AW := aT3 (List.mem_of_getElem? (i := 158) rfl) (by decide +kernel)
theorem w_522 : Cond.selects RX0 yX0_isFull yX0_isFull ∈ AW := aT3 (List.mem_of_getElem? (i := 159) rfl) (by decide +kernel)
theorem w_523 : Cond.code yX0_isFull cX0_isFull 1 (some (.boolean)) ∈ AW := aT3 (List.mem_of_getElem? (i := 160) rfl) (by decide +kernel)
theorem w_524 : Cond.methodLink RX6 101 yX0_addSign ∈ AW := aT3 (List.mem_of_getElem? (i := 162) rfl) (by decide +kernel)
theorem w_525 : Cond.instanceMethod yX0_addSign ∈ AW := aT3 (List.mem_of_getElem? (i := 163) rfl) (by decide +kernel)
theorem w_526 : Cond.selects RX0 yX0_addSign yX0_addSign ∈ AW := aT3 (List.mem_of_getElem? (i := 164) rfl) (by decide +kernel)
theorem w_527 : Cond.code yX0_addSign cX0_addSign 2 (some (.int)) ∈ AW := aT3 (List.mem_of_getElem? (i := 165) rfl) (by decide +kernel)
theorem w_528 : Cond.classLink RX6 77 "java/lang/IllegalStateException" ∈ AW := aT3 (List.mem_of_getElem? (i := 113) rfl) (by decide +kernel)
theorem w_529 : Cond.initialized "java/lang/IllegalStateException" ∈ AW := aT1 (List.mem_of_getElem? (i := 18) rfl) (by decide +kernel)
theorem w_530 : Cond.classLink RX6 146 "java/lang/IndexOutOfBoundsException" ∈ AW := aT2 (List.mem_of_getElem? (i := 134) rfl) (by decide +kernel)
theorem w_531 : Cond.initialized "java/lang/IndexOutOfBoundsException" ∈ AW := aT1 (List.mem_of_getElem? (i := 14) rfl) (by decide +kernel)
theorem w_532 : Cond.methodLink RX6 53 yX6_checkLodger ∈ AW := aT2 (List.mem_of_getElem? (i := 131) rfl) (by decide +kernel)
theorem w_533 : Cond.static yX6_checkLodger ∈ AW := aT2 (List.mem_of_getElem? (i := 132) rfl) (by decide +kernel)
theorem w_534 : Cond.code yX6_checkLodger cX6_checkLodger 1 none ∈ AW := aT2 (List.mem_of_getElem? (i := 133) rfl) (by decide +kernel)
theorem w_535 : Cond.methodLink RX6 42 yX6_checkAsking ∈ AW := aT2 (List.mem_of_getElem? (i := 128) rfl) (by decide +kernel)
theorem w_536 : Cond.static yX6_checkAsking ∈ AW := aT2 (List.mem_of_getElem? (i := 129) rfl) (by decide +kernel)
theorem w_537 : Cond.code yX6_checkAsking cX6_checkAsking 3 none ∈ AW := aT2 (List.mem_of_getElem? (i := 130) rfl) (by decide +kernel)
theorem w_538 : Cond.methodLink RX6 160 yX6_checkRange ∈ AW := aT3 (List.mem_of_getElem? (i := 63) rfl) (by decide +kernel)
theorem w_539 : Cond.static yX6_checkRange ∈ AW := aT3 (List.mem_of_getElem? (i := 64) rfl) (by decide +kernel)
theorem w_540 : Cond.code yX6_checkRange cX6_checkRange 3 none ∈ AW := aT3 (List.mem_of_getElem? (i := 65) rfl) (by decide +kernel)
theorem w_541 : Cond.methodLink RX6 56 yX6_checkHour ∈ AW := aT3 (List.mem_of_getElem? (i := 60) rfl) (by decide +kernel)
theorem w_542 : Cond.static yX6_checkHour ∈ AW := aT3 (List.mem_of_getElem? (i := 61) rfl) (by decide +kernel)
theorem w_543 : Cond.code yX6_checkHour cX6_checkHour 1 none ∈ AW := aT3 (List.mem_of_getElem? (i := 62) rfl) (by decide +kernel)
theorem w_544 : Cond.methodLink RX6 63 yX3_giveFavour ∈ AW := aT3 (List.mem_of_getElem? (i := 83) rfl) (by decide +kernel)
theorem w_545 : Cond.instanceMethod yX3_giveFavour ∈ AW := aT3 (List.mem_of_getElem? (i := 84) rfl) (by decide +kernel)
theorem w_546 : Cond.selects RX3 yX3_giveFavour yX3_giveFavour ∈ AW := aT3 (List.mem_of_getElem? (i := 85) rfl) (by decide +kernel)
theorem w_547 : Cond.code yX3_giveFavour cX3_giveFavour 2 (some (.int)) ∈ AW := aT3 (List.mem_of_getElem? (i := 86) rfl) (by decide +kernel)
theorem w_548 : Cond.methodLink RX6 59 yX3_takeBack ∈ AW := aT3 (List.mem_of_getElem? (i := 67) rfl) (by decide +kernel)
theorem w_549 : Cond.instanceMethod yX3_takeBack ∈ AW := aT3 (List.mem_of_getElem? (i := 68) rfl) (by decide +kernel)
theorem w_550 : Cond.selects RX3 yX3_takeBack yX3_takeBack ∈ AW := aT3 (List.mem_of_getElem? (i := 69) rfl) (by decide +kernel)
theorem w_551 : Cond.code yX3_takeBack cX3_takeBack 4 (some (.int)) ∈ AW := aT3 (List.mem_of_getElem? (i := 70) rfl) (by decide +kernel)
theorem w_552 : Cond.methodLink RX6 118 yX6_checkSlot ∈ AW := aT3 (List.mem_of_getElem? (i := 209) rfl) (by decide +kernel)
theorem w_553 : Cond.static yX6_checkSlot ∈ AW := aT3 (List.mem_of_getElem? (i := 210) rfl) (by decide +kernel)
theorem w_554 : Cond.code yX6_checkSlot cX6_checkSlot 1 none ∈ AW := aT3 (List.mem_of_getElem? (i := 211) rfl) (by decide +kernel)
theorem w_555 : Cond.methodLink RX6 67 yX6_checkNeed ∈ AW := aT3 (List.mem_of_getElem? (i := 94) rfl) (by decide +kernel)
theorem w_556 : Cond.static yX6_checkNeed ∈ AW := aT3 (List.mem_of_getElem? (i := 95) rfl) (by decide +kernel)
theorem w_557 : Cond.code yX6_checkNeed cX6_checkNeed 1 none ∈ AW := aT3 (List.mem_of_getElem? (i := 96) rfl) (by decide +kernel)
theorem w_558 : Cond.methodLink RX6 70 yX3_changeNeed ∈ AW := aT3 (List.mem_of_getElem? (i := 97) rfl) (by decide +kernel)
theorem w_559 : Cond.instanceMethod yX3_changeNeed ∈ AW := aT3 (List.mem_of_getElem? (i := 98) rfl) (by decide +kernel)
theorem w_560 : Cond.selects RX3 yX3_changeNeed yX3_changeNeed ∈ AW := aT3 (List.mem_of_getElem? (i := 99) rfl) (by decide +kernel)
theorem w_561 : Cond.code yX3_changeNeed cX3_changeNeed 4 (some (.int)) ∈ AW := aT3 (List.mem_of_getElem? (i := 100) rfl) (by decide +kernel)
theorem w_562 : Cond.methodLink RX6 88 yX3_changeSetting ∈ AW := aT3 (List.mem_of_getElem? (i := 145) rfl) (by decide +kernel)
theorem w_563 : Cond.instanceMethod yX3_changeSetting ∈ AW := aT3 (List.mem_of_getElem? (i := 146) rfl) (by decide +kernel)
theorem w_564 : Cond.selects RX3 yX3_changeSetting yX3_changeSetting ∈ AW := aT3 (List.mem_of_getElem? (i := 147) rfl) (by decide +kernel)
theorem w_565 : Cond.code yX3_changeSetting cX3_changeSetting 3 (some (.int)) ∈ AW := aT3 (List.mem_of_getElem? (i := 148) rfl) (by decide +kernel)
theorem w_566 : Cond.methodLink RL 37 yX6_append ∈ AW := aT3 (List.mem_of_getElem? (i := 152) rfl) (by decide +kernel)
theorem w_567 : Cond.instanceMethod yX6_append ∈ AW := aT3 (List.mem_of_getElem? (i := 153) rfl) (by decide +kernel)
theorem w_568 : Cond.selects RX6 yX6_append yX6_append ∈ AW := aT3 (List.mem_of_getElem? (i := 154) rfl) (by decide +kernel)
theorem w_569 : Cond.code yX6_append cX6_append 2 (some (.int)) ∈ AW := aT3 (List.mem_of_getElem? (i := 155) rfl) (by decide +kernel)
theorem w_570 : Cond.codeWith yL_append cL_append 4 (some .int) [(0, 9, 12, 15), (0, 9, 15, 32)] ∈ AW := aT3 (List.mem_of_getElem? (i := 151) rfl) (by decide +kernel)
theorem w_571 : Cond.classLink RL 15 "java/lang/IllegalArgumentException" ∈ AW := aT2 (List.mem_of_getElem? (i := 123) rfl) (by decide +kernel)
theorem w_572 : Cond.classLink RL 32 "java/lang/IllegalStateException" ∈ AW := aT3 (List.mem_of_getElem? (i := 104) rfl) (by decide +kernel)
theorem w_573 : Cond.methodLink RL 7 yX6_ask ∈ AW := aT2 (List.mem_of_getElem? (i := 124) rfl) (by decide +kernel)
theorem w_574 : Cond.instanceMethod yX6_ask ∈ AW := aT2 (List.mem_of_getElem? (i := 125) rfl) (by decide +kernel)
theorem w_575 : Cond.selects RX6 yX6_ask yX6_ask ∈ AW := aT2 (List.mem_of_getElem? (i := 126) rfl) (by decide +kernel)
theorem w_576 : Cond.code yX6_ask cX6_ask 4 (some (.int)) ∈ AW := aT2 (List.mem_of_getElem? (i := 127) rfl) (by decide +kernel)
theorem w_577 : Cond.codeWith yL_ask cL_ask 6 (some .int) [(0, 12, 15, 13), (0, 12, 19, 15)] ∈ AW := aT2 (List.mem_of_getElem? (i := 121) rfl) (by decide +kernel)
theorem w_578 : Cond.classLink RL 13 "java/lang/IndexOutOfBoundsException" ∈ AW := aT2 (List.mem_of_getElem? (i := 122) rfl) (by decide +kernel)
theorem w_579 : Cond.methodLink RL 52 yX6_at ∈ AW := aT3 (List.mem_of_getElem? (i := 235) rfl) (by decide +kernel)
theorem w_580 : Cond.instanceMethod yX6_at ∈ AW := aT3 (List.mem_of_getElem? (i := 236) rfl) (by decide +kernel)
theorem w_581 : Cond.selects RX6 yX6_at yX6_at ∈ AW := aT3 (List.mem_of_getElem? (i := 237) rfl) (by decide +kernel)
theorem w_582 : Cond.code yX6_at cX6_at 3 (some (.int)) ∈ AW := aT3 (List.mem_of_getElem? (i := 238) rfl) (by decide +kernel)
theorem w_583 : Cond.codeWith yL_at cL_at 5 (some .int) [(0, 10, 13, 13), (0, 10, 17, 15)] ∈ AW := aT3 (List.mem_of_getElem? (i := 234) rfl) (by decide +kernel)
theorem w_584 : Cond.methodLink RL 58 yX6_count ∈ AW := aT4 (List.mem_of_getElem? (i := 10) rfl) (by decide +kernel)
theorem w_585 : Cond.instanceMethod yX6_count ∈ AW := aT4 (List.mem_of_getElem? (i := 11) rfl) (by decide +kernel)
theorem w_586 : Cond.selects RX6 yX6_count yX6_count ∈ AW := aT4 (List.mem_of_getElem? (i := 12) rfl) (by decide +kernel)
theorem w_587 : Cond.code yX6_count cX6_count 2 (some (.int)) ∈ AW := aT4 (List.mem_of_getElem? (i := 13) rfl) (by decide +kernel)
theorem w_588 : Cond.codeWith yL_count cL_count 4 (some .int) [(0, 9, 12, 15)] ∈ AW := aT4 (List.mem_of_getElem? (i := 9) rfl) (by decide +kernel)
theorem w_589 : Cond.methodLink RL 21 yX6_favour ∈ AW := aT3 (List.mem_of_getElem? (i := 79) rfl) (by decide +kernel)
theorem w_590 : Cond.instanceMethod yX6_favour ∈ AW := aT3 (List.mem_of_getElem? (i := 80) rfl) (by decide +kernel)
theorem w_591 : Cond.selects RX6 yX6_favour yX6_favour ∈ AW := aT3 (List.mem_of_getElem? (i := 81) rfl) (by decide +kernel)
theorem w_592 : Cond.code yX6_favour cX6_favour 2 (some (.int)) ∈ AW := aT3 (List.mem_of_getElem? (i := 82) rfl) (by decide +kernel)
theorem w_593 : Cond.codeWith yL_favour cL_favour 4 (some .int) [(0, 9, 12, 13)] ∈ AW := aT3 (List.mem_of_getElem? (i := 78) rfl) (by decide +kernel)
theorem w_594 : Cond.methodLink RL 70 yX6_fewestBeds ∈ AW := aT4 (List.mem_of_getElem? (i := 38) rfl) (by decide +kernel)
theorem w_595 : Cond.instanceMethod yX6_fewestBeds ∈ AW := aT4 (List.mem_of_getElem? (i := 39) rfl) (by decide +kernel)
theorem w_596 : Cond.selects RX6 yX6_fewestBeds yX6_fewestBeds ∈ AW := aT4 (List.mem_of_getElem? (i := 40) rfl) (by decide +kernel)
theorem w_597 : Cond.code yX6_fewestBeds cX6_fewestBeds 2 (some (.int)) ∈ AW := aT4 (List.mem_of_getElem? (i := 41) rfl) (by decide +kernel)
theorem w_598 : Cond.codeWith yL_fewestBeds cL_fewestBeds 4 (some .int) [(0, 9, 12, 15)] ∈ AW := aT4 (List.mem_of_getElem? (i := 37) rfl) (by decide +kernel)
theorem w_599 : Cond.methodLink RL 17 yX6_giveBack ∈ AW := aT3 (List.mem_of_getElem? (i := 56) rfl) (by decide +kernel)
theorem w_600 : Cond.instanceMethod yX6_giveBack ∈ AW := aT3 (List.mem_of_getElem? (i := 57) rfl) (by decide +kernel)
theorem w_601 : Cond.selects RX6 yX6_giveBack yX6_giveBack ∈ AW := aT3 (List.mem_of_getElem? (i := 58) rfl) (by decide +kernel)
theorem w_602 : Cond.code yX6_giveBack cX6_giveBack 3 (some (.int)) ∈ AW := aT3 (List.mem_of_getElem? (i := 59) rfl) (by decide +kernel)
theorem w_603 : Cond.codeWith yL_giveBack cL_giveBack 5 (some .int) [(0, 10, 13, 13), (0, 10, 17, 15)] ∈ AW := aT3 (List.mem_of_getElem? (i := 55) rfl) (by decide +kernel)
theorem w_604 : Cond.methodLink RL 46 yX6_goBack ∈ AW := aT3 (List.mem_of_getElem? (i := 215) rfl) (by decide +kernel)
theorem w_605 : Cond.instanceMethod yX6_goBack ∈ AW := aT3 (List.mem_of_getElem? (i := 216) rfl) (by decide +kernel)
theorem w_606 : Cond.selects RX6 yX6_goBack yX6_goBack ∈ AW := aT3 (List.mem_of_getElem? (i := 217) rfl) (by decide +kernel)
theorem w_607 : Cond.code yX6_goBack cX6_goBack 2 (some (.int)) ∈ AW := aT3 (List.mem_of_getElem? (i := 218) rfl) (by decide +kernel)
theorem w_608 : Cond.codeWith yL_goBack cL_goBack 4 (some .int) [(0, 9, 12, 15), (0, 9, 15, 32)] ∈ AW := aT3 (List.mem_of_getElem? (i := 214) rfl) (by decide +kernel)
theorem w_609 : Cond.methodLink RL 64 yX6_ifAsked ∈ AW := aT4 (List.mem_of_getElem? (i := 24) rfl) (by decide +kernel)
theorem w_610 : Cond.instanceMethod yX6_ifAsked ∈ AW := aT4 (List.mem_of_getElem? (i := 25) rfl) (by decide +kernel)
theorem w_611 : Cond.selects RX6 yX6_ifAsked yX6_ifAsked ∈ AW := aT4 (List.mem_of_getElem? (i := 26) rfl) (by decide +kernel)
theorem w_612 : Cond.code yX6_ifAsked cX6_ifAsked 4 (some (.int)) ∈ AW := aT4 (List.mem_of_getElem? (i := 27) rfl) (by decide +kernel)
theorem w_613 : Cond.codeWith yL_ifAsked cL_ifAsked 6 (some .int) [(0, 12, 15, 13), (0, 12, 19, 15)] ∈ AW := aT4 (List.mem_of_getElem? (i := 23) rfl) (by decide +kernel)
theorem w_614 : Cond.methodLink RL 67 yX6_ifPutOut ∈ AW := aT4 (List.mem_of_getElem? (i := 31) rfl) (by decide +kernel)
theorem w_615 : Cond.instanceMethod yX6_ifPutOut ∈ AW := aT4 (List.mem_of_getElem? (i := 32) rfl) (by decide +kernel)
theorem w_616 : Cond.selects RX6 yX6_ifPutOut yX6_ifPutOut ∈ AW := aT4 (List.mem_of_getElem? (i := 33) rfl) (by decide +kernel)
theorem w_617 : Cond.code yX6_ifPutOut cX6_ifPutOut 4 (some (.int)) ∈ AW := aT4 (List.mem_of_getElem? (i := 34) rfl) (by decide +kernel)
theorem w_618 : Cond.codeWith yL_ifPutOut cL_ifPutOut 6 (some .int) [(0, 12, 15, 13), (0, 12, 19, 15)] ∈ AW := aT4 (List.mem_of_getElem? (i := 30) rfl) (by decide +kernel)
theorem w_619 : Cond.methodLink RL 43 yX6_keep ∈ AW := aT3 (List.mem_of_getElem? (i := 205) rfl) (by decide +kernel)
theorem w_620 : Cond.instanceMethod yX6_keep ∈ AW := aT3 (List.mem_of_getElem? (i := 206) rfl) (by decide +kernel)
theorem w_621 : Cond.selects RX6 yX6_keep yX6_keep ∈ AW := aT3 (List.mem_of_getElem? (i := 207) rfl) (by decide +kernel)
theorem w_622 : Cond.code yX6_keep cX6_keep 2 (some (.int)) ∈ AW := aT3 (List.mem_of_getElem? (i := 208) rfl) (by decide +kernel)
theorem w_623 : Cond.codeWith yL_keep cL_keep 4 (some .int) [(0, 9, 12, 15)] ∈ AW := aT3 (List.mem_of_getElem? (i := 204) rfl) (by decide +kernel)
theorem w_624 : Cond.methodLink RL 55 yX6_lodgerOf ∈ AW := aT4 (List.mem_of_getElem? (i := 3) rfl) (by decide +kernel)
theorem w_625 : Cond.instanceMethod yX6_lodgerOf ∈ AW := aT4 (List.mem_of_getElem? (i := 4) rfl) (by decide +kernel)
theorem w_626 : Cond.selects RX6 yX6_lodgerOf yX6_lodgerOf ∈ AW := aT4 (List.mem_of_getElem? (i := 5) rfl) (by decide +kernel)
theorem w_627 : Cond.code yX6_lodgerOf cX6_lodgerOf 3 (some (.int)) ∈ AW := aT4 (List.mem_of_getElem? (i := 6) rfl) (by decide +kernel)
theorem w_628 : Cond.codeWith yL_lodgerOf cL_lodgerOf 5 (some .int) [(0, 10, 13, 13), (0, 10, 17, 15)] ∈ AW := aT4 (List.mem_of_getElem? (i := 2) rfl) (by decide +kernel)
theorem w_629 : Cond.methodLink RL 73 yX6_longest ∈ AW := aT4 (List.mem_of_getElem? (i := 45) rfl) (by decide +kernel)
theorem w_630 : Cond.instanceMethod yX6_longest ∈ AW := aT4 (List.mem_of_getElem? (i := 46) rfl) (by decide +kernel)
theorem w_631 : Cond.selects RX6 yX6_longest yX6_longest ∈ AW := aT4 (List.mem_of_getElem? (i := 47) rfl) (by decide +kernel)
theorem w_632 : Cond.code yX6_longest cX6_longest 3 (some (.int)) ∈ AW := aT4 (List.mem_of_getElem? (i := 48) rfl) (by decide +kernel)
theorem w_633 : Cond.codeWith yL_longest cL_longest 5 (some .int) [(0, 10, 13, 13), (0, 10, 17, 15)] ∈ AW := aT4 (List.mem_of_getElem? (i := 44) rfl) (by decide +kernel)
theorem w_634 : Cond.methodLink RL 25 yX6_need ∈ AW := aT3 (List.mem_of_getElem? (i := 90) rfl) (by decide +kernel)
theorem w_635 : Cond.instanceMethod yX6_need ∈ AW := aT3 (List.mem_of_getElem? (i := 91) rfl) (by decide +kernel)
theorem w_636 : Cond.selects RX6 yX6_need yX6_need ∈ AW := aT3 (List.mem_of_getElem? (i := 92) rfl) (by decide +kernel)
theorem w_637 : Cond.code yX6_need cX6_need 3 (some (.int)) ∈ AW := aT3 (List.mem_of_getElem? (i := 93) rfl) (by decide +kernel)
theorem w_638 : Cond.codeWith yL_need cL_need 5 (some .int) [(0, 10, 13, 13), (0, 10, 17, 15)] ∈ AW := aT3 (List.mem_of_getElem? (i := 89) rfl) (by decide +kernel)
theorem w_639 : Cond.methodLink RL 28 yX6_pass ∈ AW := aT3 (List.mem_of_getElem? (i := 105) rfl) (by decide +kernel)
theorem w_640 : Cond.instanceMethod yX6_pass ∈ AW := aT3 (List.mem_of_getElem? (i := 106) rfl) (by decide +kernel)
theorem w_641 : Cond.selects RX6 yX6_pass yX6_pass ∈ AW := aT3 (List.mem_of_getElem? (i := 107) rfl) (by decide +kernel)
theorem w_642 : Cond.code yX6_pass cX6_pass 1 (some (.int)) ∈ AW := aT3 (List.mem_of_getElem? (i := 108) rfl) (by decide +kernel)
theorem w_643 : Cond.codeWith yL_pass cL_pass 3 (some .int) [(0, 8, 11, 32)] ∈ AW := aT3 (List.mem_of_getElem? (i := 103) rfl) (by decide +kernel)
theorem w_644 : Cond.methodLink RL 61 yX6_refused ∈ AW := aT4 (List.mem_of_getElem? (i := 17) rfl) (by decide +kernel)
theorem w_645 : Cond.instanceMethod yX6_refused ∈ AW := aT4 (List.mem_of_getElem? (i := 18) rfl) (by decide +kernel)
theorem w_646 : Cond.selects RX6 yX6_refused yX6_refused ∈ AW := aT4 (List.mem_of_getElem? (i := 19) rfl) (by decide +kernel)
theorem w_647 : Cond.code yX6_refused cX6_refused 2 (some (.int)) ∈ AW := aT4 (List.mem_of_getElem? (i := 20) rfl) (by decide +kernel)
theorem w_648 : Cond.codeWith yL_refused cL_refused 4 (some .int) [(0, 9, 12, 15)] ∈ AW := aT4 (List.mem_of_getElem? (i := 16) rfl) (by decide +kernel)
theorem w_649 : Cond.methodLink RL 40 yX6_run ∈ AW := aT3 (List.mem_of_getElem? (i := 169) rfl) (by decide +kernel)
theorem w_650 : Cond.instanceMethod yX6_run ∈ AW := aT3 (List.mem_of_getElem? (i := 170) rfl) (by decide +kernel)
theorem w_651 : Cond.selects RX6 yX6_run yX6_run ∈ AW := aT3 (List.mem_of_getElem? (i := 171) rfl) (by decide +kernel)
theorem w_652 : Cond.code yX6_run cX6_run 2 (some (.int)) ∈ AW := aT3 (List.mem_of_getElem? (i := 172) rfl) (by decide +kernel)
theorem w_653 : Cond.codeWith yL_run cL_run 3 (some .int) [(0, 8, 11, 15)] ∈ AW := aT3 (List.mem_of_getElem? (i := 168) rfl) (by decide +kernel)
theorem w_654 : Cond.methodLink RL 34 yX6_set ∈ AW := aT3 (List.mem_of_getElem? (i := 141) rfl) (by decide +kernel)
theorem w_655 : Cond.instanceMethod yX6_set ∈ AW := aT3 (List.mem_of_getElem? (i := 142) rfl) (by decide +kernel)
theorem w_656 : Cond.selects RX6 yX6_set yX6_set ∈ AW := aT3 (List.mem_of_getElem? (i := 143) rfl) (by decide +kernel)
theorem w_657 : Cond.code yX6_set cX6_set 2 (some (.int)) ∈ AW := aT3 (List.mem_of_getElem? (i := 144) rfl) (by decide +kernel)
theorem w_658 : Cond.codeWith yL_set cL_set 4 (some .int) [(0, 9, 12, 15)] ∈ AW := aT3 (List.mem_of_getElem? (i := 140) rfl) (by decide +kernel)
theorem w_659 : Cond.methodLink RL 49 yX6_undo ∈ AW := aT3 (List.mem_of_getElem? (i := 227) rfl) (by decide +kernel)
theorem w_660 : Cond.instanceMethod yX6_undo ∈ AW := aT3 (List.mem_of_getElem? (i := 228) rfl) (by decide +kernel)
theorem w_661 : Cond.selects RX6 yX6_undo yX6_undo ∈ AW := aT3 (List.mem_of_getElem? (i := 229) rfl) (by decide +kernel)
theorem w_662 : Cond.code yX6_undo cX6_undo 1 (some (.int)) ∈ AW := aT3 (List.mem_of_getElem? (i := 230) rfl) (by decide +kernel)
theorem w_663 : Cond.codeWith yL_undo cL_undo 3 (some .int) [(0, 8, 11, 32)] ∈ AW := aT3 (List.mem_of_getElem? (i := 226) rfl) (by decide +kernel)
theorem w_664 : Cond.methodLink RL 80 yL_ask ∈ AW := aT2 (List.mem_of_getElem? (i := 119) rfl) (by decide +kernel)
theorem w_665 : Cond.static yL_ask ∈ AW := aT2 (List.mem_of_getElem? (i := 120) rfl) (by decide +kernel)
theorem w_666 : Cond.initialized RL ∈ AW := aT1 (List.mem_of_getElem? (i := 0) rfl) (by decide +kernel)
theorem w_667 : Cond.methodLink RL 85 yX7_ask ∈ AW := aT4 (List.mem_of_getElem? (i := 111) rfl) (by decide +kernel)
theorem w_668 : Cond.instanceMethod yX7_ask ∈ AW := aT4 (List.mem_of_getElem? (i := 112) rfl) (by decide +kernel)
theorem w_669 : Cond.selects RX7 yX7_ask yX7_ask ∈ AW := aT4 (List.mem_of_getElem? (i := 113) rfl) (by decide +kernel)
theorem w_670 : Cond.code yX7_ask cX7_ask 4 (some (.int)) ∈ AW := aT4 (List.mem_of_getElem? (i := 114) rfl) (by decide +kernel)
theorem w_671 : Cond.methodLink RL 86 yX7_thrown ∈ AW := aT4 (List.mem_of_getElem? (i := 107) rfl) (by decide +kernel)
theorem w_672 : Cond.instanceMethod yX7_thrown ∈ AW := aT4 (List.mem_of_getElem? (i := 108) rfl) (by decide +kernel)
theorem w_673 : Cond.selects RX7 yX7_thrown yX7_thrown ∈ AW := aT4 (List.mem_of_getElem? (i := 109) rfl) (by decide +kernel)
theorem w_674 : Cond.code yX7_thrown cX7_thrown 1 (some (.int)) ∈ AW := aT4 (List.mem_of_getElem? (i := 110) rfl) (by decide +kernel)
theorem w_675 : Cond.methodLink RL 89 yL_giveBack ∈ AW := aT3 (List.mem_of_getElem? (i := 53) rfl) (by decide +kernel)
theorem w_676 : Cond.static yL_giveBack ∈ AW := aT3 (List.mem_of_getElem? (i := 54) rfl) (by decide +kernel)
theorem w_677 : Cond.methodLink RL 92 yX7_giveBack ∈ AW := aT4 (List.mem_of_getElem? (i := 167) rfl) (by decide +kernel)
theorem w_678 : Cond.instanceMethod yX7_giveBack ∈ AW := aT4 (List.mem_of_getElem? (i := 168) rfl) (by decide +kernel)
theorem w_679 : Cond.selects RX7 yX7_giveBack yX7_giveBack ∈ AW := aT4 (List.mem_of_getElem? (i := 169) rfl) (by decide +kernel)
theorem w_680 : Cond.code yX7_giveBack cX7_giveBack 5 (some (.int)) ∈ AW := aT4 (List.mem_of_getElem? (i := 170) rfl) (by decide +kernel)
theorem w_681 : Cond.methodLink RL 93 yL_favour ∈ AW := aT3 (List.mem_of_getElem? (i := 76) rfl) (by decide +kernel)
theorem w_682 : Cond.static yL_favour ∈ AW := aT3 (List.mem_of_getElem? (i := 77) rfl) (by decide +kernel)
theorem w_683 : Cond.methodLink RL 96 yX7_favour ∈ AW := aT4 (List.mem_of_getElem? (i := 175) rfl) (by decide +kernel)
theorem w_684 : Cond.instanceMethod yX7_favour ∈ AW := aT4 (List.mem_of_getElem? (i := 176) rfl) (by decide +kernel)
theorem w_685 : Cond.selects RX7 yX7_favour yX7_favour ∈ AW := aT4 (List.mem_of_getElem? (i := 177) rfl) (by decide +kernel)
theorem w_686 : Cond.code yX7_favour cX7_favour 2 (some (.int)) ∈ AW := aT4 (List.mem_of_getElem? (i := 178) rfl) (by decide +kernel)
theorem w_687 : Cond.methodLink RL 97 yL_need ∈ AW := aT3 (List.mem_of_getElem? (i := 87) rfl) (by decide +kernel)
theorem w_688 : Cond.static yL_need ∈ AW := aT3 (List.mem_of_getElem? (i := 88) rfl) (by decide +kernel)
theorem w_689 : Cond.methodLink RL 99 yX7_need ∈ AW := aT4 (List.mem_of_getElem? (i := 179) rfl) (by decide +kernel)
theorem w_690 : Cond.instanceMethod yX7_need ∈ AW := aT4 (List.mem_of_getElem? (i := 180) rfl) (by decide +kernel)
theorem w_691 : Cond.selects RX7 yX7_need yX7_need ∈ AW := aT4 (List.mem_of_getElem? (i := 181) rfl) (by decide +kernel)
theorem w_692 : Cond.code yX7_need cX7_need 3 (some (.int)) ∈ AW := aT4 (List.mem_of_getElem? (i := 182) rfl) (by decide +kernel)
theorem w_693 : Cond.methodLink RL 100 yL_pass ∈ AW := aT3 (List.mem_of_getElem? (i := 101) rfl) (by decide +kernel)
theorem w_694 : Cond.static yL_pass ∈ AW := aT3 (List.mem_of_getElem? (i := 102) rfl) (by decide +kernel)
theorem w_695 : Cond.methodLink RL 103 yX7_pass ∈ AW := aT4 (List.mem_of_getElem? (i := 187) rfl) (by decide +kernel)
theorem w_696 : Cond.instanceMethod yX7_pass ∈ AW := aT4 (List.mem_of_getElem? (i := 188) rfl) (by decide +kernel)
theorem w_697 : Cond.selects RX7 yX7_pass yX7_pass ∈ AW := aT4 (List.mem_of_getElem? (i := 189) rfl) (by decide +kernel)
theorem w_698 : Cond.code yX7_pass cX7_pass 1 (some (.int)) ∈ AW := aT4 (List.mem_of_getElem? (i := 190) rfl) (by decide +kernel)
theorem w_699 : Cond.methodLink RL 104 yL_set ∈ AW := aT3 (List.mem_of_getElem? (i := 138) rfl) (by decide +kernel)
theorem w_700 : Cond.static yL_set ∈ AW := aT3 (List.mem_of_getElem? (i := 139) rfl) (by decide +kernel)
theorem w_701 : Cond.methodLink RL 106 yX7_set ∈ AW := aT4 (List.mem_of_getElem? (i := 195) rfl) (by decide +kernel)
theorem w_702 : Cond.instanceMethod yX7_set ∈ AW := aT4 (List.mem_of_getElem? (i := 196) rfl) (by decide +kernel)
theorem w_703 : Cond.selects RX7 yX7_set yX7_set ∈ AW := aT4 (List.mem_of_getElem? (i := 197) rfl) (by decide +kernel)
theorem w_704 : Cond.code yX7_set cX7_set 2 (some (.int)) ∈ AW := aT4 (List.mem_of_getElem? (i := 198) rfl) (by decide +kernel)
theorem w_705 : Cond.methodLink RL 107 yL_append ∈ AW := aT3 (List.mem_of_getElem? (i := 149) rfl) (by decide +kernel)
theorem w_706 : Cond.static yL_append ∈ AW := aT3 (List.mem_of_getElem? (i := 150) rfl) (by decide +kernel)
theorem w_707 : Cond.methodLink RL 109 yX7_append ∈ AW := aT4 (List.mem_of_getElem? (i := 199) rfl) (by decide +kernel)
theorem w_708 : Cond.instanceMethod yX7_append ∈ AW := aT4 (List.mem_of_getElem? (i := 200) rfl) (by decide +kernel)
theorem w_709 : Cond.selects RX7 yX7_append yX7_append ∈ AW := aT4 (List.mem_of_getElem? (i := 201) rfl) (by decide +kernel)
theorem w_710 : Cond.code yX7_append cX7_append 2 (some (.int)) ∈ AW := aT4 (List.mem_of_getElem? (i := 202) rfl) (by decide +kernel)
theorem w_711 : Cond.methodLink RL 110 yX6_clearBuffer ∈ AW := aT1 (List.mem_of_getElem? (i := 156) rfl) (by decide +kernel)
theorem w_712 : Cond.instanceMethod yX6_clearBuffer ∈ AW := aT1 (List.mem_of_getElem? (i := 157) rfl) (by decide +kernel)
theorem w_713 : Cond.selects RX6 yX6_clearBuffer yX6_clearBuffer ∈ AW := aT1 (List.mem_of_getElem? (i := 158) rfl) (by decide +kernel)
theorem w_714 : Cond.code yX6_clearBuffer cX6_clearBuffer 1 (some (.int)) ∈ AW := aT1 (List.mem_of_getElem? (i := 159) rfl) (by decide +kernel)
theorem w_715 : Cond.methodLink RL 113 yX7_clearBuffer ∈ AW := aT4 (List.mem_of_getElem? (i := 203) rfl) (by decide +kernel)
theorem w_716 : Cond.instanceMethod yX7_clearBuffer ∈ AW := aT4 (List.mem_of_getElem? (i := 204) rfl) (by decide +kernel)
theorem w_717 : Cond.selects RX7 yX7_clearBuffer yX7_clearBuffer ∈ AW := aT4 (List.mem_of_getElem? (i := 205) rfl) (by decide +kernel)
theorem w_718 : Cond.code yX7_clearBuffer cX7_clearBuffer 2 (some (.int)) ∈ AW := aT4 (List.mem_of_getElem? (i := 206) rfl) (by decide +kernel)
theorem w_719 : Cond.methodLink RL 114 yX6_firstError ∈ AW := aT1 (List.mem_of_getElem? (i := 164) rfl) (by decide +kernel)
theorem w_720 : Cond.instanceMethod yX6_firstError ∈ AW := aT1 (List.mem_of_getElem? (i := 165) rfl) (by decide +kernel)
theorem w_721 : Cond.selects RX6 yX6_firstError yX6_firstError ∈ AW := aT1 (List.mem_of_getElem? (i := 166) rfl) (by decide +kernel)
theorem w_722 : Cond.code yX6_firstError cX6_firstError 1 (some (.int)) ∈ AW := aT1 (List.mem_of_getElem? (i := 167) rfl) (by decide +kernel)
theorem w_723 : Cond.methodLink RL 117 yX7_firstError ∈ AW := aT4 (List.mem_of_getElem? (i := 207) rfl) (by decide +kernel)
theorem w_724 : Cond.instanceMethod yX7_firstError ∈ AW := aT4 (List.mem_of_getElem? (i := 208) rfl) (by decide +kernel)
theorem w_725 : Cond.selects RX7 yX7_firstError yX7_firstError ∈ AW := aT4 (List.mem_of_getElem? (i := 209) rfl) (by decide +kernel)
theorem w_726 : Cond.code yX7_firstError cX7_firstError 2 (some (.int)) ∈ AW := aT4 (List.mem_of_getElem? (i := 210) rfl) (by decide +kernel)
theorem w_727 : Cond.methodLink RL 118 yL_run ∈ AW := aT3 (List.mem_of_getElem? (i := 166) rfl) (by decide +kernel)
theorem w_728 : Cond.static yL_run ∈ AW := aT3 (List.mem_of_getElem? (i := 167) rfl) (by decide +kernel)
theorem w_729 : Cond.methodLink RL 120 yX7_run ∈ AW := aT4 (List.mem_of_getElem? (i := 235) rfl) (by decide +kernel)
theorem w_730 : Cond.instanceMethod yX7_run ∈ AW := aT4 (List.mem_of_getElem? (i := 236) rfl) (by decide +kernel)
theorem w_731 : Cond.selects RX7 yX7_run yX7_run ∈ AW := aT4 (List.mem_of_getElem? (i := 237) rfl) (by decide +kernel)
theorem w_732 : Cond.code yX7_run cX7_run 2 (some (.int)) ∈ AW := aT4 (List.mem_of_getElem? (i := 238) rfl) (by decide +kernel)
theorem w_733 : Cond.methodLink RL 121 yL_keep ∈ AW := aT3 (List.mem_of_getElem? (i := 202) rfl) (by decide +kernel)
theorem w_734 : Cond.static yL_keep ∈ AW := aT3 (List.mem_of_getElem? (i := 203) rfl) (by decide +kernel)
theorem w_735 : Cond.methodLink RL 123 yX7_keep ∈ AW := aT4 (List.mem_of_getElem? (i := 239) rfl) (by decide +kernel)
theorem w_736 : Cond.instanceMethod yX7_keep ∈ AW := aT5 (List.mem_of_getElem? (i := 0) rfl) (by decide +kernel)
theorem w_737 : Cond.selects RX7 yX7_keep yX7_keep ∈ AW := aT5 (List.mem_of_getElem? (i := 1) rfl) (by decide +kernel)
theorem w_738 : Cond.code yX7_keep cX7_keep 3 (some (.int)) ∈ AW := aT5 (List.mem_of_getElem? (i := 2) rfl) (by decide +kernel)
theorem w_739 : Cond.methodLink RL 124 yL_goBack ∈ AW := aT3 (List.mem_of_getElem? (i := 212) rfl) (by decide +kernel)
theorem w_740 : Cond.static yL_goBack ∈ AW := aT3 (List.mem_of_getElem? (i := 213) rfl) (by decide +kernel)
theorem w_741 : Cond.methodLink RL 126 yX7_goBack ∈ AW := aT5 (List.mem_of_getElem? (i := 7) rfl) (by decide +kernel)
theorem w_742 : Cond.instanceMethod yX7_goBack ∈ AW := aT5 (List.mem_of_getElem? (i := 8) rfl) (by decide +kernel)
theorem w_743 : Cond.selects RX7 yX7_goBack yX7_goBack ∈ AW := aT5 (List.mem_of_getElem? (i := 9) rfl) (by decide +kernel)
theorem w_744 : Cond.code yX7_goBack cX7_goBack 3 (some (.int)) ∈ AW := aT5 (List.mem_of_getElem? (i := 10) rfl) (by decide +kernel)
theorem w_745 : Cond.methodLink RL 127 yL_undo ∈ AW := aT3 (List.mem_of_getElem? (i := 224) rfl) (by decide +kernel)
theorem w_746 : Cond.static yL_undo ∈ AW := aT3 (List.mem_of_getElem? (i := 225) rfl) (by decide +kernel)
theorem w_747 : Cond.methodLink RL 129 yX7_undo ∈ AW := aT5 (List.mem_of_getElem? (i := 11) rfl) (by decide +kernel)
theorem w_748 : Cond.instanceMethod yX7_undo ∈ AW := aT5 (List.mem_of_getElem? (i := 12) rfl) (by decide +kernel)
theorem w_749 : Cond.selects RX7 yX7_undo yX7_undo ∈ AW := aT5 (List.mem_of_getElem? (i := 13) rfl) (by decide +kernel)
theorem w_750 : Cond.code yX7_undo cX7_undo 2 (some (.int)) ∈ AW := aT5 (List.mem_of_getElem? (i := 14) rfl) (by decide +kernel)
theorem w_751 : Cond.methodLink RL 130 yL_at ∈ AW := aT3 (List.mem_of_getElem? (i := 232) rfl) (by decide +kernel)
theorem w_752 : Cond.static yL_at ∈ AW := aT3 (List.mem_of_getElem? (i := 233) rfl) (by decide +kernel)
theorem w_753 : Cond.methodLink RL 132 yX7_at ∈ AW := aT5 (List.mem_of_getElem? (i := 15) rfl) (by decide +kernel)
theorem w_754 : Cond.instanceMethod yX7_at ∈ AW := aT5 (List.mem_of_getElem? (i := 16) rfl) (by decide +kernel)
theorem w_755 : Cond.selects RX7 yX7_at yX7_at ∈ AW := aT5 (List.mem_of_getElem? (i := 17) rfl) (by decide +kernel)
theorem w_756 : Cond.code yX7_at cX7_at 3 (some (.int)) ∈ AW := aT5 (List.mem_of_getElem? (i := 18) rfl) (by decide +kernel)
theorem w_757 : Cond.methodLink RL 133 yL_lodgerOf ∈ AW := aT4 (List.mem_of_getElem? (i := 0) rfl) (by decide +kernel)
theorem w_758 : Cond.static yL_lodgerOf ∈ AW := aT4 (List.mem_of_getElem? (i := 1) rfl) (by decide +kernel)
theorem w_759 : Cond.methodLink RL 135 yX7_lodgerOf ∈ AW := aT5 (List.mem_of_getElem? (i := 19) rfl) (by decide +kernel)
theorem w_760 : Cond.instanceMethod yX7_lodgerOf ∈ AW := aT5 (List.mem_of_getElem? (i := 20) rfl) (by decide +kernel)
theorem w_761 : Cond.selects RX7 yX7_lodgerOf yX7_lodgerOf ∈ AW := aT5 (List.mem_of_getElem? (i := 21) rfl) (by decide +kernel)
theorem w_762 : Cond.code yX7_lodgerOf cX7_lodgerOf 3 (some (.int)) ∈ AW := aT5 (List.mem_of_getElem? (i := 22) rfl) (by decide +kernel)
theorem w_763 : Cond.methodLink RL 136 yL_count ∈ AW := aT4 (List.mem_of_getElem? (i := 7) rfl) (by decide +kernel)
theorem w_764 : Cond.static yL_count ∈ AW := aT4 (List.mem_of_getElem? (i := 8) rfl) (by decide +kernel)
theorem w_765 : Cond.methodLink RL 138 yX7_count ∈ AW := aT5 (List.mem_of_getElem? (i := 31) rfl) (by decide +kernel)
theorem w_766 : Cond.instanceMethod yX7_count ∈ AW := aT5 (List.mem_of_getElem? (i := 32) rfl) (by decide +kernel)
theorem w_767 : Cond.selects RX7 yX7_count yX7_count ∈ AW := aT5 (List.mem_of_getElem? (i := 33) rfl) (by decide +kernel)
theorem w_768 : Cond.code yX7_count cX7_count 2 (some (.int)) ∈ AW := aT5 (List.mem_of_getElem? (i := 34) rfl) (by decide +kernel)
theorem w_769 : Cond.methodLink RL 139 yL_refused ∈ AW := aT4 (List.mem_of_getElem? (i := 14) rfl) (by decide +kernel)
theorem w_770 : Cond.static yL_refused ∈ AW := aT4 (List.mem_of_getElem? (i := 15) rfl) (by decide +kernel)
theorem w_771 : Cond.methodLink RL 141 yX7_refused ∈ AW := aT5 (List.mem_of_getElem? (i := 43) rfl) (by decide +kernel)
theorem w_772 : Cond.instanceMethod yX7_refused ∈ AW := aT5 (List.mem_of_getElem? (i := 44) rfl) (by decide +kernel)
theorem w_773 : Cond.selects RX7 yX7_refused yX7_refused ∈ AW := aT5 (List.mem_of_getElem? (i := 45) rfl) (by decide +kernel)
theorem w_774 : Cond.code yX7_refused cX7_refused 2 (some (.int)) ∈ AW := aT5 (List.mem_of_getElem? (i := 46) rfl) (by decide +kernel)
theorem w_775 : Cond.methodLink RL 142 yL_ifAsked ∈ AW := aT4 (List.mem_of_getElem? (i := 21) rfl) (by decide +kernel)
theorem w_776 : Cond.static yL_ifAsked ∈ AW := aT4 (List.mem_of_getElem? (i := 22) rfl) (by decide +kernel)
theorem w_777 : Cond.methodLink RL 144 yX7_ifAsked ∈ AW := aT5 (List.mem_of_getElem? (i := 47) rfl) (by decide +kernel)
theorem w_778 : Cond.instanceMethod yX7_ifAsked ∈ AW := aT5 (List.mem_of_getElem? (i := 48) rfl) (by decide +kernel)
theorem w_779 : Cond.selects RX7 yX7_ifAsked yX7_ifAsked ∈ AW := aT5 (List.mem_of_getElem? (i := 49) rfl) (by decide +kernel)
theorem w_780 : Cond.code yX7_ifAsked cX7_ifAsked 4 (some (.int)) ∈ AW := aT5 (List.mem_of_getElem? (i := 50) rfl) (by decide +kernel)
theorem w_781 : Cond.methodLink RL 145 yL_ifPutOut ∈ AW := aT4 (List.mem_of_getElem? (i := 28) rfl) (by decide +kernel)
theorem w_782 : Cond.static yL_ifPutOut ∈ AW := aT4 (List.mem_of_getElem? (i := 29) rfl) (by decide +kernel)
theorem w_783 : Cond.methodLink RL 147 yX7_ifPutOut ∈ AW := aT5 (List.mem_of_getElem? (i := 55) rfl) (by decide +kernel)
theorem w_784 : Cond.instanceMethod yX7_ifPutOut ∈ AW := aT5 (List.mem_of_getElem? (i := 56) rfl) (by decide +kernel)
theorem w_785 : Cond.selects RX7 yX7_ifPutOut yX7_ifPutOut ∈ AW := aT5 (List.mem_of_getElem? (i := 57) rfl) (by decide +kernel)
theorem w_786 : Cond.code yX7_ifPutOut cX7_ifPutOut 5 (some (.int)) ∈ AW := aT5 (List.mem_of_getElem? (i := 58) rfl) (by decide +kernel)
theorem w_787 : Cond.methodLink RL 148 yL_fewestBeds ∈ AW := aT4 (List.mem_of_getElem? (i := 35) rfl) (by decide +kernel)
theorem w_788 : Cond.static yL_fewestBeds ∈ AW := aT4 (List.mem_of_getElem? (i := 36) rfl) (by decide +kernel)
theorem w_789 : Cond.methodLink RL 150 yX7_fewestBeds ∈ AW := aT5 (List.mem_of_getElem? (i := 59) rfl) (by decide +kernel)
theorem w_790 : Cond.instanceMethod yX7_fewestBeds ∈ AW := aT5 (List.mem_of_getElem? (i := 60) rfl) (by decide +kernel)
theorem w_791 : Cond.selects RX7 yX7_fewestBeds yX7_fewestBeds ∈ AW := aT5 (List.mem_of_getElem? (i := 61) rfl) (by decide +kernel)
theorem w_792 : Cond.code yX7_fewestBeds cX7_fewestBeds 2 (some (.int)) ∈ AW := aT5 (List.mem_of_getElem? (i := 62) rfl) (by decide +kernel)
theorem w_793 : Cond.methodLink RL 151 yL_longest ∈ AW := aT4 (List.mem_of_getElem? (i := 42) rfl) (by decide +kernel)
theorem w_794 : Cond.static yL_longest ∈ AW := aT4 (List.mem_of_getElem? (i := 43) rfl) (by decide +kernel)
theorem w_795 : Cond.methodLink RL 153 yX7_longest ∈ AW := aT5 (List.mem_of_getElem? (i := 67) rfl) (by decide +kernel)
theorem w_796 : Cond.instanceMethod yX7_longest ∈ AW := aT5 (List.mem_of_getElem? (i := 68) rfl) (by decide +kernel)
theorem w_797 : Cond.selects RX7 yX7_longest yX7_longest ∈ AW := aT5 (List.mem_of_getElem? (i := 69) rfl) (by decide +kernel)
theorem w_798 : Cond.code yX7_longest cX7_longest 3 (some (.int)) ∈ AW := aT5 (List.mem_of_getElem? (i := 70) rfl) (by decide +kernel)
theorem w_799 : Cond.methodLink RL 154 yX6_poorest ∈ AW := aT1 (List.mem_of_getElem? (i := 182) rfl) (by decide +kernel)
theorem w_800 : Cond.instanceMethod yX6_poorest ∈ AW := aT1 (List.mem_of_getElem? (i := 183) rfl) (by decide +kernel)
theorem w_801 : Cond.selects RX6 yX6_poorest yX6_poorest ∈ AW := aT1 (List.mem_of_getElem? (i := 184) rfl) (by decide +kernel)
theorem w_802 : Cond.code yX6_poorest cX6_poorest 1 (some (.int)) ∈ AW := aT1 (List.mem_of_getElem? (i := 185) rfl) (by decide +kernel)
theorem w_803 : Cond.methodLink RL 157 yX7_poorest ∈ AW := aT5 (List.mem_of_getElem? (i := 75) rfl) (by decide +kernel)
theorem w_804 : Cond.instanceMethod yX7_poorest ∈ AW := aT5 (List.mem_of_getElem? (i := 76) rfl) (by decide +kernel)
theorem w_805 : Cond.selects RX7 yX7_poorest yX7_poorest ∈ AW := aT5 (List.mem_of_getElem? (i := 77) rfl) (by decide +kernel)
theorem w_806 : Cond.code yX7_poorest cX7_poorest 1 (some (.int)) ∈ AW := aT5 (List.mem_of_getElem? (i := 78) rfl) (by decide +kernel)
theorem w_807 : Cond.methodLink RL 158 yX6_fullness ∈ AW := aT1 (List.mem_of_getElem? (i := 198) rfl) (by decide +kernel)
theorem w_808 : Cond.instanceMethod yX6_fullness ∈ AW := aT1 (List.mem_of_getElem? (i := 199) rfl) (by decide +kernel)
theorem w_809 : Cond.selects RX6 yX6_fullness yX6_fullness ∈ AW := aT1 (List.mem_of_getElem? (i := 200) rfl) (by decide +kernel)
theorem w_810 : Cond.code yX6_fullness cX6_fullness 1 (some (.double)) ∈ AW := aT1 (List.mem_of_getElem? (i := 201) rfl) (by decide +kernel)
theorem w_811 : Cond.methodLink RL 162 yX7_fullness ∈ AW := aT5 (List.mem_of_getElem? (i := 83) rfl) (by decide +kernel)
theorem w_812 : Cond.instanceMethod yX7_fullness ∈ AW := aT5 (List.mem_of_getElem? (i := 84) rfl) (by decide +kernel)
theorem w_813 : Cond.selects RX7 yX7_fullness yX7_fullness ∈ AW := aT5 (List.mem_of_getElem? (i := 85) rfl) (by decide +kernel)
theorem w_814 : Cond.code yX7_fullness cX7_fullness 1 (some (.double)) ∈ AW := aT5 (List.mem_of_getElem? (i := 86) rfl) (by decide +kernel)
theorem w_815 : Cond.methodLink RL 163 yX6_digest ∈ AW := aT1 (List.mem_of_getElem? (i := 216) rfl) (by decide +kernel)
theorem w_816 : Cond.instanceMethod yX6_digest ∈ AW := aT1 (List.mem_of_getElem? (i := 217) rfl) (by decide +kernel)
theorem w_817 : Cond.selects RX6 yX6_digest yX6_digest ∈ AW := aT1 (List.mem_of_getElem? (i := 218) rfl) (by decide +kernel)
theorem w_818 : Cond.code yX6_digest cX6_digest 4 (some (.long)) ∈ AW := aT1 (List.mem_of_getElem? (i := 219) rfl) (by decide +kernel)
theorem w_819 : Cond.methodLink RL 167 yX7_digest ∈ AW := aT5 (List.mem_of_getElem? (i := 92) rfl) (by decide +kernel)
theorem w_820 : Cond.instanceMethod yX7_digest ∈ AW := aT5 (List.mem_of_getElem? (i := 93) rfl) (by decide +kernel)
theorem w_821 : Cond.selects RX7 yX7_digest yX7_digest ∈ AW := aT5 (List.mem_of_getElem? (i := 94) rfl) (by decide +kernel)
theorem w_822 : Cond.code yX7_digest cX7_digest 2 (some (.long)) ∈ AW := aT5 (List.mem_of_getElem? (i := 95) rfl) (by decide +kernel)
theorem w_823 : Cond.laysFinal RX0 "SevenAsks$AskingText" "signs" "[I" ∈ AW := aT1 (List.mem_of_getElem? (i := 129) rfl) (by decide +kernel)
theorem w_824 : Cond.lays RX0 "SevenAsks$AskingText" "size" "I" ∈ AW := aT1 (List.mem_of_getElem? (i := 131) rfl) (by decide +kernel)
theorem w_825 : Cond.laysFinal RX1 "SevenAsks$BedLaying" "busyUntil" "[I" ∈ AW := aT1 (List.mem_of_getElem? (i := 118) rfl) (by decide +kernel)
theorem w_826 : Cond.laysFinal RX2 "SevenAsks$Grid" "rows" "I" ∈ AW := aT1 (List.mem_of_getElem? (i := 51) rfl) (by decide +kernel)
theorem w_827 : Cond.laysFinal RX2 "SevenAsks$Grid" "columns" "I" ∈ AW := aT1 (List.mem_of_getElem? (i := 53) rfl) (by decide +kernel)
theorem w_828 : Cond.laysFinal RX2 "SevenAsks$Grid" "numbers" "[I" ∈ AW := aT1 (List.mem_of_getElem? (i := 55) rfl) (by decide +kernel)
theorem w_829 : Cond.laysFinal RX3 "SevenAsks$House" "night" "LSevenAsks$Night;" ∈ AW := aT1 (List.mem_of_getElem? (i := 84) rfl) (by decide +kernel)
theorem w_830 : Cond.laysFinal RX3 "SevenAsks$House" "lodgers" "LSevenAsks$Grid;" ∈ AW := aT1 (List.mem_of_getElem? (i := 86) rfl) (by decide +kernel)
theorem w_831 : Cond.laysFinal RX3 "SevenAsks$House" "accounts" "LSevenAsks$Grid;" ∈ AW := aT1 (List.mem_of_getElem? (i := 88) rfl) (by decide +kernel)
theorem w_832 : Cond.laysFinal RX3 "SevenAsks$House" "reasons" "LSevenAsks$Grid;" ∈ AW := aT1 (List.mem_of_getElem? (i := 90) rfl) (by decide +kernel)
theorem w_833 : Cond.laysFinal RX4 "SevenAsks$Night" "holders" "LSevenAsks$Grid;" ∈ AW := aT1 (List.mem_of_getElem? (i := 68) rfl) (by decide +kernel)
theorem w_834 : Cond.lays RX4 "SevenAsks$Night" "gone" "I" ∈ AW := aT1 (List.mem_of_getElem? (i := 70) rfl) (by decide +kernel)
theorem w_835 : Cond.laysFinal RX5 "SevenAsks$Shelf" "houses" "[LSevenAsks$House;" ∈ AW := aT1 (List.mem_of_getElem? (i := 105) rfl) (by decide +kernel)
theorem w_836 : Cond.laysFinal RX5 "SevenAsks$Shelf" "filled" "[Z" ∈ AW := aT1 (List.mem_of_getElem? (i := 107) rfl) (by decide +kernel)
theorem w_837 : Cond.laysFinal RX6 "SevenAsks" "house" "LSevenAsks$House;" ∈ AW := aT1 (List.mem_of_getElem? (i := 141) rfl) (by decide +kernel)
theorem w_838 : Cond.laysFinal RX6 "SevenAsks" "slots" "LSevenAsks$Shelf;" ∈ AW := aT1 (List.mem_of_getElem? (i := 143) rfl) (by decide +kernel)
theorem w_839 : Cond.laysFinal RX6 "SevenAsks" "saved" "LSevenAsks$Shelf;" ∈ AW := aT1 (List.mem_of_getElem? (i := 145) rfl) (by decide +kernel)
theorem w_840 : Cond.laysFinal RX6 "SevenAsks" "laying" "LSevenAsks$BedLaying;" ∈ AW := aT1 (List.mem_of_getElem? (i := 147) rfl) (by decide +kernel)
theorem w_841 : Cond.laysFinal RX6 "SevenAsks" "text" "LSevenAsks$AskingText;" ∈ AW := aT1 (List.mem_of_getElem? (i := 149) rfl) (by decide +kernel)
theorem w_842 : Cond.lays RX6 "SevenAsks" "savedCount" "I" ∈ AW := aT1 (List.mem_of_getElem? (i := 151) rfl) (by decide +kernel)
theorem w_843 : Cond.lays RX6 "SevenAsks" "nextSaved" "I" ∈ AW := aT1 (List.mem_of_getElem? (i := 153) rfl) (by decide +kernel)
theorem w_844 : Cond.lays RX7 "SevenAsksModel" "thrown" "I" ∈ AW := aT4 (List.mem_of_getElem? (i := 74) rfl) (by decide +kernel)
theorem w_845 : Cond.laysFinal RX7 "SevenAsksModel" "s" "[I" ∈ AW := aT4 (List.mem_of_getElem? (i := 76) rfl) (by decide +kernel)
theorem w_846 : Cond.laysFinal RX7 "SevenAsksModel" "aside" "[I" ∈ AW := aT4 (List.mem_of_getElem? (i := 78) rfl) (by decide +kernel)
theorem w_847 : Cond.laysFinal RX7 "SevenAsksModel" "saved" "[I" ∈ AW := aT4 (List.mem_of_getElem? (i := 80) rfl) (by decide +kernel)
theorem w_848 : Cond.lays RX7 "SevenAsksModel" "savedMany" "I" ∈ AW := aT4 (List.mem_of_getElem? (i := 82) rfl) (by decide +kernel)
theorem w_849 : Cond.laysFinal RX7 "SevenAsksModel" "slots" "[I" ∈ AW := aT4 (List.mem_of_getElem? (i := 84) rfl) (by decide +kernel)
theorem w_850 : Cond.lays RX7 "SevenAsksModel" "kept" "I" ∈ AW := aT4 (List.mem_of_getElem? (i := 86) rfl) (by decide +kernel)
theorem w_851 : Cond.laysFinal RX7 "SevenAsksModel" "text" "[I" ∈ AW := aT4 (List.mem_of_getElem? (i := 88) rfl) (by decide +kernel)
theorem w_852 : Cond.lays RX7 "SevenAsksModel" "length" "I" ∈ AW := aT4 (List.mem_of_getElem? (i := 90) rfl) (by decide +kernel)
theorem w_853 : Cond.lays RX7 "SevenAsksModel" "wereOut" "I" ∈ AW := aT4 (List.mem_of_getElem? (i := 92) rfl) (by decide +kernel)
theorem w_854 : Cond.lays RX7 "SevenAsksModel" "spot" "I" ∈ AW := aT4 (List.mem_of_getElem? (i := 94) rfl) (by decide +kernel)
theorem w_855 : Cond.lays RX7 "SevenAsksModel" "isWrong" "Z" ∈ AW := aT4 (List.mem_of_getElem? (i := 96) rfl) (by decide +kernel)
theorem w_856 : Cond.lays RX7 "SevenAsksModel" "asker" "I" ∈ AW := aT4 (List.mem_of_getElem? (i := 98) rfl) (by decide +kernel)
theorem w_857 : Cond.lays RX7 "SevenAsksModel" "askedFirst" "I" ∈ AW := aT4 (List.mem_of_getElem? (i := 100) rfl) (by decide +kernel)
theorem w_858 : Cond.lays RX7 "SevenAsksModel" "askedHours" "I" ∈ AW := aT4 (List.mem_of_getElem? (i := 102) rfl) (by decide +kernel)
theorem w_859 : Cond.lays RX7 "SevenAsksModel" "digested" "J" ∈ AW := aT4 (List.mem_of_getElem? (i := 104) rfl) (by decide +kernel)
theorem kd0 {G : gT} {i : Nat} (H : CL G) (h : KD G i 0) : KD G (i + 1) 8 := by
  have hL := H i h.1
  have g0 : ∀ i, i < 108 → kd i = 0 → kd (i + 1) = 8 := by decide +kernel
  have g := g0 i hL.1 h.2
  exact ⟨(hL.2.1 h.2), g⟩
theorem kd1 {G : gT} {i : Nat} (H : CL G) (h : KD G i 1) : KD G (i + 1) 8 := by
  have hL := H i h.1
  have g0 : ∀ i, i < 108 → kd i = 1 → kd (i + 1) = 8 := by decide +kernel
  have g := g0 i hL.1 h.2
  exact ⟨(hL.2.2.1 h.2), g⟩
theorem kd2 {G : gT} {i : Nat} (H : CL G) (h : KD G i 2) : KD G (i + 1) 8 := by
  have hL := H i h.1
  have g0 : ∀ i, i < 108 → kd i = 2 → kd (i + 1) = 8 := by decide +kernel
  have g := g0 i hL.1 h.2
  exact ⟨(hL.2.2.2.1 h.2), g⟩
theorem kd3 {G : gT} {i : Nat} (H : CL G) (h : KD G i 3) : KD G (i + 1) 4 ∧ KD G (i + 4) 2 ∧ KD G (i + 6) 2 ∧ KD G (i + 8) 2 := by
  have hL := H i h.1
  have g0 : ∀ i, i < 108 → kd i = 3 → kd (i + 1) = 4 ∧ kd (i + 4) = 2 ∧ kd (i + 6) = 2 ∧ kd (i + 8) = 2 := by decide +kernel
  have g := g0 i hL.1 h.2
  exact ⟨⟨(hL.2.2.2.2.1 h.2).1, g.1⟩, ⟨(hL.2.2.2.2.1 h.2).2.1, g.2.1⟩, ⟨(hL.2.2.2.2.1 h.2).2.2.1, g.2.2.1⟩, ⟨(hL.2.2.2.2.1 h.2).2.2.2, g.2.2.2⟩⟩
theorem kd4 {G : gT} {i : Nat} (H : CL G) (h : KD G i 4) : KD G (i + 1) 2 := by
  have hL := H i h.1
  have g0 : ∀ i, i < 108 → kd i = 4 → kd (i + 1) = 2 := by decide +kernel
  have g := g0 i hL.1 h.2
  exact ⟨(hL.2.2.2.2.2.1 h.2), g⟩
theorem kd5 {G : gT} {i : Nat} (H : CL G) (h : KD G i 5) : KD G (i + 1) 10 ∧ KD G (i + 2) 9 := by
  have hL := H i h.1
  have g0 : ∀ i, i < 108 → kd i = 5 → kd (i + 1) = 10 ∧ kd (i + 2) = 9 := by decide +kernel
  have g := g0 i hL.1 h.2
  exact ⟨⟨(hL.2.2.2.2.2.2.1 h.2).1, g.1⟩, ⟨(hL.2.2.2.2.2.2.1 h.2).2, g.2⟩⟩
theorem kd6 {G : gT} {i : Nat} (H : CL G) (h : KD G i 6) : KD G (i + 1) 3 ∧ KD G (i + 11) 5 ∧ KD G (i + 34) 5 ∧ KD G (i + 97) 1 ∧ KD G (i + 99) 0 := by
  have hL := H i h.1
  have g0 : ∀ i, i < 108 → kd i = 6 → kd (i + 1) = 3 ∧ kd (i + 11) = 5 ∧ kd (i + 34) = 5 ∧ kd (i + 97) = 1 ∧ kd (i + 99) = 0 := by decide +kernel
  have g := g0 i hL.1 h.2
  exact ⟨⟨(hL.2.2.2.2.2.2.2.1 h.2).1, g.1⟩, ⟨(hL.2.2.2.2.2.2.2.1 h.2).2.1, g.2.1⟩, ⟨(hL.2.2.2.2.2.2.2.1 h.2).2.2.1, g.2.2.1⟩, ⟨(hL.2.2.2.2.2.2.2.1 h.2).2.2.2.1, g.2.2.2.1⟩, ⟨(hL.2.2.2.2.2.2.2.1 h.2).2.2.2.2, g.2.2.2.2⟩⟩
theorem kd7 {G : gT} {i : Nat} (H : CL G) (h : KD G i 7) : KD G (i + 1) 8 ∧ KD G (i + 2) 8 ∧ KD G (i + 3) 8 ∧ KD G (i + 4) 8 ∧ KD G (i + 5) 8 := by
  have hL := H i h.1
  have g0 : ∀ i, i < 108 → kd i = 7 → kd (i + 1) = 8 ∧ kd (i + 2) = 8 ∧ kd (i + 3) = 8 ∧ kd (i + 4) = 8 ∧ kd (i + 5) = 8 := by decide +kernel
  have g := g0 i hL.1 h.2
  exact ⟨⟨(hL.2.2.2.2.2.2.2.2.1 h.2).1, g.1⟩, ⟨(hL.2.2.2.2.2.2.2.2.1 h.2).2.1, g.2.1⟩, ⟨(hL.2.2.2.2.2.2.2.2.1 h.2).2.2.1, g.2.2.1⟩, ⟨(hL.2.2.2.2.2.2.2.2.1 h.2).2.2.2.1, g.2.2.2.1⟩, ⟨(hL.2.2.2.2.2.2.2.2.1 h.2).2.2.2.2, g.2.2.2.2⟩⟩
theorem kd10 {G : gT} {i : Nat} (H : CL G) (h : KD G i 10) {j : Int32} (hj : ¬ (j < 0 ∨ ln i ≤ j.toNatClampNeg)) : KD G (i + 2 + 10 * j.toNatClampNeg) 3 := by
  have hL := H i h.1
  have h2 : ∀ i, i < 108 → kd i = 10 → ∀ k, k < ln i → kd (i + 2 + 10 * k) = 3 := by decide +kernel
  have h3 := Nat.not_le.mp fun q => hj (Or.inr q)
  exact ⟨hL.2.2.2.2.2.2.2.2.2 h.2 _ h3, h2 i hL.1 h.2 _ h3⟩
theorem inA0 : ∀ w ∈ u_ws RX0 TX0 2, w ∈ AW := by
  intro w hw
  obtain ⟨k, hk, rfl⟩ := List.mem_map.mp hw
  have hk := List.mem_range.mp hk
  rcases (show k = 0 ∨ k = 1 by omega) with rfl | rfl
  · exact w_823
  · exact w_824
theorem inA1 : ∀ w ∈ u_ws RX1 TX1 1, w ∈ AW := by
  intro w hw
  obtain ⟨k, hk, rfl⟩ := List.mem_map.mp hw
  have hk := List.mem_range.mp hk
  rcases (show k = 0 by omega) with rfl
  · exact w_825
theorem inA2 : ∀ w ∈ u_ws RX2 TX2 3, w ∈ AW := by
  intro w hw
  obtain ⟨k, hk, rfl⟩ := List.mem_map.mp hw
  have hk := List.mem_range.mp hk
  rcases (show k = 0 ∨ k = 1 ∨ k = 2 by omega) with rfl | rfl | rfl
  · exact w_826
  · exact w_827
  · exact w_828
theorem inA3 : ∀ w ∈ u_ws RX3 TX3 4, w ∈ AW := by
  intro w hw
  obtain ⟨k, hk, rfl⟩ := List.mem_map.mp hw
  have hk := List.mem_range.mp hk
  rcases (show k = 0 ∨ k = 1 ∨ k = 2 ∨ k = 3 by omega) with rfl | rfl | rfl | rfl
  · exact w_829
  · exact w_830
  · exact w_831
  · exact w_832
theorem inA4 : ∀ w ∈ u_ws RX4 TX4 2, w ∈ AW := by
  intro w hw
  obtain ⟨k, hk, rfl⟩ := List.mem_map.mp hw
  have hk := List.mem_range.mp hk
  rcases (show k = 0 ∨ k = 1 by omega) with rfl | rfl
  · exact w_833
  · exact w_834
theorem inA5 : ∀ w ∈ u_ws RX5 TX5 2, w ∈ AW := by
  intro w hw
  obtain ⟨k, hk, rfl⟩ := List.mem_map.mp hw
  have hk := List.mem_range.mp hk
  rcases (show k = 0 ∨ k = 1 by omega) with rfl | rfl
  · exact w_835
  · exact w_836
theorem inA6 : ∀ w ∈ u_ws RX6 TX6 7, w ∈ AW := by
  intro w hw
  obtain ⟨k, hk, rfl⟩ := List.mem_map.mp hw
  have hk := List.mem_range.mp hk
  rcases (show k = 0 ∨ k = 1 ∨ k = 2 ∨ k = 3 ∨ k = 4 ∨ k = 5 ∨ k = 6 by omega) with rfl | rfl | rfl | rfl | rfl | rfl | rfl
  · exact w_837
  · exact w_838
  · exact w_839
  · exact w_840
  · exact w_841
  · exact w_842
  · exact w_843
theorem inA7 : ∀ w ∈ u_ws RX7 TX7 16, w ∈ AW := by
  intro w hw
  obtain ⟨k, hk, rfl⟩ := List.mem_map.mp hw
  have hk := List.mem_range.mp hk
  rcases (show k = 0 ∨ k = 1 ∨ k = 2 ∨ k = 3 ∨ k = 4 ∨ k = 5 ∨ k = 6 ∨ k = 7 ∨ k = 8 ∨ k = 9 ∨ k = 10 ∨ k = 11 ∨ k = 12 ∨ k = 13 ∨ k = 14 ∨ k = 15 by omega) with rfl | rfl | rfl | rfl | rfl | rfl | rfl | rfl | rfl | rfl | rfl | rfl | rfl | rfl | rfl | rfl
  · exact w_844
  · exact w_845
  · exact w_846
  · exact w_847
  · exact w_848
  · exact w_849
  · exact w_850
  · exact w_851
  · exact w_852
  · exact w_853
  · exact w_854
  · exact w_855
  · exact w_856
  · exact w_857
  · exact w_858
  · exact w_859
theorem tsw5 {v : Int32} (h0 : ¬ v = 0) (h1 : ¬ v = 1) (h2 : ¬ v = 2) (h3 : ¬ v = 3) (h4 : ¬ v = 4) : v.toInt < 0 ∨ 4 < v.toInt := by
  by_cases q : v.toInt < 0 ∨ 4 < v.toInt
  · exact q
  · exfalso
    rcases (show v.toInt = 0 ∨ v.toInt = 1 ∨ v.toInt = 2 ∨ v.toInt = 3 ∨ v.toInt = 4 by omega) with g | g | g | g | g
    · exact h0 (Int32.toInt_inj.mp g)
    · exact h1 (Int32.toInt_inj.mp g)
    · exact h2 (Int32.toInt_inj.mp g)
    · exact h3 (Int32.toInt_inj.mp g)
    · exact h4 (Int32.toInt_inj.mp g)
theorem tsw11 {v : Int32} (h0 : ¬ v = 0) (h1 : ¬ v = 1) (h2 : ¬ v = 2) (h3 : ¬ v = 3) (h4 : ¬ v = 4) (h5 : ¬ v = 5) (h6 : ¬ v = 6) (h7 : ¬ v = 7) (h8 : ¬ v = 8) (h9 : ¬ v = 9) (h10 : ¬ v = 10) : v.toInt < 0 ∨ 10 < v.toInt := by
  by_cases q : v.toInt < 0 ∨ 10 < v.toInt
  · exact q
  · exfalso
    rcases (show v.toInt = 0 ∨ v.toInt = 1 ∨ v.toInt = 2 ∨ v.toInt = 3 ∨ v.toInt = 4 ∨ v.toInt = 5 ∨ v.toInt = 6 ∨ v.toInt = 7 ∨ v.toInt = 8 ∨ v.toInt = 9 ∨ v.toInt = 10 by omega) with g | g | g | g | g | g | g | g | g | g | g
    · exact h0 (Int32.toInt_inj.mp g)
    · exact h1 (Int32.toInt_inj.mp g)
    · exact h2 (Int32.toInt_inj.mp g)
    · exact h3 (Int32.toInt_inj.mp g)
    · exact h4 (Int32.toInt_inj.mp g)
    · exact h5 (Int32.toInt_inj.mp g)
    · exact h6 (Int32.toInt_inj.mp g)
    · exact h7 (Int32.toInt_inj.mp g)
    · exact h8 (Int32.toInt_inj.mp g)
    · exact h9 (Int32.toInt_inj.mp g)
    · exact h10 (Int32.toInt_inj.mp g)
theorem tsw24 {v : Int32} (h0 : ¬ v = 0) (h1 : ¬ v = 1) (h2 : ¬ v = 2) (h3 : ¬ v = 3) (h4 : ¬ v = 4) (h5 : ¬ v = 5) (h6 : ¬ v = 6) (h7 : ¬ v = 7) (h8 : ¬ v = 8) (h9 : ¬ v = 9) (h10 : ¬ v = 10) (h11 : ¬ v = 11) (h12 : ¬ v = 12) (h13 : ¬ v = 13) (h14 : ¬ v = 14) (h15 : ¬ v = 15) (h16 : ¬ v = 16) (h17 : ¬ v = 17) (h18 : ¬ v = 18) (h19 : ¬ v = 19) (h20 : ¬ v = 20) (h21 : ¬ v = 21) (h22 : ¬ v = 22) (h23 : ¬ v = 23) : v.toInt < 0 ∨ 23 < v.toInt := by
  by_cases q : v.toInt < 0 ∨ 23 < v.toInt
  · exact q
  · exfalso
    rcases (show v.toInt = 0 ∨ v.toInt = 1 ∨ v.toInt = 2 ∨ v.toInt = 3 ∨ v.toInt = 4 ∨ v.toInt = 5 ∨ v.toInt = 6 ∨ v.toInt = 7 ∨ v.toInt = 8 ∨ v.toInt = 9 ∨ v.toInt = 10 ∨ v.toInt = 11 ∨ v.toInt = 12 ∨ v.toInt = 13 ∨ v.toInt = 14 ∨ v.toInt = 15 ∨ v.toInt = 16 ∨ v.toInt = 17 ∨ v.toInt = 18 ∨ v.toInt = 19 ∨ v.toInt = 20 ∨ v.toInt = 21 ∨ v.toInt = 22 ∨ v.toInt = 23 by omega) with g | g | g | g | g | g | g | g | g | g | g | g | g | g | g | g | g | g | g | g | g | g | g | g
    · exact h0 (Int32.toInt_inj.mp g)
    · exact h1 (Int32.toInt_inj.mp g)
    · exact h2 (Int32.toInt_inj.mp g)
    · exact h3 (Int32.toInt_inj.mp g)
    · exact h4 (Int32.toInt_inj.mp g)
    · exact h5 (Int32.toInt_inj.mp g)
    · exact h6 (Int32.toInt_inj.mp g)
    · exact h7 (Int32.toInt_inj.mp g)
    · exact h8 (Int32.toInt_inj.mp g)
    · exact h9 (Int32.toInt_inj.mp g)
    · exact h10 (Int32.toInt_inj.mp g)
    · exact h11 (Int32.toInt_inj.mp g)
    · exact h12 (Int32.toInt_inj.mp g)
    · exact h13 (Int32.toInt_inj.mp g)
    · exact h14 (Int32.toInt_inj.mp g)
    · exact h15 (Int32.toInt_inj.mp g)
    · exact h16 (Int32.toInt_inj.mp g)
    · exact h17 (Int32.toInt_inj.mp g)
    · exact h18 (Int32.toInt_inj.mp g)
    · exact h19 (Int32.toInt_inj.mp g)
    · exact h20 (Int32.toInt_inj.mp g)
    · exact h21 (Int32.toInt_inj.mp g)
    · exact h22 (Int32.toInt_inj.mp g)
    · exact h23 (Int32.toInt_inj.mp g)
section
variable {p : Program} {l : Launch} {e : Env} {R : Room} {s : State} {m : MethodId} {args : Array Value} {below : List Frame} {meth : Method} {c : Code} {nL : Nat} {G : gT} {A : Nat → Prop} {Q : State → Prop} {k n pc : Nat} {lv : List (Nat × Value)} {st : List Value} {x : xS} {cc : ByteArray} {own : String} {ret : Option FieldType}
theorem gfX0_15 (C : CT p s m args meth c cc nL RX0 ret G A) {i : Nat} (hk : KD G i 0) (hd : decode cc pc = .ok (.getfield 15, 3)) (kk : WB p l e R s m args below meth c nL G A Q k n (pc + 3) lv (.int (x.1 i 1) :: st) x) : WB p l e R s m args below meth c nL G A Q k n pc lv (.ref (G.2.2 i) :: st) x := b_getf (K := 0) (q := 1) C hk (by decide) rfl inA0 (by decide) w_3 rfl rfl hd kk
theorem gfX0_9 (C : CT p s m args meth c cc nL RX0 ret G A) {i : Nat} (hk : KD G i 0) (hd : decode cc pc = .ok (.getfield 9, 3)) (kk : WB p l e R s m args below meth c nL G A Q k n (pc + 3) lv (.ref (G.2.2 (i + 1)) :: st) x) : WB p l e R s m args below meth c nL G A Q k n pc lv (.ref (G.2.2 i) :: st) x := b_getf (K := 0) (q := 0) C hk (by decide) rfl inA0 (by decide) w_4 rfl rfl hd kk
theorem pfX0_15 (C : CT p s m args meth c cc nL RX0 ret G A) {i : Nat} (hk : KD G i 0) {v : Int32} {y : xS} (hd : decode cc pc = .ok (.putfield 15, 3)) (hy : up1 x i 1 v = y) (kk : WB p l e R s m args below meth c nL G A Q k n (pc + 3) lv (st) y) : WB p l e R s m args below meth c nL G A Q k n pc lv (.int v :: .ref (G.2.2 i) :: st) x := by
  subst hy
  exact b_put (y := up1 x i 1 v) (K := 0) (q := 1) (ty := .int) C hk (by decide) rfl inA0 tyX0_ok nmX0 (by decide) w_3 rfl rfl (by decide +kernel) rfl rfl (by simp [gF]) hd (by simp [gF, up1, up2, upR, upd, vp_updL]) (fun j hj => (upR_other x _ hj).symm) (fun _ _ => rfl) kk
theorem gfX1_9 (C : CT p s m args meth c cc nL RX1 ret G A) {i : Nat} (hk : KD G i 1) (hd : decode cc pc = .ok (.getfield 9, 3)) (kk : WB p l e R s m args below meth c nL G A Q k n (pc + 3) lv (.ref (G.2.2 (i + 1)) :: st) x) : WB p l e R s m args below meth c nL G A Q k n pc lv (.ref (G.2.2 i) :: st) x := b_getf (K := 1) (q := 0) C hk (by decide) rfl inA1 (by decide) w_16 rfl rfl hd kk
theorem gfX4_14 (C : CT p s m args meth c cc nL RX4 ret G A) {i : Nat} (hk : KD G i 4) (hd : decode cc pc = .ok (.getfield 14, 3)) (kk : WB p l e R s m args below meth c nL G A Q k n (pc + 3) lv (.ref (G.2.2 (i + 1)) :: st) x) : WB p l e R s m args below meth c nL G A Q k n pc lv (.ref (G.2.2 i) :: st) x := b_getf (K := 4) (q := 0) C hk (by decide) rfl inA4 (by decide) w_21 rfl rfl hd kk
theorem gfX2_15 (C : CT p s m args meth c cc nL RX2 ret G A) {i : Nat} (hk : KD G i 2) (hd : decode cc pc = .ok (.getfield 15, 3)) (kk : WB p l e R s m args below meth c nL G A Q k n (pc + 3) lv (.int (gR i) :: st) x) : WB p l e R s m args below meth c nL G A Q k n pc lv (.ref (G.2.2 i) :: st) x := b_getf (K := 2) (q := 0) C hk (by decide) rfl inA2 (by decide) w_22 rfl rfl hd kk
theorem gfX2_21 (C : CT p s m args meth c cc nL RX2 ret G A) {i : Nat} (hk : KD G i 2) (hd : decode cc pc = .ok (.getfield 21, 3)) (kk : WB p l e R s m args below meth c nL G A Q k n (pc + 3) lv (.int (gC i) :: st) x) : WB p l e R s m args below meth c nL G A Q k n pc lv (.ref (G.2.2 i) :: st) x := b_getf (K := 2) (q := 1) C hk (by decide) rfl inA2 (by decide) w_23 rfl rfl hd kk
theorem gfX2_24 (C : CT p s m args meth c cc nL RX2 ret G A) {i : Nat} (hk : KD G i 2) (hd : decode cc pc = .ok (.getfield 24, 3)) (kk : WB p l e R s m args below meth c nL G A Q k n (pc + 3) lv (.ref (G.2.2 (i + 1)) :: st) x) : WB p l e R s m args below meth c nL G A Q k n pc lv (.ref (G.2.2 i) :: st) x := b_getf (K := 2) (q := 2) C hk (by decide) rfl inA2 (by decide) w_24 rfl rfl hd kk
theorem gfX3_27 (C : CT p s m args meth c cc nL RX3 ret G A) {i : Nat} (hk : KD G i 3) (hd : decode cc pc = .ok (.getfield 27, 3)) (kk : WB p l e R s m args below meth c nL G A Q k n (pc + 3) lv (.ref (G.2.2 (i + 6)) :: st) x) : WB p l e R s m args below meth c nL G A Q k n pc lv (.ref (G.2.2 i) :: st) x := b_getf (K := 3) (q := 2) C hk (by decide) rfl inA3 (by decide) w_58 rfl rfl hd kk
theorem gfX3_12 (C : CT p s m args meth c cc nL RX3 ret G A) {i : Nat} (hk : KD G i 3) (hd : decode cc pc = .ok (.getfield 12, 3)) (kk : WB p l e R s m args below meth c nL G A Q k n (pc + 3) lv (.ref (G.2.2 (i + 1)) :: st) x) : WB p l e R s m args below meth c nL G A Q k n pc lv (.ref (G.2.2 i) :: st) x := b_getf (K := 3) (q := 0) C hk (by decide) rfl inA3 (by decide) w_60 rfl rfl hd kk
theorem gfX4_28 (C : CT p s m args meth c cc nL RX4 ret G A) {i : Nat} (hk : KD G i 4) (hd : decode cc pc = .ok (.getfield 28, 3)) (kk : WB p l e R s m args below meth c nL G A Q k n (pc + 3) lv (.int (x.1 i 1) :: st) x) : WB p l e R s m args below meth c nL G A Q k n pc lv (.ref (G.2.2 i) :: st) x := b_getf (K := 4) (q := 1) C hk (by decide) rfl inA4 (by decide) w_69 rfl rfl hd kk
theorem gfX3_23 (C : CT p s m args meth c cc nL RX3 ret G A) {i : Nat} (hk : KD G i 3) (hd : decode cc pc = .ok (.getfield 23, 3)) (kk : WB p l e R s m args below meth c nL G A Q k n (pc + 3) lv (.ref (G.2.2 (i + 4)) :: st) x) : WB p l e R s m args below meth c nL G A Q k n pc lv (.ref (G.2.2 i) :: st) x := b_getf (K := 3) (q := 1) C hk (by decide) rfl inA3 (by decide) w_86 rfl rfl hd kk
theorem pfX4_28 (C : CT p s m args meth c cc nL RX4 ret G A) {i : Nat} (hk : KD G i 4) {v : Int32} {y : xS} (hd : decode cc pc = .ok (.putfield 28, 3)) (hy : up1 x i 1 v = y) (kk : WB p l e R s m args below meth c nL G A Q k n (pc + 3) lv (st) y) : WB p l e R s m args below meth c nL G A Q k n pc lv (.int v :: .ref (G.2.2 i) :: st) x := by
  subst hy
  exact b_put (y := up1 x i 1 v) (K := 4) (q := 1) (ty := .int) C hk (by decide) rfl inA4 tyX4_ok nmX4 (by decide) w_69 rfl rfl (by decide +kernel) rfl rfl (by simp [gF]) hd (by simp [gF, up1, up2, upR, upd, vp_updL]) (fun j hj => (upR_other x _ hj).symm) (fun _ _ => rfl) kk
theorem gfX3_30 (C : CT p s m args meth c cc nL RX3 ret G A) {i : Nat} (hk : KD G i 3) (hd : decode cc pc = .ok (.getfield 30, 3)) (kk : WB p l e R s m args below meth c nL G A Q k n (pc + 3) lv (.ref (G.2.2 (i + 8)) :: st) x) : WB p l e R s m args below meth c nL G A Q k n pc lv (.ref (G.2.2 i) :: st) x := b_getf (K := 3) (q := 3) C hk (by decide) rfl inA3 (by decide) w_115 rfl rfl hd kk
theorem gfX5_15 (C : CT p s m args meth c cc nL RX5 ret G A) {i : Nat} (hk : KD G i 5) (hd : decode cc pc = .ok (.getfield 15, 3)) (kk : WB p l e R s m args below meth c nL G A Q k n (pc + 3) lv (.ref (G.2.2 (i + 1)) :: st) x) : WB p l e R s m args below meth c nL G A Q k n pc lv (.ref (G.2.2 i) :: st) x := b_getf (K := 5) (q := 0) C hk (by decide) rfl inA5 (by decide) w_192 rfl rfl hd kk
theorem gfX5_21 (C : CT p s m args meth c cc nL RX5 ret G A) {i : Nat} (hk : KD G i 5) (hd : decode cc pc = .ok (.getfield 21, 3)) (kk : WB p l e R s m args below meth c nL G A Q k n (pc + 3) lv (.ref (G.2.2 (i + 2)) :: st) x) : WB p l e R s m args below meth c nL G A Q k n pc lv (.ref (G.2.2 i) :: st) x := b_getf (K := 5) (q := 1) C hk (by decide) rfl inA5 (by decide) w_193 rfl rfl hd kk
theorem gfX6_10 (C : CT p s m args meth c cc nL RX6 ret G A) {i : Nat} (hk : KD G i 6) (hd : decode cc pc = .ok (.getfield 10, 3)) (kk : WB p l e R s m args below meth c nL G A Q k n (pc + 3) lv (.ref (G.2.2 (i + 1)) :: st) x) : WB p l e R s m args below meth c nL G A Q k n pc lv (.ref (G.2.2 i) :: st) x := b_getf (K := 6) (q := 0) C hk (by decide) rfl inA6 (by decide) w_203 rfl rfl hd kk
theorem gfX6_137 (C : CT p s m args meth c cc nL RX6 ret G A) {i : Nat} (hk : KD G i 6) (hd : decode cc pc = .ok (.getfield 137, 3)) (kk : WB p l e R s m args below meth c nL G A Q k n (pc + 3) lv (.int (x.1 i 5) :: st) x) : WB p l e R s m args below meth c nL G A Q k n pc lv (.ref (G.2.2 i) :: st) x := b_getf (K := 6) (q := 5) C hk (by decide) rfl inA6 (by decide) w_208 rfl rfl hd kk
theorem gfX6_38 (C : CT p s m args meth c cc nL RX6 ret G A) {i : Nat} (hk : KD G i 6) (hd : decode cc pc = .ok (.getfield 38, 3)) (kk : WB p l e R s m args below meth c nL G A Q k n (pc + 3) lv (.ref (G.2.2 (i + 99)) :: st) x) : WB p l e R s m args below meth c nL G A Q k n pc lv (.ref (G.2.2 i) :: st) x := b_getf (K := 6) (q := 4) C hk (by decide) rfl inA6 (by decide) w_212 rfl rfl hd kk
theorem gfX6_151 (C : CT p s m args meth c cc nL RX6 ret G A) {i : Nat} (hk : KD G i 3) (hd : decode cc pc = .ok (.getfield 151, 3)) (kk : WB p l e R s m args below meth c nL G A Q k n (pc + 3) lv (.ref (G.2.2 (i + 1)) :: st) x) : WB p l e R s m args below meth c nL G A Q k n pc lv (.ref (G.2.2 i) :: st) x := b_getfN C hk inA3 hd kk
theorem gfX6_31 (C : CT p s m args meth c cc nL RX6 ret G A) {i : Nat} (hk : KD G i 6) (hd : decode cc pc = .ok (.getfield 31, 3)) (kk : WB p l e R s m args below meth c nL G A Q k n (pc + 3) lv (.ref (G.2.2 (i + 97)) :: st) x) : WB p l e R s m args below meth c nL G A Q k n pc lv (.ref (G.2.2 i) :: st) x := b_getf (K := 6) (q := 3) C hk (by decide) rfl inA6 (by decide) w_276 rfl rfl hd kk
theorem gfX6_21 (C : CT p s m args meth c cc nL RX6 ret G A) {i : Nat} (hk : KD G i 6) (hd : decode cc pc = .ok (.getfield 21, 3)) (kk : WB p l e R s m args below meth c nL G A Q k n (pc + 3) lv (.ref (G.2.2 (i + 11)) :: st) x) : WB p l e R s m args below meth c nL G A Q k n pc lv (.ref (G.2.2 i) :: st) x := b_getf (K := 6) (q := 1) C hk (by decide) rfl inA6 (by decide) w_305 rfl rfl hd kk
theorem gfX6_25 (C : CT p s m args meth c cc nL RX6 ret G A) {i : Nat} (hk : KD G i 6) (hd : decode cc pc = .ok (.getfield 25, 3)) (kk : WB p l e R s m args below meth c nL G A Q k n (pc + 3) lv (.ref (G.2.2 (i + 34)) :: st) x) : WB p l e R s m args below meth c nL G A Q k n pc lv (.ref (G.2.2 i) :: st) x := b_getf (K := 6) (q := 2) C hk (by decide) rfl inA6 (by decide) w_330 rfl rfl hd kk
theorem gfX6_143 (C : CT p s m args meth c cc nL RX6 ret G A) {i : Nat} (hk : KD G i 6) (hd : decode cc pc = .ok (.getfield 143, 3)) (kk : WB p l e R s m args below meth c nL G A Q k n (pc + 3) lv (.int (x.1 i 6) :: st) x) : WB p l e R s m args below meth c nL G A Q k n pc lv (.ref (G.2.2 i) :: st) x := b_getf (K := 6) (q := 6) C hk (by decide) rfl inA6 (by decide) w_331 rfl rfl hd kk
theorem pfX6_143 (C : CT p s m args meth c cc nL RX6 ret G A) {i : Nat} (hk : KD G i 6) {v : Int32} {y : xS} (hd : decode cc pc = .ok (.putfield 143, 3)) (hy : up1 x i 6 v = y) (kk : WB p l e R s m args below meth c nL G A Q k n (pc + 3) lv (st) y) : WB p l e R s m args below meth c nL G A Q k n pc lv (.int v :: .ref (G.2.2 i) :: st) x := by
  subst hy
  exact b_put (y := up1 x i 6 v) (K := 6) (q := 6) (ty := .int) C hk (by decide) rfl inA6 tyX6_ok nmX6 (by decide) w_331 rfl rfl (by decide +kernel) rfl rfl (by simp [gF]) hd (by simp [gF, up1, up2, upR, upd, vp_updL]) (fun j hj => (upR_other x _ hj).symm) (fun _ _ => rfl) kk
theorem pfX6_137 (C : CT p s m args meth c cc nL RX6 ret G A) {i : Nat} (hk : KD G i 6) {v : Int32} {y : xS} (hd : decode cc pc = .ok (.putfield 137, 3)) (hy : up1 x i 5 v = y) (kk : WB p l e R s m args below meth c nL G A Q k n (pc + 3) lv (st) y) : WB p l e R s m args below meth c nL G A Q k n pc lv (.int v :: .ref (G.2.2 i) :: st) x := by
  subst hy
  exact b_put (y := up1 x i 5 v) (K := 6) (q := 5) (ty := .int) C hk (by decide) rfl inA6 tyX6_ok nmX6 (by decide) w_208 rfl rfl (by decide +kernel) rfl rfl (by simp [gF]) hd (by simp [gF, up1, up2, upR, upd, vp_updL]) (fun j hj => (upR_other x _ hj).symm) (fun _ _ => rfl) kk
theorem gfX7_97 (C : CT p s m args meth c cc nL RX7 ret G A) {i : Nat} (hk : KD G i 7) (hd : decode cc pc = .ok (.getfield 97, 3)) (kk : WB p l e R s m args below meth c nL G A Q k n (pc + 3) lv (.int (x.1 i 8) :: st) x) : WB p l e R s m args below meth c nL G A Q k n pc lv (.ref (G.2.2 i) :: st) x := b_getf (K := 7) (q := 8) C hk (by decide) rfl inA7 (by decide) w_356 rfl rfl hd kk
theorem pfX7_29 (C : CT p s m args meth c cc nL RX7 ret G A) {i : Nat} (hk : KD G i 7) {v : Int32} {y : xS} (hd : decode cc pc = .ok (.putfield 29, 3)) (hy : up1 x i 0 v = y) (kk : WB p l e R s m args below meth c nL G A Q k n (pc + 3) lv (st) y) : WB p l e R s m args below meth c nL G A Q k n pc lv (.int v :: .ref (G.2.2 i) :: st) x := by
  subst hy
  exact b_put (y := up1 x i 0 v) (K := 7) (q := 0) (ty := .int) C hk (by decide) rfl inA7 tyX7_ok nmX7 (by decide) w_357 rfl rfl (by decide +kernel) rfl rfl (by simp [gF]) hd (by simp [gF, up1, up2, upR, upd, vp_updL]) (fun j hj => (upR_other x _ hj).symm) (fun _ _ => rfl) kk
theorem gfX7_22 (C : CT p s m args meth c cc nL RX7 ret G A) {i : Nat} (hk : KD G i 7) (hd : decode cc pc = .ok (.getfield 22, 3)) (kk : WB p l e R s m args below meth c nL G A Q k n (pc + 3) lv (.ref (G.2.2 (i + 5)) :: st) x) : WB p l e R s m args below meth c nL G A Q k n pc lv (.ref (G.2.2 i) :: st) x := b_getf (K := 7) (q := 7) C hk (by decide) rfl inA7 (by decide) w_362 rfl rfl hd kk
theorem pfX7_97 (C : CT p s m args meth c cc nL RX7 ret G A) {i : Nat} (hk : KD G i 7) {v : Int32} {y : xS} (hd : decode cc pc = .ok (.putfield 97, 3)) (hy : up1 x i 8 v = y) (kk : WB p l e R s m args below meth c nL G A Q k n (pc + 3) lv (st) y) : WB p l e R s m args below meth c nL G A Q k n pc lv (.int v :: .ref (G.2.2 i) :: st) x := by
  subst hy
  exact b_put (y := up1 x i 8 v) (K := 7) (q := 8) (ty := .int) C hk (by decide) rfl inA7 tyX7_ok nmX7 (by decide) w_356 rfl rfl (by decide +kernel) rfl rfl (by simp [gF]) hd (by simp [gF, up1, up2, upR, upd, vp_updL]) (fun j hj => (upR_other x _ hj).symm) (fun _ _ => rfl) kk
theorem gfX7_37 (C : CT p s m args meth c cc nL RX7 ret G A) {i : Nat} (hk : KD G i 7) (hd : decode cc pc = .ok (.getfield 37, 3)) (kk : WB p l e R s m args below meth c nL G A Q k n (pc + 3) lv (.int (x.1 i 4) :: st) x) : WB p l e R s m args below meth c nL G A Q k n pc lv (.ref (G.2.2 i) :: st) x := b_getf (K := 7) (q := 4) C hk (by decide) rfl inA7 (by decide) w_369 rfl rfl hd kk
theorem pfX7_37 (C : CT p s m args meth c cc nL RX7 ret G A) {i : Nat} (hk : KD G i 7) {v : Int32} {y : xS} (hd : decode cc pc = .ok (.putfield 37, 3)) (hy : up1 x i 4 v = y) (kk : WB p l e R s m args below meth c nL G A Q k n (pc + 3) lv (st) y) : WB p l e R s m args below meth c nL G A Q k n pc lv (.int v :: .ref (G.2.2 i) :: st) x := by
  subst hy
  exact b_put (y := up1 x i 4 v) (K := 7) (q := 4) (ty := .int) C hk (by decide) rfl inA7 tyX7_ok nmX7 (by decide) w_369 rfl rfl (by decide +kernel) rfl rfl (by simp [gF]) hd (by simp [gF, up1, up2, upR, upd, vp_updL]) (fun j hj => (upR_other x _ hj).symm) (fun _ _ => rfl) kk
theorem gfX7_16 (C : CT p s m args meth c cc nL RX7 ret G A) {i : Nat} (hk : KD G i 7) (hd : decode cc pc = .ok (.getfield 16, 3)) (kk : WB p l e R s m args below meth c nL G A Q k n (pc + 3) lv (.ref (G.2.2 (i + 3)) :: st) x) : WB p l e R s m args below meth c nL G A Q k n pc lv (.ref (G.2.2 i) :: st) x := b_getf (K := 7) (q := 3) C hk (by decide) rfl inA7 (by decide) w_370 rfl rfl hd kk
theorem gfX7_7 (C : CT p s m args meth c cc nL RX7 ret G A) {i : Nat} (hk : KD G i 7) (hd : decode cc pc = .ok (.getfield 7, 3)) (kk : WB p l e R s m args below meth c nL G A Q k n (pc + 3) lv (.ref (G.2.2 (i + 1)) :: st) x) : WB p l e R s m args below meth c nL G A Q k n pc lv (.ref (G.2.2 i) :: st) x := b_getf (K := 7) (q := 1) C hk (by decide) rfl inA7 (by decide) w_371 rfl rfl hd kk
theorem pfX7_60 (C : CT p s m args meth c cc nL RX7 ret G A) {i : Nat} (hk : KD G i 7) {v : Int32} {y : xS} (hd : decode cc pc = .ok (.putfield 60, 3)) (hy : up1 x i 9 v = y) (kk : WB p l e R s m args below meth c nL G A Q k n (pc + 3) lv (st) y) : WB p l e R s m args below meth c nL G A Q k n pc lv (.int v :: .ref (G.2.2 i) :: st) x := by
  subst hy
  exact b_put (y := up1 x i 9 v) (K := 7) (q := 9) (ty := .int) C hk (by decide) rfl inA7 tyX7_ok nmX7 (by decide) w_402 rfl rfl (by decide +kernel) rfl rfl (by simp [gF]) hd (by simp [gF, up1, up2, upR, upd, vp_updL]) (fun j hj => (upR_other x _ hj).symm) (fun _ _ => rfl) kk
theorem gfX7_60 (C : CT p s m args meth c cc nL RX7 ret G A) {i : Nat} (hk : KD G i 7) (hd : decode cc pc = .ok (.getfield 60, 3)) (kk : WB p l e R s m args below meth c nL G A Q k n (pc + 3) lv (.int (x.1 i 9) :: st) x) : WB p l e R s m args below meth c nL G A Q k n pc lv (.ref (G.2.2 i) :: st) x := b_getf (K := 7) (q := 9) C hk (by decide) rfl inA7 (by decide) w_402 rfl rfl hd kk
theorem pfX7_183 (C : CT p s m args meth c cc nL RX7 ret G A) {i : Nat} (hk : KD G i 7) {v : Int64} {y : xS} (hd : decode cc pc = .ok (.putfield 183, 3)) (hy : up2 x i 15 v = y) (kk : WB p l e R s m args below meth c nL G A Q k n (pc + 3) lv (st) y) : WB p l e R s m args below meth c nL G A Q k n pc lv (.long v :: .ref (G.2.2 i) :: st) x := by
  subst hy
  exact b_put (y := up2 x i 15 v) (K := 7) (q := 15) (ty := .long) C hk (by decide) rfl inA7 tyX7_ok nmX7 (by decide) w_432 rfl rfl (by decide +kernel) rfl rfl (by simp [gF]) hd (by simp [gF, up1, up2, upR, upd, vp_updL]) (fun _ _ => rfl) (fun j hj => (up2_other x _ _ hj).symm) kk
theorem gfX7_183 (C : CT p s m args meth c cc nL RX7 ret G A) {i : Nat} (hk : KD G i 7) (hd : decode cc pc = .ok (.getfield 183, 3)) (kk : WB p l e R s m args below meth c nL G A Q k n (pc + 3) lv (.long (x.2 i 15) :: st) x) : WB p l e R s m args below meth c nL G A Q k n pc lv (.ref (G.2.2 i) :: st) x := b_getf (K := 7) (q := 15) C hk (by decide) rfl inA7 (by decide) w_432 rfl rfl hd kk
theorem gfX7_136 (C : CT p s m args meth c cc nL RX7 ret G A) {i : Nat} (hk : KD G i 7) (hd : decode cc pc = .ok (.getfield 136, 3)) (kk : WB p l e R s m args below meth c nL G A Q k n (pc + 3) lv (.int (x.1 i 6) :: st) x) : WB p l e R s m args below meth c nL G A Q k n pc lv (.ref (G.2.2 i) :: st) x := b_getf (K := 7) (q := 6) C hk (by decide) rfl inA7 (by decide) w_454 rfl rfl hd kk
theorem gfX7_13 (C : CT p s m args meth c cc nL RX7 ret G A) {i : Nat} (hk : KD G i 7) (hd : decode cc pc = .ok (.getfield 13, 3)) (kk : WB p l e R s m args below meth c nL G A Q k n (pc + 3) lv (.ref (G.2.2 (i + 2)) :: st) x) : WB p l e R s m args below meth c nL G A Q k n pc lv (.ref (G.2.2 i) :: st) x := b_getf (K := 7) (q := 2) C hk (by decide) rfl inA7 (by decide) w_459 rfl rfl hd kk
theorem gfX7_110 (C : CT p s m args meth c cc nL RX7 ret G A) {i : Nat} (hk : KD G i 7) (hd : decode cc pc = .ok (.getfield 110, 3)) (kk : WB p l e R s m args below meth c nL G A Q k n (pc + 3) lv (.int (x.1 i 12) :: st) x) : WB p l e R s m args below meth c nL G A Q k n pc lv (.ref (G.2.2 i) :: st) x := b_getf (K := 7) (q := 12) C hk (by decide) rfl inA7 (by decide) w_476 rfl rfl hd kk
theorem gfX7_116 (C : CT p s m args meth c cc nL RX7 ret G A) {i : Nat} (hk : KD G i 7) (hd : decode cc pc = .ok (.getfield 116, 3)) (kk : WB p l e R s m args below meth c nL G A Q k n (pc + 3) lv (.int (x.1 i 13) :: st) x) : WB p l e R s m args below meth c nL G A Q k n pc lv (.ref (G.2.2 i) :: st) x := b_getf (K := 7) (q := 13) C hk (by decide) rfl inA7 (by decide) w_477 rfl rfl hd kk
theorem gfX7_119 (C : CT p s m args meth c cc nL RX7 ret G A) {i : Nat} (hk : KD G i 7) (hd : decode cc pc = .ok (.getfield 119, 3)) (kk : WB p l e R s m args below meth c nL G A Q k n (pc + 3) lv (.int (x.1 i 14) :: st) x) : WB p l e R s m args below meth c nL G A Q k n pc lv (.ref (G.2.2 i) :: st) x := b_getf (K := 7) (q := 14) C hk (by decide) rfl inA7 (by decide) w_478 rfl rfl hd kk
theorem pfX7_104 (C : CT p s m args meth c cc nL RX7 ret G A) {i : Nat} (hk : KD G i 7) {v : Int32} {y : xS} (hd : decode cc pc = .ok (.putfield 104, 3)) (hy : up1 x i 10 v = y) (kk : WB p l e R s m args below meth c nL G A Q k n (pc + 3) lv (st) y) : WB p l e R s m args below meth c nL G A Q k n pc lv (.int v :: .ref (G.2.2 i) :: st) x := by
  subst hy
  exact b_put (y := up1 x i 10 v) (K := 7) (q := 10) (ty := .int) C hk (by decide) rfl inA7 tyX7_ok nmX7 (by decide) w_487 rfl rfl (by decide +kernel) rfl rfl (by simp [gF]) hd (by simp [gF, up1, up2, upR, upd, vp_updL]) (fun j hj => (upR_other x _ hj).symm) (fun _ _ => rfl) kk
theorem pfX7_100 (C : CT p s m args meth c cc nL RX7 ret G A) {i : Nat} (hk : KD G i 7) {v : Int32} {y : xS} (hv : v &&& 1 = v) (hd : decode cc pc = .ok (.putfield 100, 3)) (hy : up1 x i 11 v = y) (kk : WB p l e R s m args below meth c nL G A Q k n (pc + 3) lv (st) y) : WB p l e R s m args below meth c nL G A Q k n pc lv (.int v :: .ref (G.2.2 i) :: st) x := by
  subst hy
  exact b_put (y := up1 x i 11 v) (K := 7) (q := 11) (ty := .boolean) C hk (by decide) rfl inA7 tyX7_ok nmX7 (by decide) w_488 rfl rfl (by decide +kernel) (by show Value.int (v &&& 1) = .int v; rw [hv]) (fitz hv) (by simp [gF]) hd (by simp [gF, up1, up2, upR, upd, vp_updL]) (fun j hj => (upR_other x _ hj).symm) (fun _ _ => rfl) kk
theorem gfX7_100 (C : CT p s m args meth c cc nL RX7 ret G A) {i : Nat} (hk : KD G i 7) (hd : decode cc pc = .ok (.getfield 100, 3)) (kk : WB p l e R s m args below meth c nL G A Q k n (pc + 3) lv (.int (x.1 i 11) :: st) x) : WB p l e R s m args below meth c nL G A Q k n pc lv (.ref (G.2.2 i) :: st) x := b_getf (K := 7) (q := 11) C hk (by decide) rfl inA7 (by decide) w_488 rfl rfl hd kk
theorem gfX7_104 (C : CT p s m args meth c cc nL RX7 ret G A) {i : Nat} (hk : KD G i 7) (hd : decode cc pc = .ok (.getfield 104, 3)) (kk : WB p l e R s m args below meth c nL G A Q k n (pc + 3) lv (.int (x.1 i 10) :: st) x) : WB p l e R s m args below meth c nL G A Q k n pc lv (.ref (G.2.2 i) :: st) x := b_getf (K := 7) (q := 10) C hk (by decide) rfl inA7 (by decide) w_487 rfl rfl hd kk
theorem pfX7_110 (C : CT p s m args meth c cc nL RX7 ret G A) {i : Nat} (hk : KD G i 7) {v : Int32} {y : xS} (hd : decode cc pc = .ok (.putfield 110, 3)) (hy : up1 x i 12 v = y) (kk : WB p l e R s m args below meth c nL G A Q k n (pc + 3) lv (st) y) : WB p l e R s m args below meth c nL G A Q k n pc lv (.int v :: .ref (G.2.2 i) :: st) x := by
  subst hy
  exact b_put (y := up1 x i 12 v) (K := 7) (q := 12) (ty := .int) C hk (by decide) rfl inA7 tyX7_ok nmX7 (by decide) w_476 rfl rfl (by decide +kernel) rfl rfl (by simp [gF]) hd (by simp [gF, up1, up2, upR, upd, vp_updL]) (fun j hj => (upR_other x _ hj).symm) (fun _ _ => rfl) kk
theorem pfX7_116 (C : CT p s m args meth c cc nL RX7 ret G A) {i : Nat} (hk : KD G i 7) {v : Int32} {y : xS} (hd : decode cc pc = .ok (.putfield 116, 3)) (hy : up1 x i 13 v = y) (kk : WB p l e R s m args below meth c nL G A Q k n (pc + 3) lv (st) y) : WB p l e R s m args below meth c nL G A Q k n pc lv (.int v :: .ref (G.2.2 i) :: st) x := by
  subst hy
  exact b_put (y := up1 x i 13 v) (K := 7) (q := 13) (ty := .int) C hk (by decide) rfl inA7 tyX7_ok nmX7 (by decide) w_477 rfl rfl (by decide +kernel) rfl rfl (by simp [gF]) hd (by simp [gF, up1, up2, upR, upd, vp_updL]) (fun j hj => (upR_other x _ hj).symm) (fun _ _ => rfl) kk
theorem pfX7_119 (C : CT p s m args meth c cc nL RX7 ret G A) {i : Nat} (hk : KD G i 7) {v : Int32} {y : xS} (hd : decode cc pc = .ok (.putfield 119, 3)) (hy : up1 x i 14 v = y) (kk : WB p l e R s m args below meth c nL G A Q k n (pc + 3) lv (st) y) : WB p l e R s m args below meth c nL G A Q k n pc lv (.int v :: .ref (G.2.2 i) :: st) x := by
  subst hy
  exact b_put (y := up1 x i 14 v) (K := 7) (q := 14) (ty := .int) C hk (by decide) rfl inA7 tyX7_ok nmX7 (by decide) w_478 rfl rfl (by decide +kernel) rfl rfl (by simp [gF]) hd (by simp [gF, up1, up2, upR, upd, vp_updL]) (fun j hj => (upR_other x _ hj).symm) (fun _ _ => rfl) kk
theorem gfX7_19 (C : CT p s m args meth c cc nL RX7 ret G A) {i : Nat} (hk : KD G i 7) (hd : decode cc pc = .ok (.getfield 19, 3)) (kk : WB p l e R s m args below meth c nL G A Q k n (pc + 3) lv (.ref (G.2.2 (i + 4)) :: st) x) : WB p l e R s m args below meth c nL G A Q k n pc lv (.ref (G.2.2 i) :: st) x := b_getf (K := 7) (q := 5) C hk (by decide) rfl inA7 (by decide) w_513 rfl rfl hd kk
theorem pfX7_136 (C : CT p s m args meth c cc nL RX7 ret G A) {i : Nat} (hk : KD G i 7) {v : Int32} {y : xS} (hd : decode cc pc = .ok (.putfield 136, 3)) (hy : up1 x i 6 v = y) (kk : WB p l e R s m args below meth c nL G A Q k n (pc + 3) lv (st) y) : WB p l e R s m args below meth c nL G A Q k n pc lv (.int v :: .ref (G.2.2 i) :: st) x := by
  subst hy
  exact b_put (y := up1 x i 6 v) (K := 7) (q := 6) (ty := .int) C hk (by decide) rfl inA7 tyX7_ok nmX7 (by decide) w_454 rfl rfl (by decide +kernel) rfl rfl (by simp [gF]) hd (by simp [gF, up1, up2, upR, upd, vp_updL]) (fun j hj => (upR_other x _ hj).symm) (fun _ _ => rfl) kk
theorem gfX7_29 (C : CT p s m args meth c cc nL RX7 ret G A) {i : Nat} (hk : KD G i 7) (hd : decode cc pc = .ok (.getfield 29, 3)) (kk : WB p l e R s m args below meth c nL G A Q k n (pc + 3) lv (.int (x.1 i 0) :: st) x) : WB p l e R s m args below meth c nL G A Q k n pc lv (.ref (G.2.2 i) :: st) x := b_getf (K := 7) (q := 0) C hk (by decide) rfl inA7 (by decide) w_357 rfl rfl hd kk
end
theorem gkX0_19 : GoodIn AW (wsV RX0 19 RX0 yX0_sign (ws_ yX0_sign cX0_sign 2 (some (.int)))) := gw_V w_5 w_6 w_7 w_8 w_9
theorem ekX0_19 : yX0_sign.cls = RX0 ∧ yX0_sign.cls ≠ "java/lang/invoke/MethodHandle" ∧ yX0_sign.cls ≠ "java/lang/invoke/VarHandle" ∧ (parseMethodDescriptor yX0_sign.desc).map (fun d => d.parameters.length) = some 1 := by decide +kernel
theorem gkX0_27 : GoodIn AW (va_wsS RX0 27 yX0_next (ws_ yX0_next cX0_next 2 (some (.int)))) := gw_S w_10 w_11 w_8 w_12
theorem ekX0_27 : yX0_next.cls ≠ "java/lang/invoke/MethodHandle" ∧ yX0_next.cls ≠ "java/lang/invoke/VarHandle" ∧ (parseMethodDescriptor yX0_next.desc).map (fun d => d.parameters.length) = some 2 := by decide +kernel
theorem gkX0_23 : GoodIn AW (va_wsS RX0 23 yX0_stateAfter (ws_ yX0_stateAfter cX0_stateAfter 2 (some (.int)))) := gw_S w_13 w_14 w_8 w_15
theorem ekX0_23 : yX0_stateAfter.cls ≠ "java/lang/invoke/MethodHandle" ∧ yX0_stateAfter.cls ≠ "java/lang/invoke/VarHandle" ∧ (parseMethodDescriptor yX0_stateAfter.desc).map (fun d => d.parameters.length) = some 2 := by decide +kernel
theorem gkX1_15 : GoodIn AW (va_wsS RX1 15 yJ7_fill_53178 (ws_ yJ7_fill_53178 cJ7_fill_53178 4 none)) := gw_S w_17 w_18 w_19 w_20
theorem ekX1_15 : yJ7_fill_53178.cls ≠ "java/lang/invoke/MethodHandle" ∧ yJ7_fill_53178.cls ≠ "java/lang/invoke/VarHandle" ∧ (parseMethodDescriptor yJ7_fill_53178.desc).map (fun d => d.parameters.length) = some 2 := by decide +kernel
theorem gkX4_32 : GoodIn AW (wsV RX4 32 RX2 yX2_get (ws_ yX2_get cX2_get 3 (some (.int)))) := gw_V w_25 w_26 w_27 w_28 w_29
theorem ekX4_32 : yX2_get.cls = RX2 ∧ yX2_get.cls ≠ "java/lang/invoke/MethodHandle" ∧ yX2_get.cls ≠ "java/lang/invoke/VarHandle" ∧ (parseMethodDescriptor yX2_get.desc).map (fun d => d.parameters.length) = some 2 := by decide +kernel
theorem gkX1_21 : GoodIn AW (wsV RX1 21 RX4 yX4_startsPiece (ws_ yX4_startsPiece cX4_startsPiece 4 (some (.boolean)))) := gw_V w_30 w_31 w_32 w_33 w_34
theorem ekX1_21 : yX4_startsPiece.cls = RX4 ∧ yX4_startsPiece.cls ≠ "java/lang/invoke/MethodHandle" ∧ yX4_startsPiece.cls ≠ "java/lang/invoke/VarHandle" ∧ (parseMethodDescriptor yX4_startsPiece.desc).map (fun d => d.parameters.length) = some 2 := by decide +kernel
theorem gkX1_27 : GoodIn AW (wsV RX1 27 RX4 yX4_pieceEnd (ws_ yX4_pieceEnd cX4_pieceEnd 4 (some (.int)))) := gw_V w_35 w_36 w_37 w_33 w_38
theorem ekX1_27 : yX4_pieceEnd.cls = RX4 ∧ yX4_pieceEnd.cls ≠ "java/lang/invoke/MethodHandle" ∧ yX4_pieceEnd.cls ≠ "java/lang/invoke/VarHandle" ∧ (parseMethodDescriptor yX4_pieceEnd.desc).map (fun d => d.parameters.length) = some 2 := by decide +kernel
theorem gkX1_31 : GoodIn AW (wsV RX1 31 RX1 yX1_lay (ws_ yX1_lay cX1_lay 4 (some (.int)))) := gw_V w_39 w_40 w_41 w_42 w_43
theorem ekX1_31 : yX1_lay.cls = RX1 ∧ yX1_lay.cls ≠ "java/lang/invoke/MethodHandle" ∧ yX1_lay.cls ≠ "java/lang/invoke/VarHandle" ∧ (parseMethodDescriptor yX1_lay.desc).map (fun d => d.parameters.length) = some 2 := by decide +kernel
theorem gkX2_35 : GoodIn AW (va_wsS RX2 35 yJ7_fill_53178 (ws_ yJ7_fill_53178 cJ7_fill_53178 4 none)) := gw_S w_52 w_18 w_19 w_20
theorem ekX2_35 : yJ7_fill_53178.cls ≠ "java/lang/invoke/MethodHandle" ∧ yJ7_fill_53178.cls ≠ "java/lang/invoke/VarHandle" ∧ (parseMethodDescriptor yJ7_fill_53178.desc).map (fun d => d.parameters.length) = some 2 := by decide +kernel
theorem gkX2_28 : GoodIn AW (wsV RX2 28 RX2 yX2_get (ws_ yX2_get cX2_get 3 (some (.int)))) := gw_V w_53 w_26 w_27 w_28 w_29
theorem ekX2_28 : yX2_get.cls = RX2 ∧ yX2_get.cls ≠ "java/lang/invoke/MethodHandle" ∧ yX2_get.cls ≠ "java/lang/invoke/VarHandle" ∧ (parseMethodDescriptor yX2_get.desc).map (fun d => d.parameters.length) = some 2 := by decide +kernel
theorem gkX2_31 : GoodIn AW (wsV RX2 31 RX2 yX2_put (ws_ yX2_put cX2_put 4 none)) := gw_V w_54 w_55 w_56 w_28 w_57
theorem ekX2_31 : yX2_put.cls = RX2 ∧ yX2_put.cls ≠ "java/lang/invoke/MethodHandle" ∧ yX2_put.cls ≠ "java/lang/invoke/VarHandle" ∧ (parseMethodDescriptor yX2_put.desc).map (fun d => d.parameters.length) = some 3 := by decide +kernel
theorem gkX3_51 : GoodIn AW (wsV RX3 51 RX2 yX2_get (ws_ yX2_get cX2_get 3 (some (.int)))) := gw_V w_59 w_26 w_27 w_28 w_29
theorem ekX3_51 : yX2_get.cls = RX2 ∧ yX2_get.cls ≠ "java/lang/invoke/MethodHandle" ∧ yX2_get.cls ≠ "java/lang/invoke/VarHandle" ∧ (parseMethodDescriptor yX2_get.desc).map (fun d => d.parameters.length) = some 2 := by decide +kernel
theorem gkX4_40 : GoodIn AW (wsV RX4 40 RX4 yX4_lentBeds (ws_ yX4_lentBeds cX4_lentBeds 4 (some (.int)))) := gw_V w_61 w_62 w_63 w_33 w_64
theorem ekX4_40 : yX4_lentBeds.cls = RX4 ∧ yX4_lentBeds.cls ≠ "java/lang/invoke/MethodHandle" ∧ yX4_lentBeds.cls ≠ "java/lang/invoke/VarHandle" ∧ (parseMethodDescriptor yX4_lentBeds.desc).map (fun d => d.parameters.length) = some 1 := by decide +kernel
theorem gkX3_48 : GoodIn AW (wsV RX3 48 RX4 yX4_lentHours (ws_ yX4_lentHours cX4_lentHours 3 (some (.int)))) := gw_V w_65 w_66 w_67 w_33 w_68
theorem ekX3_48 : yX4_lentHours.cls = RX4 ∧ yX4_lentHours.cls ≠ "java/lang/invoke/MethodHandle" ∧ yX4_lentHours.cls ≠ "java/lang/invoke/VarHandle" ∧ (parseMethodDescriptor yX4_lentHours.desc).map (fun d => d.parameters.length) = some 0 := by decide +kernel
theorem gkX3_44 : GoodIn AW (wsV RX3 44 RX4 yX4_goneHours (ws_ yX4_goneHours cX4_goneHours 1 (some (.int)))) := gw_V w_70 w_71 w_72 w_33 w_73
theorem ekX3_44 : yX4_goneHours.cls = RX4 ∧ yX4_goneHours.cls ≠ "java/lang/invoke/MethodHandle" ∧ yX4_goneHours.cls ≠ "java/lang/invoke/VarHandle" ∧ (parseMethodDescriptor yX4_goneHours.desc).map (fun d => d.parameters.length) = some 0 := by decide +kernel
theorem gkX3_65 : GoodIn AW (wsV RX3 65 RX4 yX4_wentBy (ws_ yX4_wentBy cX4_wentBy 2 (some (.boolean)))) := gw_V w_74 w_75 w_76 w_33 w_77
theorem ekX3_65 : yX4_wentBy.cls = RX4 ∧ yX4_wentBy.cls ≠ "java/lang/invoke/MethodHandle" ∧ yX4_wentBy.cls ≠ "java/lang/invoke/VarHandle" ∧ (parseMethodDescriptor yX4_wentBy.desc).map (fun d => d.parameters.length) = some 1 := by decide +kernel
theorem gkX4_49 : GoodIn AW (wsV RX4 49 RX4 yX4_bedOf (ws_ yX4_bedOf cX4_bedOf 4 (some (.int)))) := gw_V w_78 w_79 w_80 w_33 w_81
theorem ekX4_49 : yX4_bedOf.cls = RX4 ∧ yX4_bedOf.cls ≠ "java/lang/invoke/MethodHandle" ∧ yX4_bedOf.cls ≠ "java/lang/invoke/VarHandle" ∧ (parseMethodDescriptor yX4_bedOf.desc).map (fun d => d.parameters.length) = some 2 := by decide +kernel
theorem gkX3_55 : GoodIn AW (wsV RX3 55 RX4 yX4_hoursWithBed (ws_ yX4_hoursWithBed cX4_hoursWithBed 6 (some (.int)))) := gw_V w_82 w_83 w_84 w_33 w_85
theorem ekX3_55 : yX4_hoursWithBed.cls = RX4 ∧ yX4_hoursWithBed.cls ≠ "java/lang/invoke/MethodHandle" ∧ yX4_hoursWithBed.cls ≠ "java/lang/invoke/VarHandle" ∧ (parseMethodDescriptor yX4_hoursWithBed.desc).map (fun d => d.parameters.length) = some 3 := by decide +kernel
theorem gkX3_69 : GoodIn AW (wsV RX3 69 RX3 yX3_isEighth (ws_ yX3_isEighth cX3_isEighth 2 (some (.boolean)))) := gw_V w_87 w_88 w_89 w_90 w_91
theorem ekX3_69 : yX3_isEighth.cls = RX3 ∧ yX3_isEighth.cls ≠ "java/lang/invoke/MethodHandle" ∧ yX3_isEighth.cls ≠ "java/lang/invoke/VarHandle" ∧ (parseMethodDescriptor yX3_isEighth.desc).map (fun d => d.parameters.length) = some 1 := by decide +kernel
theorem gkX4_52 : GoodIn AW (wsV RX4 52 RX4 yX4_lentHoursIn (ws_ yX4_lentHoursIn cX4_lentHoursIn 6 (some (.int)))) := gw_V w_92 w_93 w_94 w_33 w_95
theorem ekX4_52 : yX4_lentHoursIn.cls = RX4 ∧ yX4_lentHoursIn.cls ≠ "java/lang/invoke/MethodHandle" ∧ yX4_lentHoursIn.cls ≠ "java/lang/invoke/VarHandle" ∧ (parseMethodDescriptor yX4_lentHoursIn.desc).map (fun d => d.parameters.length) = some 3 := by decide +kernel
theorem gkX3_75 : GoodIn AW (wsV RX3 75 RX4 yX4_leastLentBed (ws_ yX4_leastLentBed cX4_leastLentBed 5 (some (.int)))) := gw_V w_96 w_97 w_98 w_33 w_99
theorem ekX3_75 : yX4_leastLentBed.cls = RX4 ∧ yX4_leastLentBed.cls ≠ "java/lang/invoke/MethodHandle" ∧ yX4_leastLentBed.cls ≠ "java/lang/invoke/VarHandle" ∧ (parseMethodDescriptor yX4_leastLentBed.desc).map (fun d => d.parameters.length) = some 2 := by decide +kernel
theorem gkX3_78 : GoodIn AW (wsV RX3 78 RX4 yX4_lentHoursIn (ws_ yX4_lentHoursIn cX4_lentHoursIn 6 (some (.int)))) := gw_V w_100 w_93 w_94 w_33 w_95
theorem ekX3_78 : yX4_lentHoursIn.cls = RX4 ∧ yX4_lentHoursIn.cls ≠ "java/lang/invoke/MethodHandle" ∧ yX4_lentHoursIn.cls ≠ "java/lang/invoke/VarHandle" ∧ (parseMethodDescriptor yX4_lentHoursIn.desc).map (fun d => d.parameters.length) = some 3 := by decide +kernel
theorem gkX3_72 : GoodIn AW (wsV RX3 72 RX3 yX3_hasTooLittleNeed (ws_ yX3_hasTooLittleNeed cX3_hasTooLittleNeed 2 (some (.boolean)))) := gw_V w_101 w_102 w_103 w_90 w_104
theorem ekX3_72 : yX3_hasTooLittleNeed.cls = RX3 ∧ yX3_hasTooLittleNeed.cls ≠ "java/lang/invoke/MethodHandle" ∧ yX3_hasTooLittleNeed.cls ≠ "java/lang/invoke/VarHandle" ∧ (parseMethodDescriptor yX3_hasTooLittleNeed.desc).map (fun d => d.parameters.length) = some 1 := by decide +kernel
theorem gkX3_33 : GoodIn AW (wsV RX3 33 RX2 yX2_put (ws_ yX2_put cX2_put 4 none)) := gw_V w_105 w_55 w_56 w_28 w_57
theorem ekX3_33 : yX2_put.cls = RX2 ∧ yX2_put.cls ≠ "java/lang/invoke/MethodHandle" ∧ yX2_put.cls ≠ "java/lang/invoke/VarHandle" ∧ (parseMethodDescriptor yX2_put.desc).map (fun d => d.parameters.length) = some 3 := by decide +kernel
theorem gkX4_24 : GoodIn AW (wsV RX4 24 RX2 yX2_copyFrom (ws_ yX2_copyFrom cX2_copyFrom 2 none)) := gw_V w_106 w_107 w_108 w_28 w_109
theorem ekX4_24 : yX2_copyFrom.cls = RX2 ∧ yX2_copyFrom.cls ≠ "java/lang/invoke/MethodHandle" ∧ yX2_copyFrom.cls ≠ "java/lang/invoke/VarHandle" ∧ (parseMethodDescriptor yX2_copyFrom.desc).map (fun d => d.parameters.length) = some 1 := by decide +kernel
theorem gkX3_37 : GoodIn AW (wsV RX3 37 RX4 yX4_copyFrom (ws_ yX4_copyFrom cX4_copyFrom 2 none)) := gw_V w_110 w_111 w_112 w_33 w_113
theorem ekX3_37 : yX4_copyFrom.cls = RX4 ∧ yX4_copyFrom.cls ≠ "java/lang/invoke/MethodHandle" ∧ yX4_copyFrom.cls ≠ "java/lang/invoke/VarHandle" ∧ (parseMethodDescriptor yX4_copyFrom.desc).map (fun d => d.parameters.length) = some 1 := by decide +kernel
theorem gkX3_41 : GoodIn AW (wsV RX3 41 RX2 yX2_copyFrom (ws_ yX2_copyFrom cX2_copyFrom 2 none)) := gw_V w_114 w_107 w_108 w_28 w_109
theorem ekX3_41 : yX2_copyFrom.cls = RX2 ∧ yX2_copyFrom.cls ≠ "java/lang/invoke/MethodHandle" ∧ yX2_copyFrom.cls ≠ "java/lang/invoke/VarHandle" ∧ (parseMethodDescriptor yX2_copyFrom.desc).map (fun d => d.parameters.length) = some 1 := by decide +kernel
theorem gkX3_115 : GoodIn AW (va_wsS RX3 115 yJ6_bitCount_0f7a4 (ws_ yJ6_bitCount_0f7a4 cJ6_bitCount_0f7a4 1 (some (.int)))) := gw_S w_116 w_117 w_118 w_119
theorem ekX3_115 : yJ6_bitCount_0f7a4.cls ≠ "java/lang/invoke/MethodHandle" ∧ yJ6_bitCount_0f7a4.cls ≠ "java/lang/invoke/VarHandle" ∧ (parseMethodDescriptor yJ6_bitCount_0f7a4.desc).map (fun d => d.parameters.length) = some 1 := by decide +kernel
theorem gkX3_94 : GoodIn AW (wsV RX3 94 RX2 yX2_raise (ws_ yX2_raise cX2_raise 4 none)) := gw_V w_120 w_121 w_122 w_28 w_123
theorem ekX3_94 : yX2_raise.cls = RX2 ∧ yX2_raise.cls ≠ "java/lang/invoke/MethodHandle" ∧ yX2_raise.cls ≠ "java/lang/invoke/VarHandle" ∧ (parseMethodDescriptor yX2_raise.desc).map (fun d => d.parameters.length) = some 3 := by decide +kernel
theorem gkX3_97 : GoodIn AW (wsV RX3 97 RX3 yX3_countRefusal (ws_ yX3_countRefusal cX3_countRefusal 3 none)) := gw_V w_127 w_128 w_129 w_90 w_130
theorem ekX3_97 : yX3_countRefusal.cls = RX3 ∧ yX3_countRefusal.cls ≠ "java/lang/invoke/MethodHandle" ∧ yX3_countRefusal.cls ≠ "java/lang/invoke/VarHandle" ∧ (parseMethodDescriptor yX3_countRefusal.desc).map (fun d => d.parameters.length) = some 1 := by decide +kernel
theorem gkX4_36 : GoodIn AW (wsV RX4 36 RX2 yX2_put (ws_ yX2_put cX2_put 4 none)) := gw_V w_131 w_55 w_56 w_28 w_57
theorem ekX4_36 : yX2_put.cls = RX2 ∧ yX2_put.cls ≠ "java/lang/invoke/MethodHandle" ∧ yX2_put.cls ≠ "java/lang/invoke/VarHandle" ∧ (parseMethodDescriptor yX2_put.desc).map (fun d => d.parameters.length) = some 3 := by decide +kernel
theorem gkX3_112 : GoodIn AW (wsV RX3 112 RX4 yX4_lend (ws_ yX4_lend cX4_lend 6 none)) := gw_V w_132 w_133 w_134 w_33 w_135
theorem ekX3_112 : yX4_lend.cls = RX4 ∧ yX4_lend.cls ≠ "java/lang/invoke/MethodHandle" ∧ yX4_lend.cls ≠ "java/lang/invoke/VarHandle" ∧ (parseMethodDescriptor yX4_lend.desc).map (fun d => d.parameters.length) = some 4 := by decide +kernel
theorem gkX3_84 : GoodIn AW (wsV RX3 84 RX4 yX4_holdersMask (ws_ yX4_holdersMask cX4_holdersMask 7 (some (.int)))) := gw_V w_136 w_137 w_138 w_33 w_139
theorem ekX3_84 : yX4_holdersMask.cls = RX4 ∧ yX4_holdersMask.cls ≠ "java/lang/invoke/MethodHandle" ∧ yX4_holdersMask.cls ≠ "java/lang/invoke/VarHandle" ∧ (parseMethodDescriptor yX4_holdersMask.desc).map (fun d => d.parameters.length) = some 3 := by decide +kernel
theorem gkX3_106 : GoodIn AW (wsV RX3 106 RX3 yX3_countPutOut (ws_ yX3_countPutOut cX3_countPutOut 3 none)) := gw_V w_140 w_141 w_142 w_90 w_143
theorem ekX3_106 : yX3_countPutOut.cls = RX3 ∧ yX3_countPutOut.cls ≠ "java/lang/invoke/MethodHandle" ∧ yX3_countPutOut.cls ≠ "java/lang/invoke/VarHandle" ∧ (parseMethodDescriptor yX3_countPutOut.desc).map (fun d => d.parameters.length) = some 1 := by decide +kernel
theorem gkX4_56 : GoodIn AW (wsV RX4 56 RX4 yX4_pieceEnd (ws_ yX4_pieceEnd cX4_pieceEnd 4 (some (.int)))) := gw_V w_144 w_36 w_37 w_33 w_38
theorem ekX4_56 : yX4_pieceEnd.cls = RX4 ∧ yX4_pieceEnd.cls ≠ "java/lang/invoke/MethodHandle" ∧ yX4_pieceEnd.cls ≠ "java/lang/invoke/VarHandle" ∧ (parseMethodDescriptor yX4_pieceEnd.desc).map (fun d => d.parameters.length) = some 2 := by decide +kernel
theorem gkX4_59 : GoodIn AW (wsV RX4 59 RX4 yX4_lend (ws_ yX4_lend cX4_lend 6 none)) := gw_V w_145 w_133 w_134 w_33 w_135
theorem ekX4_59 : yX4_lend.cls = RX4 ∧ yX4_lend.cls ≠ "java/lang/invoke/MethodHandle" ∧ yX4_lend.cls ≠ "java/lang/invoke/VarHandle" ∧ (parseMethodDescriptor yX4_lend.desc).map (fun d => d.parameters.length) = some 4 := by decide +kernel
theorem gkX3_109 : GoodIn AW (wsV RX3 109 RX4 yX4_freePiecesIn (ws_ yX4_freePiecesIn cX4_freePiecesIn 7 (some (.int)))) := gw_V w_146 w_147 w_148 w_33 w_149
theorem ekX3_109 : yX4_freePiecesIn.cls = RX4 ∧ yX4_freePiecesIn.cls ≠ "java/lang/invoke/MethodHandle" ∧ yX4_freePiecesIn.cls ≠ "java/lang/invoke/VarHandle" ∧ (parseMethodDescriptor yX4_freePiecesIn.desc).map (fun d => d.parameters.length) = some 3 := by decide +kernel
theorem gkX3_127 : GoodIn AW (wsV RX3 127 RX4 yX4_lentBeds (ws_ yX4_lentBeds cX4_lentBeds 4 (some (.int)))) := gw_V w_150 w_62 w_63 w_33 w_64
theorem ekX3_127 : yX4_lentBeds.cls = RX4 ∧ yX4_lentBeds.cls ≠ "java/lang/invoke/MethodHandle" ∧ yX4_lentBeds.cls ≠ "java/lang/invoke/VarHandle" ∧ (parseMethodDescriptor yX4_lentBeds.desc).map (fun d => d.parameters.length) = some 1 := by decide +kernel
theorem gkX4_20 : GoodIn AW (wsV RX4 20 RX2 yX2_fill (ws_ yX2_fill cX2_fill 2 none)) := gw_V w_151 w_152 w_153 w_28 w_154
theorem ekX4_20 : yX2_fill.cls = RX2 ∧ yX2_fill.cls ≠ "java/lang/invoke/MethodHandle" ∧ yX2_fill.cls ≠ "java/lang/invoke/VarHandle" ∧ (parseMethodDescriptor yX2_fill.desc).map (fun d => d.parameters.length) = some 1 := by decide +kernel
theorem gkX3_130 : GoodIn AW (wsV RX3 130 RX4 yX4_advance (ws_ yX4_advance cX4_advance 1 none)) := gw_V w_155 w_156 w_157 w_33 w_158
theorem ekX3_130 : yX4_advance.cls = RX4 ∧ yX4_advance.cls ≠ "java/lang/invoke/MethodHandle" ∧ yX4_advance.cls ≠ "java/lang/invoke/VarHandle" ∧ (parseMethodDescriptor yX4_advance.desc).map (fun d => d.parameters.length) = some 0 := by decide +kernel
theorem gkX3_61 : GoodIn AW (wsV RX3 61 RX3 yX3_isPoorer (ws_ yX3_isPoorer cX3_isPoorer 4 (some (.boolean)))) := gw_V w_159 w_160 w_161 w_90 w_162
theorem ekX3_61 : yX3_isPoorer.cls = RX3 ∧ yX3_isPoorer.cls ≠ "java/lang/invoke/MethodHandle" ∧ yX3_isPoorer.cls ≠ "java/lang/invoke/VarHandle" ∧ (parseMethodDescriptor yX3_isPoorer.desc).map (fun d => d.parameters.length) = some 2 := by decide +kernel
theorem gkX3_81 : GoodIn AW (wsV RX3 81 RX3 yX3_answerTo (ws_ yX3_answerTo cX3_answerTo 6 (some (.int)))) := gw_V w_164 w_165 w_166 w_90 w_167
theorem ekX3_81 : yX3_answerTo.cls = RX3 ∧ yX3_answerTo.cls ≠ "java/lang/invoke/MethodHandle" ∧ yX3_answerTo.cls ≠ "java/lang/invoke/VarHandle" ∧ (parseMethodDescriptor yX3_answerTo.desc).map (fun d => d.parameters.length) = some 3 := by decide +kernel
theorem gkX3_90 : GoodIn AW (wsV RX3 90 RX3 yX3_grant (ws_ yX3_grant cX3_grant 5 none)) := gw_V w_168 w_169 w_170 w_90 w_171
theorem ekX3_90 : yX3_grant.cls = RX3 ∧ yX3_grant.cls ≠ "java/lang/invoke/MethodHandle" ∧ yX3_grant.cls ≠ "java/lang/invoke/VarHandle" ∧ (parseMethodDescriptor yX3_grant.desc).map (fun d => d.parameters.length) = some 4 := by decide +kernel
theorem gkX3_87 : GoodIn AW (wsV RX3 87 RX3 yX3_refuse (ws_ yX3_refuse cX3_refuse 3 none)) := gw_V w_172 w_173 w_174 w_90 w_175
theorem ekX3_87 : yX3_refuse.cls = RX3 ∧ yX3_refuse.cls ≠ "java/lang/invoke/MethodHandle" ∧ yX3_refuse.cls ≠ "java/lang/invoke/VarHandle" ∧ (parseMethodDescriptor yX3_refuse.desc).map (fun d => d.parameters.length) = some 2 := by decide +kernel
theorem gkX3_121 : GoodIn AW (wsV RX3 121 RX4 yX4_bedOf (ws_ yX4_bedOf cX4_bedOf 4 (some (.int)))) := gw_V w_176 w_79 w_80 w_33 w_81
theorem ekX3_121 : yX4_bedOf.cls = RX4 ∧ yX4_bedOf.cls ≠ "java/lang/invoke/MethodHandle" ∧ yX4_bedOf.cls ≠ "java/lang/invoke/VarHandle" ∧ (parseMethodDescriptor yX4_bedOf.desc).map (fun d => d.parameters.length) = some 2 := by decide +kernel
theorem gkX3_124 : GoodIn AW (wsV RX3 124 RX4 yX4_freePieceFrom (ws_ yX4_freePieceFrom cX4_freePieceFrom 4 (some (.int)))) := gw_V w_177 w_178 w_179 w_33 w_180
theorem ekX3_124 : yX4_freePieceFrom.cls = RX4 ∧ yX4_freePieceFrom.cls ≠ "java/lang/invoke/MethodHandle" ∧ yX4_freePieceFrom.cls ≠ "java/lang/invoke/VarHandle" ∧ (parseMethodDescriptor yX4_freePieceFrom.desc).map (fun d => d.parameters.length) = some 2 := by decide +kernel
theorem gkX4_67 : GoodIn AW (ws_ yX6_isWithinNight cX6_isWithinNight 2 (some (.boolean))) := gw_ws w_181
theorem ekX4_67 : (parseMethodDescriptor yX6_isWithinNight.desc).map (fun d => d.parameters.length) = some 2 := by decide +kernel
theorem gkX4_71 : GoodIn AW (wsV RX4 71 RX4 yX4_wentBy (ws_ yX4_wentBy cX4_wentBy 2 (some (.boolean)))) := gw_V w_184 w_75 w_76 w_33 w_77
theorem ekX4_71 : yX4_wentBy.cls = RX4 ∧ yX4_wentBy.cls ≠ "java/lang/invoke/MethodHandle" ∧ yX4_wentBy.cls ≠ "java/lang/invoke/VarHandle" ∧ (parseMethodDescriptor yX4_wentBy.desc).map (fun d => d.parameters.length) = some 1 := by decide +kernel
theorem gkX4_75 : GoodIn AW (wsV RX4 75 RX4 yX4_hoursWithBed (ws_ yX4_hoursWithBed cX4_hoursWithBed 6 (some (.int)))) := gw_V w_185 w_83 w_84 w_33 w_85
theorem ekX4_75 : yX4_hoursWithBed.cls = RX4 ∧ yX4_hoursWithBed.cls ≠ "java/lang/invoke/MethodHandle" ∧ yX4_hoursWithBed.cls ≠ "java/lang/invoke/VarHandle" ∧ (parseMethodDescriptor yX4_hoursWithBed.desc).map (fun d => d.parameters.length) = some 3 := by decide +kernel
theorem gkX4_78 : GoodIn AW (wsV RX4 78 RX4 yX4_leastLentBed (ws_ yX4_leastLentBed cX4_leastLentBed 5 (some (.int)))) := gw_V w_186 w_97 w_98 w_33 w_99
theorem ekX4_78 : yX4_leastLentBed.cls = RX4 ∧ yX4_leastLentBed.cls ≠ "java/lang/invoke/MethodHandle" ∧ yX4_leastLentBed.cls ≠ "java/lang/invoke/VarHandle" ∧ (parseMethodDescriptor yX4_leastLentBed.desc).map (fun d => d.parameters.length) = some 2 := by decide +kernel
theorem gkX4_63 : GoodIn AW (wsV RX4 63 RX4 yX4_isOpenTo (ws_ yX4_isOpenTo cX4_isOpenTo 4 (some (.boolean)))) := gw_V w_187 w_188 w_189 w_33 w_190
theorem ekX4_63 : yX4_isOpenTo.cls = RX4 ∧ yX4_isOpenTo.cls ≠ "java/lang/invoke/MethodHandle" ∧ yX4_isOpenTo.cls ≠ "java/lang/invoke/VarHandle" ∧ (parseMethodDescriptor yX4_isOpenTo.desc).map (fun d => d.parameters.length) = some 3 := by decide +kernel
theorem gkX5_26 : GoodIn AW (wsV RX5 26 RX5 yX5_houseIn (ws_ yX5_houseIn cX5_houseIn 2 (some ((.object "SevenAsks$House"))))) := gw_V w_194 w_195 w_196 w_197 w_198
theorem ekX5_26 : yX5_houseIn.cls = RX5 ∧ yX5_houseIn.cls ≠ "java/lang/invoke/MethodHandle" ∧ yX5_houseIn.cls ≠ "java/lang/invoke/VarHandle" ∧ (parseMethodDescriptor yX5_houseIn.desc).map (fun d => d.parameters.length) = some 1 := by decide +kernel
theorem gkX5_30 : GoodIn AW (wsV RX5 30 RX3 yX3_copyFrom (ws_ yX3_copyFrom cX3_copyFrom 2 none)) := gw_V w_199 w_200 w_201 w_90 w_202
theorem ekX5_30 : yX3_copyFrom.cls = RX3 ∧ yX3_copyFrom.cls ≠ "java/lang/invoke/MethodHandle" ∧ yX3_copyFrom.cls ≠ "java/lang/invoke/VarHandle" ∧ (parseMethodDescriptor yX3_copyFrom.desc).map (fun d => d.parameters.length) = some 1 := by decide +kernel
theorem gkX6_125 : GoodIn AW (wsV RX6 125 RX3 yX3_account (ws_ yX3_account cX3_account 2 (some (.int)))) := gw_V w_204 w_205 w_206 w_90 w_207
theorem ekX6_125 : yX3_account.cls = RX3 ∧ yX3_account.cls ≠ "java/lang/invoke/MethodHandle" ∧ yX3_account.cls ≠ "java/lang/invoke/VarHandle" ∧ (parseMethodDescriptor yX3_account.desc).map (fun d => d.parameters.length) = some 1 := by decide +kernel
theorem gkX6_245 : GoodIn AW (wsV RX6 245 RX0 yX0_tellsHour (ws_ yX0_tellsHour cX0_tellsHour 2 (some (.boolean)))) := gw_V w_213 w_214 w_215 w_8 w_216
theorem ekX6_245 : yX0_tellsHour.cls = RX0 ∧ yX0_tellsHour.cls ≠ "java/lang/invoke/MethodHandle" ∧ yX0_tellsHour.cls ≠ "java/lang/invoke/VarHandle" ∧ (parseMethodDescriptor yX0_tellsHour.desc).map (fun d => d.parameters.length) = some 1 := by decide +kernel
theorem gkX6_248 : GoodIn AW (wsV RX6 248 RX0 yX0_firstHour (ws_ yX0_firstHour cX0_firstHour 2 (some (.int)))) := gw_V w_217 w_218 w_219 w_8 w_220
theorem ekX6_248 : yX0_firstHour.cls = RX0 ∧ yX0_firstHour.cls ≠ "java/lang/invoke/MethodHandle" ∧ yX0_firstHour.cls ≠ "java/lang/invoke/VarHandle" ∧ (parseMethodDescriptor yX0_firstHour.desc).map (fun d => d.parameters.length) = some 1 := by decide +kernel
theorem gkX6_254 : GoodIn AW (wsV RX6 254 RX0 yX0_hours (ws_ yX0_hours cX0_hours 2 (some (.int)))) := gw_V w_221 w_222 w_223 w_8 w_224
theorem ekX6_254 : yX0_hours.cls = RX0 ∧ yX0_hours.cls ≠ "java/lang/invoke/MethodHandle" ∧ yX0_hours.cls ≠ "java/lang/invoke/VarHandle" ∧ (parseMethodDescriptor yX0_hours.desc).map (fun d => d.parameters.length) = some 1 := by decide +kernel
theorem gkX6_236 : GoodIn AW (va_wsS RX6 236 yX6_isWithinNight (ws_ yX6_isWithinNight cX6_isWithinNight 2 (some (.boolean)))) := gw_S w_225 w_182 w_183 w_181
theorem ekX6_236 : yX6_isWithinNight.cls ≠ "java/lang/invoke/MethodHandle" ∧ yX6_isWithinNight.cls ≠ "java/lang/invoke/VarHandle" ∧ (parseMethodDescriptor yX6_isWithinNight.desc).map (fun d => d.parameters.length) = some 2 := by decide +kernel
theorem gkX6_73 : GoodIn AW (wsV RX6 73 RX3 yX3_canLetHourGo (ws_ yX3_canLetHourGo cX3_canLetHourGo 1 (some (.boolean)))) := gw_V w_226 w_227 w_228 w_90 w_229
theorem ekX6_73 : yX3_canLetHourGo.cls = RX3 ∧ yX3_canLetHourGo.cls ≠ "java/lang/invoke/MethodHandle" ∧ yX3_canLetHourGo.cls ≠ "java/lang/invoke/VarHandle" ∧ (parseMethodDescriptor yX3_canLetHourGo.desc).map (fun d => d.parameters.length) = some 0 := by decide +kernel
theorem gkX6_104 : GoodIn AW (wsV RX6 104 RX0 yX0_empty (ws_ yX0_empty cX0_empty 2 (some (.int)))) := gw_V w_230 w_231 w_232 w_8 w_233
theorem ekX6_104 : yX0_empty.cls = RX0 ∧ yX0_empty.cls ≠ "java/lang/invoke/MethodHandle" ∧ yX0_empty.cls ≠ "java/lang/invoke/VarHandle" ∧ (parseMethodDescriptor yX0_empty.desc).map (fun d => d.parameters.length) = some 0 := by decide +kernel
theorem gkX6_169 : GoodIn AW (wsV RX6 169 RX3 yX3_refusedFor (ws_ yX3_refusedFor cX3_refusedFor 2 (some (.int)))) := gw_V w_235 w_236 w_237 w_90 w_238
theorem ekX6_169 : yX3_refusedFor.cls = RX3 ∧ yX3_refusedFor.cls ≠ "java/lang/invoke/MethodHandle" ∧ yX3_refusedFor.cls ≠ "java/lang/invoke/VarHandle" ∧ (parseMethodDescriptor yX3_refusedFor.desc).map (fun d => d.parameters.length) = some 1 := by decide +kernel
theorem gkX6_207 : GoodIn AW (va_wsS RX6 207 yX6_mixed (ws_ yX6_mixed cX6_mixed 4 (some (.long)))) := gw_S w_240 w_241 w_183 w_242
theorem ekX6_207 : yX6_mixed.cls ≠ "java/lang/invoke/MethodHandle" ∧ yX6_mixed.cls ≠ "java/lang/invoke/VarHandle" ∧ (parseMethodDescriptor yX6_mixed.desc).map (fun d => d.parameters.length) = some 2 := by decide +kernel
theorem gkX6_166 : GoodIn AW (wsV RX6 166 RX6 yX6_accountOf (ws_ yX6_accountOf cX6_accountOf 2 (some (.int)))) := gw_V w_243 w_244 w_245 w_183 w_246
theorem ekX6_166 : yX6_accountOf.cls = RX6 ∧ yX6_accountOf.cls ≠ "java/lang/invoke/MethodHandle" ∧ yX6_accountOf.cls ≠ "java/lang/invoke/VarHandle" ∧ (parseMethodDescriptor yX6_accountOf.desc).map (fun d => d.parameters.length) = some 1 := by decide +kernel
theorem gkX6_197 : GoodIn AW (wsV RX6 197 RX6 yX6_withAccounts (ws_ yX6_withAccounts cX6_withAccounts 6 (some (.long)))) := gw_V w_247 w_248 w_249 w_183 w_250
theorem ekX6_197 : yX6_withAccounts.cls = RX6 ∧ yX6_withAccounts.cls ≠ "java/lang/invoke/MethodHandle" ∧ yX6_withAccounts.cls ≠ "java/lang/invoke/VarHandle" ∧ (parseMethodDescriptor yX6_withAccounts.desc).map (fun d => d.parameters.length) = some 1 := by decide +kernel
theorem gkX6_155 : GoodIn AW (wsV RX6 155 RX4 yX4_holder (ws_ yX4_holder cX4_holder 3 (some (.int)))) := gw_V w_251 w_252 w_253 w_33 w_254
theorem ekX6_155 : yX4_holder.cls = RX4 ∧ yX4_holder.cls ≠ "java/lang/invoke/MethodHandle" ∧ yX4_holder.cls ≠ "java/lang/invoke/VarHandle" ∧ (parseMethodDescriptor yX4_holder.desc).map (fun d => d.parameters.length) = some 2 := by decide +kernel
theorem gkX6_201 : GoodIn AW (wsV RX6 201 RX6 yX6_withBeds (ws_ yX6_withBeds cX6_withBeds 7 (some (.long)))) := gw_V w_255 w_256 w_257 w_183 w_258
theorem ekX6_201 : yX6_withBeds.cls = RX6 ∧ yX6_withBeds.cls ≠ "java/lang/invoke/MethodHandle" ∧ yX6_withBeds.cls ≠ "java/lang/invoke/VarHandle" ∧ (parseMethodDescriptor yX6_withBeds.desc).map (fun d => d.parameters.length) = some 1 := by decide +kernel
theorem gkX6_185 : GoodIn AW (wsV RX6 185 RX4 yX4_longestFor (ws_ yX4_longestFor cX4_longestFor 4 (some (.int)))) := gw_V w_259 w_260 w_261 w_33 w_262
theorem ekX6_185 : yX4_longestFor.cls = RX4 ∧ yX4_longestFor.cls ≠ "java/lang/invoke/MethodHandle" ∧ yX4_longestFor.cls ≠ "java/lang/invoke/VarHandle" ∧ (parseMethodDescriptor yX4_longestFor.desc).map (fun d => d.parameters.length) = some 2 := by decide +kernel
theorem gkX6_172 : GoodIn AW (wsV RX6 172 RX3 yX3_answerTo (ws_ yX3_answerTo cX3_answerTo 6 (some (.int)))) := gw_V w_263 w_165 w_166 w_90 w_167
theorem ekX6_172 : yX3_answerTo.cls = RX3 ∧ yX3_answerTo.cls ≠ "java/lang/invoke/MethodHandle" ∧ yX3_answerTo.cls ≠ "java/lang/invoke/VarHandle" ∧ (parseMethodDescriptor yX3_answerTo.desc).map (fun d => d.parameters.length) = some 3 := by decide +kernel
theorem gkX6_175 : GoodIn AW (wsV RX6 175 RX3 yX3_wouldBePutOut (ws_ yX3_wouldBePutOut cX3_wouldBePutOut 5 (some (.int)))) := gw_V w_264 w_265 w_266 w_90 w_267
theorem ekX6_175 : yX3_wouldBePutOut.cls = RX3 ∧ yX3_wouldBePutOut.cls ≠ "java/lang/invoke/MethodHandle" ∧ yX3_wouldBePutOut.cls ≠ "java/lang/invoke/VarHandle" ∧ (parseMethodDescriptor yX3_wouldBePutOut.desc).map (fun d => d.parameters.length) = some 3 := by decide +kernel
theorem gkX6_163 : GoodIn AW (wsV RX6 163 RX3 yX3_lodgerNumber (ws_ yX3_lodgerNumber cX3_lodgerNumber 3 (some (.int)))) := gw_V w_268 w_269 w_270 w_90 w_271
theorem ekX6_163 : yX3_lodgerNumber.cls = RX3 ∧ yX3_lodgerNumber.cls ≠ "java/lang/invoke/MethodHandle" ∧ yX3_lodgerNumber.cls ≠ "java/lang/invoke/VarHandle" ∧ (parseMethodDescriptor yX3_lodgerNumber.desc).map (fun d => d.parameters.length) = some 2 := by decide +kernel
theorem gkX6_204 : GoodIn AW (wsV RX6 204 RX6 yX6_withLodgers (ws_ yX6_withLodgers cX6_withLodgers 7 (some (.long)))) := gw_V w_272 w_273 w_274 w_183 w_275
theorem ekX6_204 : yX6_withLodgers.cls = RX6 ∧ yX6_withLodgers.cls ≠ "java/lang/invoke/MethodHandle" ∧ yX6_withLodgers.cls ≠ "java/lang/invoke/VarHandle" ∧ (parseMethodDescriptor yX6_withLodgers.desc).map (fun d => d.parameters.length) = some 1 := by decide +kernel
theorem gkX6_178 : GoodIn AW (wsV RX6 178 RX1 yX1_bedsFor (ws_ yX1_bedsFor cX1_bedsFor 5 (some (.int)))) := gw_V w_277 w_278 w_279 w_42 w_280
theorem ekX6_178 : yX1_bedsFor.cls = RX1 ∧ yX1_bedsFor.cls ≠ "java/lang/invoke/MethodHandle" ∧ yX1_bedsFor.cls ≠ "java/lang/invoke/VarHandle" ∧ (parseMethodDescriptor yX1_bedsFor.desc).map (fun d => d.parameters.length) = some 1 := by decide +kernel
theorem gkX6_182 : GoodIn AW (wsV RX6 182 RX4 yX4_mostLentBeds (ws_ yX4_mostLentBeds cX4_mostLentBeds 3 (some (.int)))) := gw_V w_281 w_282 w_283 w_33 w_284
theorem ekX6_182 : yX4_mostLentBeds.cls = RX4 ∧ yX4_mostLentBeds.cls ≠ "java/lang/invoke/MethodHandle" ∧ yX4_mostLentBeds.cls ≠ "java/lang/invoke/VarHandle" ∧ (parseMethodDescriptor yX4_mostLentBeds.desc).map (fun d => d.parameters.length) = some 0 := by decide +kernel
theorem gkX6_188 : GoodIn AW (wsV RX6 188 RX3 yX3_poorestLodger (ws_ yX3_poorestLodger cX3_poorestLodger 3 (some (.int)))) := gw_V w_285 w_286 w_287 w_90 w_288
theorem ekX6_188 : yX3_poorestLodger.cls = RX3 ∧ yX3_poorestLodger.cls ≠ "java/lang/invoke/MethodHandle" ∧ yX3_poorestLodger.cls ≠ "java/lang/invoke/VarHandle" ∧ (parseMethodDescriptor yX3_poorestLodger.desc).map (fun d => d.parameters.length) = some 0 := by decide +kernel
theorem gkX6_191 : GoodIn AW (wsV RX6 191 RX3 yX3_shareLent (ws_ yX3_shareLent cX3_shareLent 1 (some (.double)))) := gw_V w_289 w_290 w_291 w_90 w_292
theorem ekX6_191 : yX3_shareLent.cls = RX3 ∧ yX3_shareLent.cls ≠ "java/lang/invoke/MethodHandle" ∧ yX3_shareLent.cls ≠ "java/lang/invoke/VarHandle" ∧ (parseMethodDescriptor yX3_shareLent.desc).map (fun d => d.parameters.length) = some 0 := by decide +kernel
theorem gkX6_211 : GoodIn AW (va_wsS RX6 211 yX6_bitsOf (ws_ yX6_bitsOf cX6_bitsOf 8 (some (.long)))) := gw_S w_293 w_294 w_183 w_295
theorem ekX6_211 : yX6_bitsOf.cls ≠ "java/lang/invoke/MethodHandle" ∧ yX6_bitsOf.cls ≠ "java/lang/invoke/VarHandle" ∧ (parseMethodDescriptor yX6_bitsOf.desc).map (fun d => d.parameters.length) = some 1 := by decide +kernel
theorem gkX6_220 : GoodIn AW (wsV RX6 220 RX0 yX0_size (ws_ yX0_size cX0_size 1 (some (.int)))) := gw_V w_296 w_297 w_298 w_8 w_299
theorem ekX6_220 : yX0_size.cls = RX0 ∧ yX0_size.cls ≠ "java/lang/invoke/MethodHandle" ∧ yX0_size.cls ≠ "java/lang/invoke/VarHandle" ∧ (parseMethodDescriptor yX0_size.desc).map (fun d => d.parameters.length) = some 0 := by decide +kernel
theorem gkX6_223 : GoodIn AW (wsV RX6 223 RX0 yX0_sign (ws_ yX0_sign cX0_sign 2 (some (.int)))) := gw_V w_300 w_6 w_7 w_8 w_9
theorem ekX6_223 : yX0_sign.cls = RX0 ∧ yX0_sign.cls ≠ "java/lang/invoke/MethodHandle" ∧ yX0_sign.cls ≠ "java/lang/invoke/VarHandle" ∧ (parseMethodDescriptor yX0_sign.desc).map (fun d => d.parameters.length) = some 1 := by decide +kernel
theorem gkX6_215 : GoodIn AW (wsV RX6 215 RX6 yX6_withText (ws_ yX6_withText cX6_withText 6 (some (.long)))) := gw_V w_301 w_302 w_303 w_183 w_304
theorem ekX6_215 : yX6_withText.cls = RX6 ∧ yX6_withText.cls ≠ "java/lang/invoke/MethodHandle" ∧ yX6_withText.cls ≠ "java/lang/invoke/VarHandle" ∧ (parseMethodDescriptor yX6_withText.desc).map (fun d => d.parameters.length) = some 1 := by decide +kernel
theorem gkX6_128 : GoodIn AW (wsV RX6 128 RX5 yX5_isFilled (ws_ yX5_isFilled cX5_isFilled 2 (some (.boolean)))) := gw_V w_306 w_307 w_308 w_197 w_309
theorem ekX6_128 : yX5_isFilled.cls = RX5 ∧ yX5_isFilled.cls ≠ "java/lang/invoke/MethodHandle" ∧ yX5_isFilled.cls ≠ "java/lang/invoke/VarHandle" ∧ (parseMethodDescriptor yX5_isFilled.desc).map (fun d => d.parameters.length) = some 1 := by decide +kernel
theorem gkX6_242 : GoodIn AW (wsV RX6 242 RX6 yX6_canDo (ws_ yX6_canDo cX6_canDo 2 (some (.boolean)))) := gw_V w_310 w_311 w_312 w_183 w_313
theorem ekX6_242 : yX6_canDo.cls = RX6 ∧ yX6_canDo.cls ≠ "java/lang/invoke/MethodHandle" ∧ yX6_canDo.cls ≠ "java/lang/invoke/VarHandle" ∧ (parseMethodDescriptor yX6_canDo.desc).map (fun d => d.parameters.length) = some 1 := by decide +kernel
theorem gkX6_251 : GoodIn AW (wsV RX6 251 RX0 yX0_lodger (ws_ yX0_lodger cX0_lodger 2 (some (.int)))) := gw_V w_314 w_315 w_316 w_8 w_317
theorem ekX6_251 : yX0_lodger.cls = RX0 ∧ yX0_lodger.cls ≠ "java/lang/invoke/MethodHandle" ∧ yX0_lodger.cls ≠ "java/lang/invoke/VarHandle" ∧ (parseMethodDescriptor yX0_lodger.desc).map (fun d => d.parameters.length) = some 1 := by decide +kernel
theorem gkX6_49 : GoodIn AW (wsV RX6 49 RX3 yX3_takeAsking (ws_ yX3_takeAsking cX3_takeAsking 5 (some (.int)))) := gw_V w_318 w_319 w_320 w_90 w_321
theorem ekX6_49 : yX3_takeAsking.cls = RX3 ∧ yX3_takeAsking.cls ≠ "java/lang/invoke/MethodHandle" ∧ yX3_takeAsking.cls ≠ "java/lang/invoke/VarHandle" ∧ (parseMethodDescriptor yX3_takeAsking.desc).map (fun d => d.parameters.length) = some 3 := by decide +kernel
theorem gkX6_84 : GoodIn AW (wsV RX6 84 RX3 yX3_letHourGo (ws_ yX3_letHourGo cX3_letHourGo 4 (some (.int)))) := gw_V w_322 w_323 w_324 w_90 w_325
theorem ekX6_84 : yX3_letHourGo.cls = RX3 ∧ yX3_letHourGo.cls ≠ "java/lang/invoke/MethodHandle" ∧ yX3_letHourGo.cls ≠ "java/lang/invoke/VarHandle" ∧ (parseMethodDescriptor yX3_letHourGo.desc).map (fun d => d.parameters.length) = some 0 := by decide +kernel
theorem gkX6_107 : GoodIn AW (wsV RX6 107 RX0 yX0_errorPlace (ws_ yX0_errorPlace cX0_errorPlace 3 (some (.int)))) := gw_V w_326 w_327 w_328 w_8 w_329
theorem ekX6_107 : yX0_errorPlace.cls = RX0 ∧ yX0_errorPlace.cls ≠ "java/lang/invoke/MethodHandle" ∧ yX0_errorPlace.cls ≠ "java/lang/invoke/VarHandle" ∧ (parseMethodDescriptor yX0_errorPlace.desc).map (fun d => d.parameters.length) = some 0 := by decide +kernel
theorem gkX6_121 : GoodIn AW (wsV RX6 121 RX5 yX5_store (ws_ yX5_store cX5_store 4 none)) := gw_V w_332 w_333 w_334 w_197 w_335
theorem ekX6_121 : yX5_store.cls = RX5 ∧ yX5_store.cls ≠ "java/lang/invoke/MethodHandle" ∧ yX5_store.cls ≠ "java/lang/invoke/VarHandle" ∧ (parseMethodDescriptor yX5_store.desc).map (fun d => d.parameters.length) = some 2 := by decide +kernel
theorem gkX6_46 : GoodIn AW (wsV RX6 46 RX6 yX6_saveState (ws_ yX6_saveState cX6_saveState 1 none)) := gw_V w_336 w_337 w_338 w_183 w_339
theorem ekX6_46 : yX6_saveState.cls = RX6 ∧ yX6_saveState.cls ≠ "java/lang/invoke/MethodHandle" ∧ yX6_saveState.cls ≠ "java/lang/invoke/VarHandle" ∧ (parseMethodDescriptor yX6_saveState.desc).map (fun d => d.parameters.length) = some 0 := by decide +kernel
theorem gkX6_110 : GoodIn AW (wsV RX6 110 RX0 yX0_tellsAskings (ws_ yX0_tellsAskings cX0_tellsAskings 3 (some (.boolean)))) := gw_V w_340 w_341 w_342 w_8 w_343
theorem ekX6_110 : yX0_tellsAskings.cls = RX0 ∧ yX0_tellsAskings.cls ≠ "java/lang/invoke/MethodHandle" ∧ yX0_tellsAskings.cls ≠ "java/lang/invoke/VarHandle" ∧ (parseMethodDescriptor yX0_tellsAskings.desc).map (fun d => d.parameters.length) = some 0 := by decide +kernel
theorem gkX6_115 : GoodIn AW (wsV RX6 115 RX6 yX6_doText (ws_ yX6_doText cX6_doText 5 (some (.int)))) := gw_V w_344 w_345 w_346 w_183 w_347
theorem ekX6_115 : yX6_doText.cls = RX6 ∧ yX6_doText.cls ≠ "java/lang/invoke/MethodHandle" ∧ yX6_doText.cls ≠ "java/lang/invoke/VarHandle" ∧ (parseMethodDescriptor yX6_doText.desc).map (fun d => d.parameters.length) = some 0 := by decide +kernel
theorem gkX6_134 : GoodIn AW (wsV RX6 134 RX5 yX5_restore (ws_ yX5_restore cX5_restore 4 none)) := gw_V w_348 w_349 w_350 w_197 w_351
theorem ekX6_134 : yX5_restore.cls = RX5 ∧ yX5_restore.cls ≠ "java/lang/invoke/MethodHandle" ∧ yX5_restore.cls ≠ "java/lang/invoke/VarHandle" ∧ (parseMethodDescriptor yX5_restore.desc).map (fun d => d.parameters.length) = some 2 := by decide +kernel
theorem gkX7_33 : GoodIn AW (va_wsS RX7 33 yX7_in (ws_ yX7_in cX7_in 3 (some (.boolean)))) := gw_S w_352 w_353 w_354 w_355
theorem ekX7_33 : yX7_in.cls ≠ "java/lang/invoke/MethodHandle" ∧ yX7_in.cls ≠ "java/lang/invoke/VarHandle" ∧ (parseMethodDescriptor yX7_in.desc).map (fun d => d.parameters.length) = some 3 := by decide +kernel
theorem gkX7_78 : GoodIn AW (wsV RX7 78 RX7 yX7_holds (ws_ yX7_holds cX7_holds 2 (some (.boolean)))) := gw_V w_358 w_359 w_360 w_354 w_361
theorem ekX7_78 : yX7_holds.cls = RX7 ∧ yX7_holds.cls ≠ "java/lang/invoke/MethodHandle" ∧ yX7_holds.cls ≠ "java/lang/invoke/VarHandle" ∧ (parseMethodDescriptor yX7_holds.desc).map (fun d => d.parameters.length) = some 1 := by decide +kernel
theorem gkX7_70 : GoodIn AW (va_wsS RX7 70 yX7_isLodger (ws_ yX7_isLodger cX7_isLodger 1 (some (.boolean)))) := gw_S w_363 w_364 w_354 w_365
theorem ekX7_70 : yX7_isLodger.cls ≠ "java/lang/invoke/MethodHandle" ∧ yX7_isLodger.cls ≠ "java/lang/invoke/VarHandle" ∧ (parseMethodDescriptor yX7_isLodger.desc).map (fun d => d.parameters.length) = some 1 := by decide +kernel
theorem gkX7_74 : GoodIn AW (va_wsS RX7 74 yX7_isTime (ws_ yX7_isTime cX7_isTime 2 (some (.boolean)))) := gw_S w_366 w_367 w_354 w_368
theorem ekX7_74 : yX7_isTime.cls ≠ "java/lang/invoke/MethodHandle" ∧ yX7_isTime.cls ≠ "java/lang/invoke/VarHandle" ∧ (parseMethodDescriptor yX7_isTime.desc).map (fun d => d.parameters.length) = some 2 := by decide +kernel
theorem gkX7_81 : GoodIn AW (wsV RX7 81 RX7 yX7_save (ws_ yX7_save cX7_save 2 none)) := gw_V w_372 w_373 w_374 w_354 w_375
theorem ekX7_81 : yX7_save.cls = RX7 ∧ yX7_save.cls ≠ "java/lang/invoke/MethodHandle" ∧ yX7_save.cls ≠ "java/lang/invoke/VarHandle" ∧ (parseMethodDescriptor yX7_save.desc).map (fun d => d.parameters.length) = some 0 := by decide +kernel
theorem gkX7_40 : GoodIn AW (va_wsS RX7 40 yX7_ofBed (ws_ yX7_ofBed cX7_ofBed 2 (some (.int)))) := gw_S w_376 w_377 w_354 w_378
theorem ekX7_40 : yX7_ofBed.cls ≠ "java/lang/invoke/MethodHandle" ∧ yX7_ofBed.cls ≠ "java/lang/invoke/VarHandle" ∧ (parseMethodDescriptor yX7_ofBed.desc).map (fun d => d.parameters.length) = some 2 := by decide +kernel
theorem gkX7_47 : GoodIn AW (wsV RX7 47 RX7 yX7_bedOf (ws_ yX7_bedOf cX7_bedOf 5 (some (.int)))) := gw_V w_379 w_380 w_381 w_354 w_382
theorem ekX7_47 : yX7_bedOf.cls = RX7 ∧ yX7_bedOf.cls ≠ "java/lang/invoke/MethodHandle" ∧ yX7_bedOf.cls ≠ "java/lang/invoke/VarHandle" ∧ (parseMethodDescriptor yX7_bedOf.desc).map (fun d => d.parameters.length) = some 2 := by decide +kernel
theorem gkX7_50 : GoodIn AW (wsV RX7 50 RX7 yX7_hasBed (ws_ yX7_hasBed cX7_hasBed 6 (some (.boolean)))) := gw_V w_383 w_384 w_385 w_354 w_386
theorem ekX7_50 : yX7_hasBed.cls = RX7 ∧ yX7_hasBed.cls ≠ "java/lang/invoke/MethodHandle" ∧ yX7_hasBed.cls ≠ "java/lang/invoke/VarHandle" ∧ (parseMethodDescriptor yX7_hasBed.desc).map (fun d => d.parameters.length) = some 3 := by decide +kernel
theorem gkX7_25 : GoodIn AW (va_wsS RX7 25 yX7_of (ws_ yX7_of cX7_of 2 (some (.int)))) := gw_S w_387 w_388 w_354 w_389
theorem ekX7_25 : yX7_of.cls ≠ "java/lang/invoke/MethodHandle" ∧ yX7_of.cls ≠ "java/lang/invoke/VarHandle" ∧ (parseMethodDescriptor yX7_of.desc).map (fun d => d.parameters.length) = some 2 := by decide +kernel
theorem gkX7_43 : GoodIn AW (wsV RX7 43 RX7 yX7_lentIn (ws_ yX7_lentIn cX7_lentIn 6 (some (.int)))) := gw_V w_390 w_391 w_392 w_354 w_393
theorem ekX7_43 : yX7_lentIn.cls = RX7 ∧ yX7_lentIn.cls ≠ "java/lang/invoke/MethodHandle" ∧ yX7_lentIn.cls ≠ "java/lang/invoke/VarHandle" ∧ (parseMethodDescriptor yX7_lentIn.desc).map (fun d => d.parameters.length) = some 3 := by decide +kernel
theorem gkX7_53 : GoodIn AW (wsV RX7 53 RX7 yX7_emptiest (ws_ yX7_emptiest cX7_emptiest 5 (some (.int)))) := gw_V w_394 w_395 w_396 w_354 w_397
theorem ekX7_53 : yX7_emptiest.cls = RX7 ∧ yX7_emptiest.cls ≠ "java/lang/invoke/MethodHandle" ∧ yX7_emptiest.cls ≠ "java/lang/invoke/VarHandle" ∧ (parseMethodDescriptor yX7_emptiest.desc).map (fun d => d.parameters.length) = some 2 := by decide +kernel
theorem gkX7_63 : GoodIn AW (wsV RX7 63 RX7 yX7_hindrance (ws_ yX7_hindrance cX7_hindrance 4 (some (.int)))) := gw_V w_398 w_399 w_400 w_354 w_401
theorem ekX7_63 : yX7_hindrance.cls = RX7 ∧ yX7_hindrance.cls ≠ "java/lang/invoke/MethodHandle" ∧ yX7_hindrance.cls ≠ "java/lang/invoke/VarHandle" ∧ (parseMethodDescriptor yX7_hindrance.desc).map (fun d => d.parameters.length) = some 3 := by decide +kernel
theorem gkX7_56 : GoodIn AW (wsV RX7 56 RX7 yX7_frees (ws_ yX7_frees cX7_frees 6 none)) := gw_V w_403 w_404 w_405 w_354 w_406
theorem ekX7_56 : yX7_frees.cls = RX7 ∧ yX7_frees.cls ≠ "java/lang/invoke/MethodHandle" ∧ yX7_frees.cls ≠ "java/lang/invoke/VarHandle" ∧ (parseMethodDescriptor yX7_frees.desc).map (fun d => d.parameters.length) = some 3 := by decide +kernel
theorem gkX7_66 : GoodIn AW (wsV RX7 66 RX7 yX7_putsOut (ws_ yX7_putsOut cX7_putsOut 4 none)) := gw_V w_407 w_408 w_409 w_354 w_410
theorem ekX7_66 : yX7_putsOut.cls = RX7 ∧ yX7_putsOut.cls ≠ "java/lang/invoke/MethodHandle" ∧ yX7_putsOut.cls ≠ "java/lang/invoke/VarHandle" ∧ (parseMethodDescriptor yX7_putsOut.desc).map (fun d => d.parameters.length) = some 2 := by decide +kernel
theorem gkX7_84 : GoodIn AW (wsV RX7 84 RX7 yX7_asks (ws_ yX7_asks cX7_asks 9 (some (.int)))) := gw_V w_411 w_412 w_413 w_354 w_414
theorem ekX7_84 : yX7_asks.cls = RX7 ∧ yX7_asks.cls ≠ "java/lang/invoke/MethodHandle" ∧ yX7_asks.cls ≠ "java/lang/invoke/VarHandle" ∧ (parseMethodDescriptor yX7_asks.desc).map (fun d => d.parameters.length) = some 3 := by decide +kernel
theorem gkX7_139 : GoodIn AW (wsV RX7 139 RX7 yX7_lent (ws_ yX7_lent cX7_lent 3 (some (.int)))) := gw_V w_419 w_420 w_421 w_354 w_422
theorem ekX7_139 : yX7_lent.cls = RX7 ∧ yX7_lent.cls ≠ "java/lang/invoke/MethodHandle" ∧ yX7_lent.cls ≠ "java/lang/invoke/VarHandle" ∧ (parseMethodDescriptor yX7_lent.desc).map (fun d => d.parameters.length) = some 0 := by decide +kernel
theorem gkX7_149 : GoodIn AW (wsV RX7 149 RX7 yX7_slept (ws_ yX7_slept cX7_slept 3 (some (.int)))) := gw_V w_423 w_424 w_425 w_354 w_426
theorem ekX7_149 : yX7_slept.cls = RX7 ∧ yX7_slept.cls ≠ "java/lang/invoke/MethodHandle" ∧ yX7_slept.cls ≠ "java/lang/invoke/VarHandle" ∧ (parseMethodDescriptor yX7_slept.desc).map (fun d => d.parameters.length) = some 0 := by decide +kernel
theorem gkX7_152 : GoodIn AW (wsV RX7 152 RX7 yX7_counted (ws_ yX7_counted cX7_counted 2 (some (.int)))) := gw_V w_427 w_428 w_429 w_354 w_430
theorem ekX7_152 : yX7_counted.cls = RX7 ∧ yX7_counted.cls ≠ "java/lang/invoke/MethodHandle" ∧ yX7_counted.cls ≠ "java/lang/invoke/VarHandle" ∧ (parseMethodDescriptor yX7_counted.desc).map (fun d => d.parameters.length) = some 1 := by decide +kernel
theorem gkX7_158 : GoodIn AW (wsV RX7 158 RX7 yX7_mostAtOnce (ws_ yX7_mostAtOnce cX7_mostAtOnce 5 (some (.int)))) := gw_V w_433 w_434 w_435 w_354 w_436
theorem ekX7_158 : yX7_mostAtOnce.cls = RX7 ∧ yX7_mostAtOnce.cls ≠ "java/lang/invoke/MethodHandle" ∧ yX7_mostAtOnce.cls ≠ "java/lang/invoke/VarHandle" ∧ (parseMethodDescriptor yX7_mostAtOnce.desc).map (fun d => d.parameters.length) = some 0 := by decide +kernel
theorem gkX7_187 : GoodIn AW (wsV RX7 187 RX7 yX7_digestOne (ws_ yX7_digestOne cX7_digestOne 3 none)) := gw_V w_438 w_439 w_440 w_354 w_441
theorem ekX7_187 : yX7_digestOne.cls = RX7 ∧ yX7_digestOne.cls ≠ "java/lang/invoke/MethodHandle" ∧ yX7_digestOne.cls ≠ "java/lang/invoke/VarHandle" ∧ (parseMethodDescriptor yX7_digestOne.desc).map (fun d => d.parameters.length) = some 1 := by decide +kernel
theorem gkX7_164 : GoodIn AW (wsV RX7 164 RX7 yX7_refusedMost (ws_ yX7_refusedMost cX7_refusedMost 4 (some (.int)))) := gw_V w_442 w_443 w_444 w_354 w_445
theorem ekX7_164 : yX7_refusedMost.cls = RX7 ∧ yX7_refusedMost.cls ≠ "java/lang/invoke/MethodHandle" ∧ yX7_refusedMost.cls ≠ "java/lang/invoke/VarHandle" ∧ (parseMethodDescriptor yX7_refusedMost.desc).map (fun d => d.parameters.length) = some 0 := by decide +kernel
theorem gkX7_169 : GoodIn AW (wsV RX7 169 RX7 yX7_share (ws_ yX7_share cX7_share 1 (some (.double)))) := gw_V w_447 w_448 w_449 w_354 w_450
theorem ekX7_169 : yX7_share.cls = RX7 ∧ yX7_share.cls ≠ "java/lang/invoke/MethodHandle" ∧ yX7_share.cls ≠ "java/lang/invoke/VarHandle" ∧ (parseMethodDescriptor yX7_share.desc).map (fun d => d.parameters.length) = some 0 := by decide +kernel
theorem gkX7_197 : GoodIn AW (va_wsS RX7 197 yX7_bitsOf (ws_ yX7_bitsOf cX7_bitsOf 6 (some (.long)))) := gw_S w_451 w_452 w_354 w_453
theorem ekX7_197 : yX7_bitsOf.cls ≠ "java/lang/invoke/MethodHandle" ∧ yX7_bitsOf.cls ≠ "java/lang/invoke/VarHandle" ∧ (parseMethodDescriptor yX7_bitsOf.desc).map (fun d => d.parameters.length) = some 1 := by decide +kernel
theorem gkX7_161 : GoodIn AW (wsV RX7 161 RX7 yX7_longestFor (ws_ yX7_longestFor cX7_longestFor 6 (some (.int)))) := gw_V w_455 w_456 w_457 w_354 w_458
theorem ekX7_161 : yX7_longestFor.cls = RX7 ∧ yX7_longestFor.cls ≠ "java/lang/invoke/MethodHandle" ∧ yX7_longestFor.cls ≠ "java/lang/invoke/VarHandle" ∧ (parseMethodDescriptor yX7_longestFor.desc).map (fun d => d.parameters.length) = some 2 := by decide +kernel
theorem gkX7_155 : GoodIn AW (wsV RX7 155 RX7 yX7_would (ws_ yX7_would cX7_would 6 (some (.int)))) := gw_V w_460 w_461 w_462 w_354 w_463
theorem ekX7_155 : yX7_would.cls = RX7 ∧ yX7_would.cls ≠ "java/lang/invoke/MethodHandle" ∧ yX7_would.cls ≠ "java/lang/invoke/VarHandle" ∧ (parseMethodDescriptor yX7_would.desc).map (fun d => d.parameters.length) = some 3 := by decide +kernel
theorem gkX7_142 : GoodIn AW (wsV RX7 142 RX7 yX7_lentTo (ws_ yX7_lentTo cX7_lentTo 4 (some (.int)))) := gw_V w_464 w_465 w_466 w_354 w_467
theorem ekX7_142 : yX7_lentTo.cls = RX7 ∧ yX7_lentTo.cls ≠ "java/lang/invoke/MethodHandle" ∧ yX7_lentTo.cls ≠ "java/lang/invoke/VarHandle" ∧ (parseMethodDescriptor yX7_lentTo.desc).map (fun d => d.parameters.length) = some 1 := by decide +kernel
theorem gkX7_146 : GoodIn AW (wsV RX7 146 RX7 yX7_ofLodger (ws_ yX7_ofLodger cX7_ofLodger 3 (some (.int)))) := gw_V w_468 w_469 w_470 w_354 w_471
theorem ekX7_146 : yX7_ofLodger.cls = RX7 ∧ yX7_ofLodger.cls ≠ "java/lang/invoke/MethodHandle" ∧ yX7_ofLodger.cls ≠ "java/lang/invoke/VarHandle" ∧ (parseMethodDescriptor yX7_ofLodger.desc).map (fun d => d.parameters.length) = some 2 := by decide +kernel
theorem gkX7_193 : GoodIn AW (wsV RX7 193 RX7 yX7_digestLodger (ws_ yX7_digestLodger cX7_digestLodger 3 none)) := gw_V w_472 w_473 w_474 w_354 w_475
theorem ekX7_193 : yX7_digestLodger.cls = RX7 ∧ yX7_digestLodger.cls ≠ "java/lang/invoke/MethodHandle" ∧ yX7_digestLodger.cls ≠ "java/lang/invoke/VarHandle" ∧ (parseMethodDescriptor yX7_digestLodger.desc).map (fun d => d.parameters.length) = some 1 := by decide +kernel
theorem gkX7_94 : GoodIn AW (wsV RX7 94 RX7 yX7_passes (ws_ yX7_passes cX7_passes 4 (some (.int)))) := gw_V w_479 w_480 w_481 w_354 w_482
theorem ekX7_94 : yX7_passes.cls = RX7 ∧ yX7_passes.cls ≠ "java/lang/invoke/MethodHandle" ∧ yX7_passes.cls ≠ "java/lang/invoke/VarHandle" ∧ (parseMethodDescriptor yX7_passes.desc).map (fun d => d.parameters.length) = some 0 := by decide +kernel
theorem gkX7_87 : GoodIn AW (wsV RX7 87 RX7 yX7_refuses (ws_ yX7_refuses cX7_refuses 1 (some (.int)))) := gw_V w_483 w_484 w_485 w_354 w_486
theorem ekX7_87 : yX7_refuses.cls = RX7 ∧ yX7_refuses.cls ≠ "java/lang/invoke/MethodHandle" ∧ yX7_refuses.cls ≠ "java/lang/invoke/VarHandle" ∧ (parseMethodDescriptor yX7_refuses.desc).map (fun d => d.parameters.length) = some 0 := by decide +kernel
theorem gkX7_107 : GoodIn AW (wsV RX7 107 RX7 yX7_isNext (ws_ yX7_isNext cX7_isNext 3 (some (.boolean)))) := gw_V w_489 w_490 w_491 w_354 w_492
theorem ekX7_107 : yX7_isNext.cls = RX7 ∧ yX7_isNext.cls ≠ "java/lang/invoke/MethodHandle" ∧ yX7_isNext.cls ≠ "java/lang/invoke/VarHandle" ∧ (parseMethodDescriptor yX7_isNext.desc).map (fun d => d.parameters.length) = some 2 := by decide +kernel
theorem gkX7_113 : GoodIn AW (wsV RX7 113 RX7 yX7_takes (ws_ yX7_takes cX7_takes 5 (some (.int)))) := gw_V w_493 w_494 w_495 w_354 w_496
theorem ekX7_113 : yX7_takes.cls = RX7 ∧ yX7_takes.cls ≠ "java/lang/invoke/MethodHandle" ∧ yX7_takes.cls ≠ "java/lang/invoke/VarHandle" ∧ (parseMethodDescriptor yX7_takes.desc).map (fun d => d.parameters.length) = some 2 := by decide +kernel
theorem gkX7_122 : GoodIn AW (wsV RX7 122 RX7 yX7_readOne (ws_ yX7_readOne cX7_readOne 2 none)) := gw_V w_497 w_498 w_499 w_354 w_500
theorem ekX7_122 : yX7_readOne.cls = RX7 ∧ yX7_readOne.cls ≠ "java/lang/invoke/MethodHandle" ∧ yX7_readOne.cls ≠ "java/lang/invoke/VarHandle" ∧ (parseMethodDescriptor yX7_readOne.desc).map (fun d => d.parameters.length) = some 0 := by decide +kernel
theorem gkX7_129 : GoodIn AW (wsV RX7 129 RX7 yX7_does (ws_ yX7_does cX7_does 1 (some (.int)))) := gw_V w_501 w_502 w_503 w_354 w_504
theorem ekX7_129 : yX7_does.cls = RX7 ∧ yX7_does.cls ≠ "java/lang/invoke/MethodHandle" ∧ yX7_does.cls ≠ "java/lang/invoke/VarHandle" ∧ (parseMethodDescriptor yX7_does.desc).map (fun d => d.parameters.length) = some 0 := by decide +kernel
theorem gkX7_125 : GoodIn AW (wsV RX7 125 RX7 yX7_isPossible (ws_ yX7_isPossible cX7_isPossible 1 (some (.boolean)))) := gw_V w_505 w_506 w_507 w_354 w_508
theorem ekX7_125 : yX7_isPossible.cls = RX7 ∧ yX7_isPossible.cls ≠ "java/lang/invoke/MethodHandle" ∧ yX7_isPossible.cls ≠ "java/lang/invoke/VarHandle" ∧ (parseMethodDescriptor yX7_isPossible.desc).map (fun d => d.parameters.length) = some 0 := by decide +kernel
theorem gkX7_132 : GoodIn AW (wsV RX7 132 RX7 yX7_goesThrough (ws_ yX7_goesThrough cX7_goesThrough 5 (some (.int)))) := gw_V w_509 w_510 w_511 w_354 w_512
theorem ekX7_132 : yX7_goesThrough.cls = RX7 ∧ yX7_goesThrough.cls ≠ "java/lang/invoke/MethodHandle" ∧ yX7_goesThrough.cls ≠ "java/lang/invoke/VarHandle" ∧ (parseMethodDescriptor yX7_goesThrough.desc).map (fun d => d.parameters.length) = some 1 := by decide +kernel
theorem gkX7_91 : GoodIn AW (wsV RX7 91 RX7 yX7_becomes (ws_ yX7_becomes cX7_becomes 4 (some (.int)))) := gw_V w_514 w_515 w_516 w_354 w_517
theorem ekX7_91 : yX7_becomes.cls = RX7 ∧ yX7_becomes.cls ≠ "java/lang/invoke/MethodHandle" ∧ yX7_becomes.cls ≠ "java/lang/invoke/VarHandle" ∧ (parseMethodDescriptor yX7_becomes.desc).map (fun d => d.parameters.length) = some 2 := by decide +kernel
theorem gkX6_96 : GoodIn AW (wsV RX6 96 RX0 yX0_isFull (ws_ yX0_isFull cX0_isFull 1 (some (.boolean)))) := gw_V w_520 w_521 w_522 w_8 w_523
theorem ekX6_96 : yX0_isFull.cls = RX0 ∧ yX0_isFull.cls ≠ "java/lang/invoke/MethodHandle" ∧ yX0_isFull.cls ≠ "java/lang/invoke/VarHandle" ∧ (parseMethodDescriptor yX0_isFull.desc).map (fun d => d.parameters.length) = some 0 := by decide +kernel
theorem gkX6_101 : GoodIn AW (wsV RX6 101 RX0 yX0_addSign (ws_ yX0_addSign cX0_addSign 2 (some (.int)))) := gw_V w_524 w_525 w_526 w_8 w_527
theorem ekX6_101 : yX0_addSign.cls = RX0 ∧ yX0_addSign.cls ≠ "java/lang/invoke/MethodHandle" ∧ yX0_addSign.cls ≠ "java/lang/invoke/VarHandle" ∧ (parseMethodDescriptor yX0_addSign.desc).map (fun d => d.parameters.length) = some 1 := by decide +kernel
theorem gkX6_53 : GoodIn AW (va_wsS RX6 53 yX6_checkLodger (ws_ yX6_checkLodger cX6_checkLodger 1 none)) := gw_S w_532 w_533 w_183 w_534
theorem ekX6_53 : yX6_checkLodger.cls ≠ "java/lang/invoke/MethodHandle" ∧ yX6_checkLodger.cls ≠ "java/lang/invoke/VarHandle" ∧ (parseMethodDescriptor yX6_checkLodger.desc).map (fun d => d.parameters.length) = some 1 := by decide +kernel
theorem gkX6_42 : GoodIn AW (va_wsS RX6 42 yX6_checkAsking (ws_ yX6_checkAsking cX6_checkAsking 3 none)) := gw_S w_535 w_536 w_183 w_537
theorem ekX6_42 : yX6_checkAsking.cls ≠ "java/lang/invoke/MethodHandle" ∧ yX6_checkAsking.cls ≠ "java/lang/invoke/VarHandle" ∧ (parseMethodDescriptor yX6_checkAsking.desc).map (fun d => d.parameters.length) = some 3 := by decide +kernel
theorem gkX6_160 : GoodIn AW (va_wsS RX6 160 yX6_checkRange (ws_ yX6_checkRange cX6_checkRange 3 none)) := gw_S w_538 w_539 w_183 w_540
theorem ekX6_160 : yX6_checkRange.cls ≠ "java/lang/invoke/MethodHandle" ∧ yX6_checkRange.cls ≠ "java/lang/invoke/VarHandle" ∧ (parseMethodDescriptor yX6_checkRange.desc).map (fun d => d.parameters.length) = some 3 := by decide +kernel
theorem gkX6_56 : GoodIn AW (va_wsS RX6 56 yX6_checkHour (ws_ yX6_checkHour cX6_checkHour 1 none)) := gw_S w_541 w_542 w_183 w_543
theorem ekX6_56 : yX6_checkHour.cls ≠ "java/lang/invoke/MethodHandle" ∧ yX6_checkHour.cls ≠ "java/lang/invoke/VarHandle" ∧ (parseMethodDescriptor yX6_checkHour.desc).map (fun d => d.parameters.length) = some 1 := by decide +kernel
theorem gkX6_63 : GoodIn AW (wsV RX6 63 RX3 yX3_giveFavour (ws_ yX3_giveFavour cX3_giveFavour 2 (some (.int)))) := gw_V w_544 w_545 w_546 w_90 w_547
theorem ekX6_63 : yX3_giveFavour.cls = RX3 ∧ yX3_giveFavour.cls ≠ "java/lang/invoke/MethodHandle" ∧ yX3_giveFavour.cls ≠ "java/lang/invoke/VarHandle" ∧ (parseMethodDescriptor yX3_giveFavour.desc).map (fun d => d.parameters.length) = some 1 := by decide +kernel
theorem gkX6_59 : GoodIn AW (wsV RX6 59 RX3 yX3_takeBack (ws_ yX3_takeBack cX3_takeBack 4 (some (.int)))) := gw_V w_548 w_549 w_550 w_90 w_551
theorem ekX6_59 : yX3_takeBack.cls = RX3 ∧ yX3_takeBack.cls ≠ "java/lang/invoke/MethodHandle" ∧ yX3_takeBack.cls ≠ "java/lang/invoke/VarHandle" ∧ (parseMethodDescriptor yX3_takeBack.desc).map (fun d => d.parameters.length) = some 2 := by decide +kernel
theorem gkX6_118 : GoodIn AW (va_wsS RX6 118 yX6_checkSlot (ws_ yX6_checkSlot cX6_checkSlot 1 none)) := gw_S w_552 w_553 w_183 w_554
theorem ekX6_118 : yX6_checkSlot.cls ≠ "java/lang/invoke/MethodHandle" ∧ yX6_checkSlot.cls ≠ "java/lang/invoke/VarHandle" ∧ (parseMethodDescriptor yX6_checkSlot.desc).map (fun d => d.parameters.length) = some 1 := by decide +kernel
theorem gkX6_67 : GoodIn AW (va_wsS RX6 67 yX6_checkNeed (ws_ yX6_checkNeed cX6_checkNeed 1 none)) := gw_S w_555 w_556 w_183 w_557
theorem ekX6_67 : yX6_checkNeed.cls ≠ "java/lang/invoke/MethodHandle" ∧ yX6_checkNeed.cls ≠ "java/lang/invoke/VarHandle" ∧ (parseMethodDescriptor yX6_checkNeed.desc).map (fun d => d.parameters.length) = some 1 := by decide +kernel
theorem gkX6_70 : GoodIn AW (wsV RX6 70 RX3 yX3_changeNeed (ws_ yX3_changeNeed cX3_changeNeed 4 (some (.int)))) := gw_V w_558 w_559 w_560 w_90 w_561
theorem ekX6_70 : yX3_changeNeed.cls = RX3 ∧ yX3_changeNeed.cls ≠ "java/lang/invoke/MethodHandle" ∧ yX3_changeNeed.cls ≠ "java/lang/invoke/VarHandle" ∧ (parseMethodDescriptor yX3_changeNeed.desc).map (fun d => d.parameters.length) = some 2 := by decide +kernel
theorem gkX6_88 : GoodIn AW (wsV RX6 88 RX3 yX3_changeSetting (ws_ yX3_changeSetting cX3_changeSetting 3 (some (.int)))) := gw_V w_562 w_563 w_564 w_90 w_565
theorem ekX6_88 : yX3_changeSetting.cls = RX3 ∧ yX3_changeSetting.cls ≠ "java/lang/invoke/MethodHandle" ∧ yX3_changeSetting.cls ≠ "java/lang/invoke/VarHandle" ∧ (parseMethodDescriptor yX3_changeSetting.desc).map (fun d => d.parameters.length) = some 1 := by decide +kernel
theorem gkL_37 : GoodIn AW (wsV RL 37 RX6 yX6_append (ws_ yX6_append cX6_append 2 (some (.int)))) := gw_V w_566 w_567 w_568 w_183 w_569
theorem ekL_37 : yX6_append.cls = RX6 ∧ yX6_append.cls ≠ "java/lang/invoke/MethodHandle" ∧ yX6_append.cls ≠ "java/lang/invoke/VarHandle" ∧ (parseMethodDescriptor yX6_append.desc).map (fun d => d.parameters.length) = some 1 := by decide +kernel
theorem gkL_7 : GoodIn AW (wsV RL 7 RX6 yX6_ask (ws_ yX6_ask cX6_ask 4 (some (.int)))) := gw_V w_573 w_574 w_575 w_183 w_576
theorem ekL_7 : yX6_ask.cls = RX6 ∧ yX6_ask.cls ≠ "java/lang/invoke/MethodHandle" ∧ yX6_ask.cls ≠ "java/lang/invoke/VarHandle" ∧ (parseMethodDescriptor yX6_ask.desc).map (fun d => d.parameters.length) = some 3 := by decide +kernel
theorem gkL_52 : GoodIn AW (wsV RL 52 RX6 yX6_at (ws_ yX6_at cX6_at 3 (some (.int)))) := gw_V w_579 w_580 w_581 w_183 w_582
theorem ekL_52 : yX6_at.cls = RX6 ∧ yX6_at.cls ≠ "java/lang/invoke/MethodHandle" ∧ yX6_at.cls ≠ "java/lang/invoke/VarHandle" ∧ (parseMethodDescriptor yX6_at.desc).map (fun d => d.parameters.length) = some 2 := by decide +kernel
theorem gkL_58 : GoodIn AW (wsV RL 58 RX6 yX6_count (ws_ yX6_count cX6_count 2 (some (.int)))) := gw_V w_584 w_585 w_586 w_183 w_587
theorem ekL_58 : yX6_count.cls = RX6 ∧ yX6_count.cls ≠ "java/lang/invoke/MethodHandle" ∧ yX6_count.cls ≠ "java/lang/invoke/VarHandle" ∧ (parseMethodDescriptor yX6_count.desc).map (fun d => d.parameters.length) = some 1 := by decide +kernel
theorem gkL_21 : GoodIn AW (wsV RL 21 RX6 yX6_favour (ws_ yX6_favour cX6_favour 2 (some (.int)))) := gw_V w_589 w_590 w_591 w_183 w_592
theorem ekL_21 : yX6_favour.cls = RX6 ∧ yX6_favour.cls ≠ "java/lang/invoke/MethodHandle" ∧ yX6_favour.cls ≠ "java/lang/invoke/VarHandle" ∧ (parseMethodDescriptor yX6_favour.desc).map (fun d => d.parameters.length) = some 1 := by decide +kernel
theorem gkL_70 : GoodIn AW (wsV RL 70 RX6 yX6_fewestBeds (ws_ yX6_fewestBeds cX6_fewestBeds 2 (some (.int)))) := gw_V w_594 w_595 w_596 w_183 w_597
theorem ekL_70 : yX6_fewestBeds.cls = RX6 ∧ yX6_fewestBeds.cls ≠ "java/lang/invoke/MethodHandle" ∧ yX6_fewestBeds.cls ≠ "java/lang/invoke/VarHandle" ∧ (parseMethodDescriptor yX6_fewestBeds.desc).map (fun d => d.parameters.length) = some 1 := by decide +kernel
theorem gkL_17 : GoodIn AW (wsV RL 17 RX6 yX6_giveBack (ws_ yX6_giveBack cX6_giveBack 3 (some (.int)))) := gw_V w_599 w_600 w_601 w_183 w_602
theorem ekL_17 : yX6_giveBack.cls = RX6 ∧ yX6_giveBack.cls ≠ "java/lang/invoke/MethodHandle" ∧ yX6_giveBack.cls ≠ "java/lang/invoke/VarHandle" ∧ (parseMethodDescriptor yX6_giveBack.desc).map (fun d => d.parameters.length) = some 2 := by decide +kernel
theorem gkL_46 : GoodIn AW (wsV RL 46 RX6 yX6_goBack (ws_ yX6_goBack cX6_goBack 2 (some (.int)))) := gw_V w_604 w_605 w_606 w_183 w_607
theorem ekL_46 : yX6_goBack.cls = RX6 ∧ yX6_goBack.cls ≠ "java/lang/invoke/MethodHandle" ∧ yX6_goBack.cls ≠ "java/lang/invoke/VarHandle" ∧ (parseMethodDescriptor yX6_goBack.desc).map (fun d => d.parameters.length) = some 1 := by decide +kernel
theorem gkL_64 : GoodIn AW (wsV RL 64 RX6 yX6_ifAsked (ws_ yX6_ifAsked cX6_ifAsked 4 (some (.int)))) := gw_V w_609 w_610 w_611 w_183 w_612
theorem ekL_64 : yX6_ifAsked.cls = RX6 ∧ yX6_ifAsked.cls ≠ "java/lang/invoke/MethodHandle" ∧ yX6_ifAsked.cls ≠ "java/lang/invoke/VarHandle" ∧ (parseMethodDescriptor yX6_ifAsked.desc).map (fun d => d.parameters.length) = some 3 := by decide +kernel
theorem gkL_67 : GoodIn AW (wsV RL 67 RX6 yX6_ifPutOut (ws_ yX6_ifPutOut cX6_ifPutOut 4 (some (.int)))) := gw_V w_614 w_615 w_616 w_183 w_617
theorem ekL_67 : yX6_ifPutOut.cls = RX6 ∧ yX6_ifPutOut.cls ≠ "java/lang/invoke/MethodHandle" ∧ yX6_ifPutOut.cls ≠ "java/lang/invoke/VarHandle" ∧ (parseMethodDescriptor yX6_ifPutOut.desc).map (fun d => d.parameters.length) = some 3 := by decide +kernel
theorem gkL_43 : GoodIn AW (wsV RL 43 RX6 yX6_keep (ws_ yX6_keep cX6_keep 2 (some (.int)))) := gw_V w_619 w_620 w_621 w_183 w_622
theorem ekL_43 : yX6_keep.cls = RX6 ∧ yX6_keep.cls ≠ "java/lang/invoke/MethodHandle" ∧ yX6_keep.cls ≠ "java/lang/invoke/VarHandle" ∧ (parseMethodDescriptor yX6_keep.desc).map (fun d => d.parameters.length) = some 1 := by decide +kernel
theorem gkL_55 : GoodIn AW (wsV RL 55 RX6 yX6_lodgerOf (ws_ yX6_lodgerOf cX6_lodgerOf 3 (some (.int)))) := gw_V w_624 w_625 w_626 w_183 w_627
theorem ekL_55 : yX6_lodgerOf.cls = RX6 ∧ yX6_lodgerOf.cls ≠ "java/lang/invoke/MethodHandle" ∧ yX6_lodgerOf.cls ≠ "java/lang/invoke/VarHandle" ∧ (parseMethodDescriptor yX6_lodgerOf.desc).map (fun d => d.parameters.length) = some 2 := by decide +kernel
theorem gkL_73 : GoodIn AW (wsV RL 73 RX6 yX6_longest (ws_ yX6_longest cX6_longest 3 (some (.int)))) := gw_V w_629 w_630 w_631 w_183 w_632
theorem ekL_73 : yX6_longest.cls = RX6 ∧ yX6_longest.cls ≠ "java/lang/invoke/MethodHandle" ∧ yX6_longest.cls ≠ "java/lang/invoke/VarHandle" ∧ (parseMethodDescriptor yX6_longest.desc).map (fun d => d.parameters.length) = some 2 := by decide +kernel
theorem gkL_25 : GoodIn AW (wsV RL 25 RX6 yX6_need (ws_ yX6_need cX6_need 3 (some (.int)))) := gw_V w_634 w_635 w_636 w_183 w_637
theorem ekL_25 : yX6_need.cls = RX6 ∧ yX6_need.cls ≠ "java/lang/invoke/MethodHandle" ∧ yX6_need.cls ≠ "java/lang/invoke/VarHandle" ∧ (parseMethodDescriptor yX6_need.desc).map (fun d => d.parameters.length) = some 2 := by decide +kernel
theorem gkL_28 : GoodIn AW (wsV RL 28 RX6 yX6_pass (ws_ yX6_pass cX6_pass 1 (some (.int)))) := gw_V w_639 w_640 w_641 w_183 w_642
theorem ekL_28 : yX6_pass.cls = RX6 ∧ yX6_pass.cls ≠ "java/lang/invoke/MethodHandle" ∧ yX6_pass.cls ≠ "java/lang/invoke/VarHandle" ∧ (parseMethodDescriptor yX6_pass.desc).map (fun d => d.parameters.length) = some 0 := by decide +kernel
theorem gkL_61 : GoodIn AW (wsV RL 61 RX6 yX6_refused (ws_ yX6_refused cX6_refused 2 (some (.int)))) := gw_V w_644 w_645 w_646 w_183 w_647
theorem ekL_61 : yX6_refused.cls = RX6 ∧ yX6_refused.cls ≠ "java/lang/invoke/MethodHandle" ∧ yX6_refused.cls ≠ "java/lang/invoke/VarHandle" ∧ (parseMethodDescriptor yX6_refused.desc).map (fun d => d.parameters.length) = some 1 := by decide +kernel
theorem gkL_40 : GoodIn AW (wsV RL 40 RX6 yX6_run (ws_ yX6_run cX6_run 2 (some (.int)))) := gw_V w_649 w_650 w_651 w_183 w_652
theorem ekL_40 : yX6_run.cls = RX6 ∧ yX6_run.cls ≠ "java/lang/invoke/MethodHandle" ∧ yX6_run.cls ≠ "java/lang/invoke/VarHandle" ∧ (parseMethodDescriptor yX6_run.desc).map (fun d => d.parameters.length) = some 0 := by decide +kernel
theorem gkL_34 : GoodIn AW (wsV RL 34 RX6 yX6_set (ws_ yX6_set cX6_set 2 (some (.int)))) := gw_V w_654 w_655 w_656 w_183 w_657
theorem ekL_34 : yX6_set.cls = RX6 ∧ yX6_set.cls ≠ "java/lang/invoke/MethodHandle" ∧ yX6_set.cls ≠ "java/lang/invoke/VarHandle" ∧ (parseMethodDescriptor yX6_set.desc).map (fun d => d.parameters.length) = some 1 := by decide +kernel
theorem gkL_49 : GoodIn AW (wsV RL 49 RX6 yX6_undo (ws_ yX6_undo cX6_undo 1 (some (.int)))) := gw_V w_659 w_660 w_661 w_183 w_662
theorem ekL_49 : yX6_undo.cls = RX6 ∧ yX6_undo.cls ≠ "java/lang/invoke/MethodHandle" ∧ yX6_undo.cls ≠ "java/lang/invoke/VarHandle" ∧ (parseMethodDescriptor yX6_undo.desc).map (fun d => d.parameters.length) = some 0 := by decide +kernel

theorem gkL_85 : GoodIn AW (wsV RL 85 RX7 yX7_ask (ws_ yX7_ask cX7_ask 4 (some (.int)))) := gw_V w_667 w_668 w_669 w_354 w_670
theorem ekL_85 : yX7_ask.cls = RX7 ∧ yX7_ask.cls ≠ "java/lang/invoke/MethodHandle" ∧ yX7_ask.cls ≠ "java/lang/invoke/VarHandle" ∧ (parseMethodDescriptor yX7_ask.desc).map (fun d => d.parameters.length) = some 3 := by decide +kernel
theorem gkL_86 : GoodIn AW (wsV RL 86 RX7 yX7_thrown (ws_ yX7_thrown cX7_thrown 1 (some (.int)))) := gw_V w_671 w_672 w_673 w_354 w_674
theorem ekL_86 : yX7_thrown.cls = RX7 ∧ yX7_thrown.cls ≠ "java/lang/invoke/MethodHandle" ∧ yX7_thrown.cls ≠ "java/lang/invoke/VarHandle" ∧ (parseMethodDescriptor yX7_thrown.desc).map (fun d => d.parameters.length) = some 0 := by decide +kernel

theorem gkL_92 : GoodIn AW (wsV RL 92 RX7 yX7_giveBack (ws_ yX7_giveBack cX7_giveBack 5 (some (.int)))) := gw_V w_677 w_678 w_679 w_354 w_680
theorem ekL_92 : yX7_giveBack.cls = RX7 ∧ yX7_giveBack.cls ≠ "java/lang/invoke/MethodHandle" ∧ yX7_giveBack.cls ≠ "java/lang/invoke/VarHandle" ∧ (parseMethodDescriptor yX7_giveBack.desc).map (fun d => d.parameters.length) = some 2 := by decide +kernel

theorem gkL_96 : GoodIn AW (wsV RL 96 RX7 yX7_favour (ws_ yX7_favour cX7_favour 2 (some (.int)))) := gw_V w_683 w_684 w_685 w_354 w_686
theorem ekL_96 : yX7_favour.cls = RX7 ∧ yX7_favour.cls ≠ "java/lang/invoke/MethodHandle" ∧ yX7_favour.cls ≠ "java/lang/invoke/VarHandle" ∧ (parseMethodDescriptor yX7_favour.desc).map (fun d => d.parameters.length) = some 1 := by decide +kernel

theorem gkL_99 : GoodIn AW (wsV RL 99 RX7 yX7_need (ws_ yX7_need cX7_need 3 (some (.int)))) := gw_V w_689 w_690 w_691 w_354 w_692
theorem ekL_99 : yX7_need.cls = RX7 ∧ yX7_need.cls ≠ "java/lang/invoke/MethodHandle" ∧ yX7_need.cls ≠ "java/lang/invoke/VarHandle" ∧ (parseMethodDescriptor yX7_need.desc).map (fun d => d.parameters.length) = some 2 := by decide +kernel

theorem gkL_103 : GoodIn AW (wsV RL 103 RX7 yX7_pass (ws_ yX7_pass cX7_pass 1 (some (.int)))) := gw_V w_695 w_696 w_697 w_354 w_698
theorem ekL_103 : yX7_pass.cls = RX7 ∧ yX7_pass.cls ≠ "java/lang/invoke/MethodHandle" ∧ yX7_pass.cls ≠ "java/lang/invoke/VarHandle" ∧ (parseMethodDescriptor yX7_pass.desc).map (fun d => d.parameters.length) = some 0 := by decide +kernel

theorem gkL_106 : GoodIn AW (wsV RL 106 RX7 yX7_set (ws_ yX7_set cX7_set 2 (some (.int)))) := gw_V w_701 w_702 w_703 w_354 w_704
theorem ekL_106 : yX7_set.cls = RX7 ∧ yX7_set.cls ≠ "java/lang/invoke/MethodHandle" ∧ yX7_set.cls ≠ "java/lang/invoke/VarHandle" ∧ (parseMethodDescriptor yX7_set.desc).map (fun d => d.parameters.length) = some 1 := by decide +kernel

theorem gkL_109 : GoodIn AW (wsV RL 109 RX7 yX7_append (ws_ yX7_append cX7_append 2 (some (.int)))) := gw_V w_707 w_708 w_709 w_354 w_710
theorem ekL_109 : yX7_append.cls = RX7 ∧ yX7_append.cls ≠ "java/lang/invoke/MethodHandle" ∧ yX7_append.cls ≠ "java/lang/invoke/VarHandle" ∧ (parseMethodDescriptor yX7_append.desc).map (fun d => d.parameters.length) = some 1 := by decide +kernel
theorem gkL_110 : GoodIn AW (wsV RL 110 RX6 yX6_clearBuffer (ws_ yX6_clearBuffer cX6_clearBuffer 1 (some (.int)))) := gw_V w_711 w_712 w_713 w_183 w_714
theorem ekL_110 : yX6_clearBuffer.cls = RX6 ∧ yX6_clearBuffer.cls ≠ "java/lang/invoke/MethodHandle" ∧ yX6_clearBuffer.cls ≠ "java/lang/invoke/VarHandle" ∧ (parseMethodDescriptor yX6_clearBuffer.desc).map (fun d => d.parameters.length) = some 0 := by decide +kernel
theorem gkL_113 : GoodIn AW (wsV RL 113 RX7 yX7_clearBuffer (ws_ yX7_clearBuffer cX7_clearBuffer 2 (some (.int)))) := gw_V w_715 w_716 w_717 w_354 w_718
theorem ekL_113 : yX7_clearBuffer.cls = RX7 ∧ yX7_clearBuffer.cls ≠ "java/lang/invoke/MethodHandle" ∧ yX7_clearBuffer.cls ≠ "java/lang/invoke/VarHandle" ∧ (parseMethodDescriptor yX7_clearBuffer.desc).map (fun d => d.parameters.length) = some 0 := by decide +kernel
theorem gkL_114 : GoodIn AW (wsV RL 114 RX6 yX6_firstError (ws_ yX6_firstError cX6_firstError 1 (some (.int)))) := gw_V w_719 w_720 w_721 w_183 w_722
theorem ekL_114 : yX6_firstError.cls = RX6 ∧ yX6_firstError.cls ≠ "java/lang/invoke/MethodHandle" ∧ yX6_firstError.cls ≠ "java/lang/invoke/VarHandle" ∧ (parseMethodDescriptor yX6_firstError.desc).map (fun d => d.parameters.length) = some 0 := by decide +kernel
theorem gkL_117 : GoodIn AW (wsV RL 117 RX7 yX7_firstError (ws_ yX7_firstError cX7_firstError 2 (some (.int)))) := gw_V w_723 w_724 w_725 w_354 w_726
theorem ekL_117 : yX7_firstError.cls = RX7 ∧ yX7_firstError.cls ≠ "java/lang/invoke/MethodHandle" ∧ yX7_firstError.cls ≠ "java/lang/invoke/VarHandle" ∧ (parseMethodDescriptor yX7_firstError.desc).map (fun d => d.parameters.length) = some 0 := by decide +kernel

theorem gkL_120 : GoodIn AW (wsV RL 120 RX7 yX7_run (ws_ yX7_run cX7_run 2 (some (.int)))) := gw_V w_729 w_730 w_731 w_354 w_732
theorem ekL_120 : yX7_run.cls = RX7 ∧ yX7_run.cls ≠ "java/lang/invoke/MethodHandle" ∧ yX7_run.cls ≠ "java/lang/invoke/VarHandle" ∧ (parseMethodDescriptor yX7_run.desc).map (fun d => d.parameters.length) = some 0 := by decide +kernel

theorem gkL_123 : GoodIn AW (wsV RL 123 RX7 yX7_keep (ws_ yX7_keep cX7_keep 3 (some (.int)))) := gw_V w_735 w_736 w_737 w_354 w_738
theorem ekL_123 : yX7_keep.cls = RX7 ∧ yX7_keep.cls ≠ "java/lang/invoke/MethodHandle" ∧ yX7_keep.cls ≠ "java/lang/invoke/VarHandle" ∧ (parseMethodDescriptor yX7_keep.desc).map (fun d => d.parameters.length) = some 1 := by decide +kernel

theorem gkL_126 : GoodIn AW (wsV RL 126 RX7 yX7_goBack (ws_ yX7_goBack cX7_goBack 3 (some (.int)))) := gw_V w_741 w_742 w_743 w_354 w_744
theorem ekL_126 : yX7_goBack.cls = RX7 ∧ yX7_goBack.cls ≠ "java/lang/invoke/MethodHandle" ∧ yX7_goBack.cls ≠ "java/lang/invoke/VarHandle" ∧ (parseMethodDescriptor yX7_goBack.desc).map (fun d => d.parameters.length) = some 1 := by decide +kernel

theorem gkL_129 : GoodIn AW (wsV RL 129 RX7 yX7_undo (ws_ yX7_undo cX7_undo 2 (some (.int)))) := gw_V w_747 w_748 w_749 w_354 w_750
theorem ekL_129 : yX7_undo.cls = RX7 ∧ yX7_undo.cls ≠ "java/lang/invoke/MethodHandle" ∧ yX7_undo.cls ≠ "java/lang/invoke/VarHandle" ∧ (parseMethodDescriptor yX7_undo.desc).map (fun d => d.parameters.length) = some 0 := by decide +kernel

theorem gkL_132 : GoodIn AW (wsV RL 132 RX7 yX7_at (ws_ yX7_at cX7_at 3 (some (.int)))) := gw_V w_753 w_754 w_755 w_354 w_756
theorem ekL_132 : yX7_at.cls = RX7 ∧ yX7_at.cls ≠ "java/lang/invoke/MethodHandle" ∧ yX7_at.cls ≠ "java/lang/invoke/VarHandle" ∧ (parseMethodDescriptor yX7_at.desc).map (fun d => d.parameters.length) = some 2 := by decide +kernel

theorem gkL_135 : GoodIn AW (wsV RL 135 RX7 yX7_lodgerOf (ws_ yX7_lodgerOf cX7_lodgerOf 3 (some (.int)))) := gw_V w_759 w_760 w_761 w_354 w_762
theorem ekL_135 : yX7_lodgerOf.cls = RX7 ∧ yX7_lodgerOf.cls ≠ "java/lang/invoke/MethodHandle" ∧ yX7_lodgerOf.cls ≠ "java/lang/invoke/VarHandle" ∧ (parseMethodDescriptor yX7_lodgerOf.desc).map (fun d => d.parameters.length) = some 2 := by decide +kernel

theorem gkL_138 : GoodIn AW (wsV RL 138 RX7 yX7_count (ws_ yX7_count cX7_count 2 (some (.int)))) := gw_V w_765 w_766 w_767 w_354 w_768
theorem ekL_138 : yX7_count.cls = RX7 ∧ yX7_count.cls ≠ "java/lang/invoke/MethodHandle" ∧ yX7_count.cls ≠ "java/lang/invoke/VarHandle" ∧ (parseMethodDescriptor yX7_count.desc).map (fun d => d.parameters.length) = some 1 := by decide +kernel

theorem gkL_141 : GoodIn AW (wsV RL 141 RX7 yX7_refused (ws_ yX7_refused cX7_refused 2 (some (.int)))) := gw_V w_771 w_772 w_773 w_354 w_774
theorem ekL_141 : yX7_refused.cls = RX7 ∧ yX7_refused.cls ≠ "java/lang/invoke/MethodHandle" ∧ yX7_refused.cls ≠ "java/lang/invoke/VarHandle" ∧ (parseMethodDescriptor yX7_refused.desc).map (fun d => d.parameters.length) = some 1 := by decide +kernel

theorem gkL_144 : GoodIn AW (wsV RL 144 RX7 yX7_ifAsked (ws_ yX7_ifAsked cX7_ifAsked 4 (some (.int)))) := gw_V w_777 w_778 w_779 w_354 w_780
theorem ekL_144 : yX7_ifAsked.cls = RX7 ∧ yX7_ifAsked.cls ≠ "java/lang/invoke/MethodHandle" ∧ yX7_ifAsked.cls ≠ "java/lang/invoke/VarHandle" ∧ (parseMethodDescriptor yX7_ifAsked.desc).map (fun d => d.parameters.length) = some 3 := by decide +kernel

theorem gkL_147 : GoodIn AW (wsV RL 147 RX7 yX7_ifPutOut (ws_ yX7_ifPutOut cX7_ifPutOut 5 (some (.int)))) := gw_V w_783 w_784 w_785 w_354 w_786
theorem ekL_147 : yX7_ifPutOut.cls = RX7 ∧ yX7_ifPutOut.cls ≠ "java/lang/invoke/MethodHandle" ∧ yX7_ifPutOut.cls ≠ "java/lang/invoke/VarHandle" ∧ (parseMethodDescriptor yX7_ifPutOut.desc).map (fun d => d.parameters.length) = some 3 := by decide +kernel

theorem gkL_150 : GoodIn AW (wsV RL 150 RX7 yX7_fewestBeds (ws_ yX7_fewestBeds cX7_fewestBeds 2 (some (.int)))) := gw_V w_789 w_790 w_791 w_354 w_792
theorem ekL_150 : yX7_fewestBeds.cls = RX7 ∧ yX7_fewestBeds.cls ≠ "java/lang/invoke/MethodHandle" ∧ yX7_fewestBeds.cls ≠ "java/lang/invoke/VarHandle" ∧ (parseMethodDescriptor yX7_fewestBeds.desc).map (fun d => d.parameters.length) = some 1 := by decide +kernel

theorem gkL_153 : GoodIn AW (wsV RL 153 RX7 yX7_longest (ws_ yX7_longest cX7_longest 3 (some (.int)))) := gw_V w_795 w_796 w_797 w_354 w_798
theorem ekL_153 : yX7_longest.cls = RX7 ∧ yX7_longest.cls ≠ "java/lang/invoke/MethodHandle" ∧ yX7_longest.cls ≠ "java/lang/invoke/VarHandle" ∧ (parseMethodDescriptor yX7_longest.desc).map (fun d => d.parameters.length) = some 2 := by decide +kernel
theorem gkL_154 : GoodIn AW (wsV RL 154 RX6 yX6_poorest (ws_ yX6_poorest cX6_poorest 1 (some (.int)))) := gw_V w_799 w_800 w_801 w_183 w_802
theorem ekL_154 : yX6_poorest.cls = RX6 ∧ yX6_poorest.cls ≠ "java/lang/invoke/MethodHandle" ∧ yX6_poorest.cls ≠ "java/lang/invoke/VarHandle" ∧ (parseMethodDescriptor yX6_poorest.desc).map (fun d => d.parameters.length) = some 0 := by decide +kernel
theorem gkL_157 : GoodIn AW (wsV RL 157 RX7 yX7_poorest (ws_ yX7_poorest cX7_poorest 1 (some (.int)))) := gw_V w_803 w_804 w_805 w_354 w_806
theorem ekL_157 : yX7_poorest.cls = RX7 ∧ yX7_poorest.cls ≠ "java/lang/invoke/MethodHandle" ∧ yX7_poorest.cls ≠ "java/lang/invoke/VarHandle" ∧ (parseMethodDescriptor yX7_poorest.desc).map (fun d => d.parameters.length) = some 0 := by decide +kernel
theorem gkL_158 : GoodIn AW (wsV RL 158 RX6 yX6_fullness (ws_ yX6_fullness cX6_fullness 1 (some (.double)))) := gw_V w_807 w_808 w_809 w_183 w_810
theorem ekL_158 : yX6_fullness.cls = RX6 ∧ yX6_fullness.cls ≠ "java/lang/invoke/MethodHandle" ∧ yX6_fullness.cls ≠ "java/lang/invoke/VarHandle" ∧ (parseMethodDescriptor yX6_fullness.desc).map (fun d => d.parameters.length) = some 0 := by decide +kernel
theorem gkL_162 : GoodIn AW (wsV RL 162 RX7 yX7_fullness (ws_ yX7_fullness cX7_fullness 1 (some (.double)))) := gw_V w_811 w_812 w_813 w_354 w_814
theorem ekL_162 : yX7_fullness.cls = RX7 ∧ yX7_fullness.cls ≠ "java/lang/invoke/MethodHandle" ∧ yX7_fullness.cls ≠ "java/lang/invoke/VarHandle" ∧ (parseMethodDescriptor yX7_fullness.desc).map (fun d => d.parameters.length) = some 0 := by decide +kernel
theorem gkL_163 : GoodIn AW (wsV RL 163 RX6 yX6_digest (ws_ yX6_digest cX6_digest 4 (some (.long)))) := gw_V w_815 w_816 w_817 w_183 w_818
theorem ekL_163 : yX6_digest.cls = RX6 ∧ yX6_digest.cls ≠ "java/lang/invoke/MethodHandle" ∧ yX6_digest.cls ≠ "java/lang/invoke/VarHandle" ∧ (parseMethodDescriptor yX6_digest.desc).map (fun d => d.parameters.length) = some 0 := by decide +kernel
theorem gkL_167 : GoodIn AW (wsV RL 167 RX7 yX7_digest (ws_ yX7_digest cX7_digest 2 (some (.long)))) := gw_V w_819 w_820 w_821 w_354 w_822
theorem ekL_167 : yX7_digest.cls = RX7 ∧ yX7_digest.cls ≠ "java/lang/invoke/MethodHandle" ∧ yX7_digest.cls ≠ "java/lang/invoke/VarHandle" ∧ (parseMethodDescriptor yX7_digest.desc).map (fun d => d.parameters.length) = some 0 := by decide +kernel

/-! words of the tables, by their places -/
theorem zq_0 : Cond.selects RX2 yX2_next yX2_next ∈ zj_T := zj_mem (i := 0) (by decide +kernel) rfl
theorem zq_1 : Cond.selects RX2 yX2_readClause yX2_readClause ∈ zj_T := zj_mem (i := 1) (by decide +kernel) rfl
theorem zq_2 : Cond.selects RX2 yX2_takeWord yX2_takeWord ∈ zj_T := zj_mem (i := 2) (by decide +kernel) rfl
theorem zq_3 : Cond.selects RX2 yX2_take yX2_take ∈ zj_T := zj_mem (i := 3) (by decide +kernel) rfl
theorem zq_4 : Cond.selects RX2 yX2_fail yX2_fail ∈ zj_T := zj_mem (i := 4) (by decide +kernel) rfl
theorem zq_5 : Cond.selects RX2 yX2_readNumber yX2_readNumber ∈ zj_T := zj_mem (i := 5) (by decide +kernel) rfl
theorem zq_6 : Cond.selects RX2 yX2_isDigit yX2_isDigit ∈ zj_T := zj_mem (i := 6) (by decide +kernel) rfl
theorem zq_7 : Cond.selects RX2 yX2_readEither yX2_readEither ∈ zj_T := zj_mem (i := 7) (by decide +kernel) rfl
theorem zq_8 : Cond.selects RX2 yX2_readBoth yX2_readBoth ∈ zj_T := zj_mem (i := 8) (by decide +kernel) rfl
theorem zq_9 : Cond.selects RX2 yX2_readPart yX2_readPart ∈ zj_T := zj_mem (i := 9) (by decide +kernel) rfl
theorem zq_10 : Cond.selects RX2 yX2_readOpen yX2_readOpen ∈ zj_T := zj_mem (i := 10) (by decide +kernel) rfl
theorem zq_11 : Cond.selects RX2 yX2_write yX2_write ∈ zj_T := zj_mem (i := 11) (by decide +kernel) rfl
theorem zq_12 : Cond.selects RX2 yX2_takeOneOf yX2_takeOneOf ∈ zj_T := zj_mem (i := 12) (by decide +kernel) rfl
theorem zq_13 : Cond.selects RX11 yX11_isWalker yX11_isWalker ∈ zj_T := zj_mem (i := 13) (by decide +kernel) rfl
theorem zq_14 : Cond.selects RX2 yX2_sumOfFacts yX2_sumOfFacts ∈ zj_T := zj_mem (i := 14) (by decide +kernel) rfl
theorem zq_15 : Cond.selects RX2 yX2_holds yX2_holds ∈ zj_T := zj_mem (i := 15) (by decide +kernel) rfl
theorem zq_16 : Cond.selects RX11 yX11_isUnder yX11_isUnder ∈ zj_T := zj_mem (i := 16) (by decide +kernel) rfl
theorem zq_17 : Cond.selects RX11 yX11_startTrial yX11_startTrial ∈ zj_T := zj_mem (i := 17) (by decide +kernel) rfl
theorem zq_18 : Cond.selects RX4 yX4_goOneStep yX4_goOneStep ∈ zj_T := zj_mem (i := 18) (by decide +kernel) rfl
theorem zq_19 : Cond.selects RX4 yX4_handOver yX4_handOver ∈ zj_T := zj_mem (i := 19) (by decide +kernel) rfl
theorem zq_20 : Cond.selects RX12 yX12_clauseHere yX12_clauseHere ∈ zj_T := zj_mem (i := 20) (by decide +kernel) rfl
theorem zq_21 : Cond.selects RX12 yX12_here yX12_here ∈ zj_T := zj_mem (i := 21) (by decide +kernel) rfl
theorem zq_22 : Cond.selects RX12 yX12_tellsHere yX12_tellsHere ∈ zj_T := zj_mem (i := 22) (by decide +kernel) rfl
theorem zq_23 : Cond.selects RX12 yX12_spells yX12_spells ∈ zj_T := zj_mem (i := 23) (by decide +kernel) rfl
theorem zq_24 : Cond.selects RX12 yX12_must yX12_must ∈ zj_T := zj_mem (i := 24) (by decide +kernel) rfl
theorem zq_25 : Cond.selects RX12 yX12_figures yX12_figures ∈ zj_T := zj_mem (i := 25) (by decide +kernel) rfl
theorem zq_26 : Cond.selects RX12 yX12_much yX12_much ∈ zj_T := zj_mem (i := 26) (by decide +kernel) rfl
theorem zq_27 : Cond.selects RX12 yX12_some yX12_some ∈ zj_T := zj_mem (i := 27) (by decide +kernel) rfl
theorem zq_28 : Cond.selects RX12 yX12_every yX12_every ∈ zj_T := zj_mem (i := 28) (by decide +kernel) rfl
theorem zq_29 : Cond.selects RX12 yX12_factor yX12_factor ∈ zj_T := zj_mem (i := 29) (by decide +kernel) rfl
theorem zq_30 : Cond.selects RX12 yX12_emits yX12_emits ∈ zj_T := zj_mem (i := 30) (by decide +kernel) rfl
theorem zq_31 : Cond.selects RX12 yX12_among yX12_among ∈ zj_T := zj_mem (i := 31) (by decide +kernel) rfl
theorem zq_32 : Cond.selects RX12 yX12_becomes yX12_becomes ∈ zj_T := zj_mem (i := 32) (by decide +kernel) rfl
theorem zq_33 : Cond.selects RX12 yX12_isWalker yX12_isWalker ∈ zj_T := zj_mem (i := 33) (by decide +kernel) rfl
theorem zq_34 : Cond.selects RX12 yX12_isStray yX12_isStray ∈ zj_T := zj_mem (i := 34) (by decide +kernel) rfl
theorem zq_35 : Cond.selects RX12 yX12_isOn yX12_isOn ∈ zj_T := zj_mem (i := 35) (by decide +kernel) rfl
theorem zq_36 : Cond.selects RX12 yX12_hasCompany yX12_hasCompany ∈ zj_T := zj_mem (i := 36) (by decide +kernel) rfl
theorem zq_37 : Cond.selects RX12 yX12_swayOf yX12_swayOf ∈ zj_T := zj_mem (i := 37) (by decide +kernel) rfl
theorem zq_38 : Cond.selects RX12 yX12_sumOf yX12_sumOf ∈ zj_T := zj_mem (i := 38) (by decide +kernel) rfl
theorem zq_39 : Cond.selects RX12 yX12_sumRead yX12_sumRead ∈ zj_T := zj_mem (i := 39) (by decide +kernel) rfl
theorem zq_40 : Cond.selects RX12 yX12_tellsOf yX12_tellsOf ∈ zj_T := zj_mem (i := 40) (by decide +kernel) rfl
theorem zq_41 : Cond.selects RX12 yX12_paceOf yX12_paceOf ∈ zj_T := zj_mem (i := 41) (by decide +kernel) rfl
theorem zq_42 : Cond.selects RX12 yX12_rains yX12_rains ∈ zj_T := zj_mem (i := 42) (by decide +kernel) rfl
theorem zq_43 : Cond.selects RX12 yX12_manyStray yX12_manyStray ∈ zj_T := zj_mem (i := 43) (by decide +kernel) rfl
theorem zq_44 : Cond.selects RX12 yX12_allMoved yX12_allMoved ∈ zj_T := zj_mem (i := 44) (by decide +kernel) rfl
theorem zq_45 : Cond.selects RX12 yX12_trouble yX12_trouble ∈ zj_T := zj_mem (i := 45) (by decide +kernel) rfl
theorem zq_46 : Cond.selects RX12 yX12_keeps yX12_keeps ∈ zj_T := zj_mem (i := 46) (by decide +kernel) rfl
theorem zq_47 : Cond.selects RX12 yX12_troubleOn yX12_troubleOn ∈ zj_T := zj_mem (i := 47) (by decide +kernel) rfl
theorem zq_48 : Cond.selects RX12 yX12_goes yX12_goes ∈ zj_T := zj_mem (i := 48) (by decide +kernel) rfl
theorem zq_49 : Cond.selects RX12 yX12_leastMood yX12_leastMood ∈ zj_T := zj_mem (i := 49) (by decide +kernel) rfl
theorem zq_50 : Cond.selects RX12 yX12_goesBack yX12_goesBack ∈ zj_T := zj_mem (i := 50) (by decide +kernel) rfl
theorem zq_51 : Cond.selects RX12 yX12_figure yX12_figure ∈ zj_T := zj_mem (i := 51) (by decide +kernel) rfl
theorem zq_52 : Cond.selects RX12 yX12_goesOn yX12_goesOn ∈ zj_T := zj_mem (i := 52) (by decide +kernel) rfl
theorem zq_53 : Cond.selects RX12 yX12_fitting yX12_fitting ∈ zj_T := zj_mem (i := 53) (by decide +kernel) rfl
theorem zq_54 : Cond.selects RX12 yX12_areAsSeen yX12_areAsSeen ∈ zj_T := zj_mem (i := 54) (by decide +kernel) rfl
theorem zq_55 : Cond.selects RX12 yX12_isAsSeen yX12_isAsSeen ∈ zj_T := zj_mem (i := 55) (by decide +kernel) rfl
theorem zq_56 : Cond.selects RX12 yX12_goesBy yX12_goesBy ∈ zj_T := zj_mem (i := 56) (by decide +kernel) rfl
theorem zq_57 : Cond.selects RX12 yX12_strollsActs yX12_strollsActs ∈ zj_T := zj_mem (i := 57) (by decide +kernel) rfl
theorem zq_58 : Cond.selects RX12 yX12_ranBody yX12_ranBody ∈ zj_T := zj_mem (i := 58) (by decide +kernel) rfl
theorem zq_59 : Cond.selects RX12 yX12_plainStrolls yX12_plainStrolls ∈ zj_T := zj_mem (i := 59) (by decide +kernel) rfl
theorem zq_60 : Cond.selects RX12 yX12_looksActs yX12_looksActs ∈ zj_T := zj_mem (i := 60) (by decide +kernel) rfl
theorem zq_61 : Cond.selects RX12 yX12_plainLooks yX12_plainLooks ∈ zj_T := zj_mem (i := 61) (by decide +kernel) rfl
theorem zq_62 : Cond.selects RX12 yX12_tellsActs yX12_tellsActs ∈ zj_T := zj_mem (i := 62) (by decide +kernel) rfl
theorem zq_63 : Cond.selects RX12 yX12_plainTelling yX12_plainTelling ∈ zj_T := zj_mem (i := 63) (by decide +kernel) rfl
theorem zq_65 : Cond.initialized RX11 ∈ zj_T := zj_mem (i := 65) (by decide +kernel) rfl
theorem zq_66 : Cond.initialized RX5 ∈ zj_T := zj_mem (i := 66) (by decide +kernel) rfl
theorem zq_67 : Cond.initialized RX9 ∈ zj_T := zj_mem (i := 67) (by decide +kernel) rfl
theorem zq_68 : Cond.initialized RX1 ∈ zj_T := zj_mem (i := 68) (by decide +kernel) rfl
theorem zq_69 : Cond.initialized RX7 ∈ zj_T := zj_mem (i := 69) (by decide +kernel) rfl
theorem zq_70 : Cond.initialized RX0 ∈ zj_T := zj_mem (i := 70) (by decide +kernel) rfl
theorem zq_71 : Cond.initialized RX6 ∈ zj_T := zj_mem (i := 71) (by decide +kernel) rfl
theorem zq_72 : Cond.initialized RX3 ∈ zj_T := zj_mem (i := 72) (by decide +kernel) rfl
theorem zq_73 : Cond.initialized RX8 ∈ zj_T := zj_mem (i := 73) (by decide +kernel) rfl
theorem zq_74 : Cond.initialized RX2 ∈ zj_T := zj_mem (i := 74) (by decide +kernel) rfl
theorem zq_75 : Cond.initialized RX10 ∈ zj_T := zj_mem (i := 75) (by decide +kernel) rfl
theorem zq_76 : Cond.initialized RX4 ∈ zj_T := zj_mem (i := 76) (by decide +kernel) rfl
theorem zq_77 : Cond.initialized RX12 ∈ zj_T := zj_mem (i := 77) (by decide +kernel) rfl
theorem zq_78 : Cond.initialized RJ0 ∈ zj_T := zj_mem (i := 78) (by decide +kernel) rfl
theorem zq_82 : Cond.initialized RJ9 ∈ zj_T := zj_mem (i := 82) (by decide +kernel) rfl
theorem zq_84 : Cond.initialized RJ10 ∈ zj_T := zj_mem (i := 84) (by decide +kernel) rfl
theorem zq_85 : Cond.initialized RJ6 ∈ zj_T := zj_mem (i := 85) (by decide +kernel) rfl
theorem zq_100 : Cond.fieldLink RX5 7 "RoadForMood$Rows" "first" "[I" ∈ zj_T := zj_mem (i := 100) (by decide +kernel) rfl
theorem zq_101 : Cond.fieldLink RX2 123 "RoadForMood$Rows" "first" "[I" ∈ zj_T := zj_mem (i := 101) (by decide +kernel) rfl
theorem zq_102 : Cond.fieldLink RX4 128 "RoadForMood$Rows" "first" "[I" ∈ zj_T := zj_mem (i := 102) (by decide +kernel) rfl
theorem zq_103 : Cond.fieldLink RX11 246 "RoadForMood$Rows" "first" "[I" ∈ zj_T := zj_mem (i := 103) (by decide +kernel) rfl
theorem zq_104 : Cond.fieldLink RX5 13 "RoadForMood$Rows" "second" "[I" ∈ zj_T := zj_mem (i := 104) (by decide +kernel) rfl
theorem zq_105 : Cond.fieldLink RX4 119 "RoadForMood$Rows" "second" "[I" ∈ zj_T := zj_mem (i := 105) (by decide +kernel) rfl
theorem zq_106 : Cond.fieldLink RX11 243 "RoadForMood$Rows" "second" "[I" ∈ zj_T := zj_mem (i := 106) (by decide +kernel) rfl
theorem zq_107 : Cond.fieldLink RX5 16 "RoadForMood$Rows" "third" "[I" ∈ zj_T := zj_mem (i := 107) (by decide +kernel) rfl
theorem zq_108 : Cond.fieldLink RX4 131 "RoadForMood$Rows" "third" "[I" ∈ zj_T := zj_mem (i := 108) (by decide +kernel) rfl
theorem zq_109 : Cond.fieldLink RX5 19 "RoadForMood$Rows" "size" "I" ∈ zj_T := zj_mem (i := 109) (by decide +kernel) rfl
theorem zq_110 : Cond.fieldLink RX11 89 "RoadForMood$Rows" "size" "I" ∈ zj_T := zj_mem (i := 110) (by decide +kernel) rfl
theorem zq_111 : Cond.fieldLink RX2 57 "RoadForMood$Rows" "size" "I" ∈ zj_T := zj_mem (i := 111) (by decide +kernel) rfl
theorem zq_112 : Cond.fieldLink RX4 116 "RoadForMood$Rows" "size" "I" ∈ zj_T := zj_mem (i := 112) (by decide +kernel) rfl
theorem zq_130 : Cond.fieldLink RX9 7 "RoadForMood$Walker" "ran" "LRoadForMood$Rows;" ∈ zj_T := zj_mem (i := 130) (by decide +kernel) rfl
theorem zq_134 : Cond.classLink RX11 21 "RoadForMood$Lover" ∈ zj_T := zj_mem (i := 134) (by decide +kernel) rfl
theorem zq_141 : Cond.superclass RX1 RX9 ∈ zj_T := zj_mem (i := 141) (by decide +kernel) rfl
theorem zq_142 : Cond.classLink RX11 24 "RoadForMood$Stout" ∈ zj_T := zj_mem (i := 142) (by decide +kernel) rfl
theorem zq_149 : Cond.superclass RX7 RX9 ∈ zj_T := zj_mem (i := 149) (by decide +kernel) rfl
theorem zq_150 : Cond.classLink RX11 27 "RoadForMood$Drunk" ∈ zj_T := zj_mem (i := 150) (by decide +kernel) rfl
theorem zq_157 : Cond.superclass RX0 RX9 ∈ zj_T := zj_mem (i := 157) (by decide +kernel) rfl
theorem zq_158 : Cond.classLink RX11 30 "RoadForMood$Shy" ∈ zj_T := zj_mem (i := 158) (by decide +kernel) rfl
theorem zq_165 : Cond.superclass RX6 RX1 ∈ zj_T := zj_mem (i := 165) (by decide +kernel) rfl
theorem zq_166 : Cond.classLink RX11 33 "RoadForMood$Proud" ∈ zj_T := zj_mem (i := 166) (by decide +kernel) rfl
theorem zq_173 : Cond.superclass RX3 RX7 ∈ zj_T := zj_mem (i := 173) (by decide +kernel) rfl
theorem zq_174 : Cond.classLink RX11 36 "RoadForMood$Told" ∈ zj_T := zj_mem (i := 174) (by decide +kernel) rfl
theorem zq_181 : Cond.superclass RX8 RX0 ∈ zj_T := zj_mem (i := 181) (by decide +kernel) rfl
theorem zq_188 : Cond.fieldLink RX2 34 "RoadForMood$Park" "rain" "I" ∈ zj_T := zj_mem (i := 188) (by decide +kernel) rfl
theorem zq_189 : Cond.fieldLink RX4 73 "RoadForMood$Park" "rain" "I" ∈ zj_T := zj_mem (i := 189) (by decide +kernel) rfl
theorem zq_190 : Cond.fieldLink RX11 196 "RoadForMood$Park" "rain" "I" ∈ zj_T := zj_mem (i := 190) (by decide +kernel) rfl
theorem zq_191 : Cond.fieldLink RX2 37 "RoadForMood$Park" "edition" "I" ∈ zj_T := zj_mem (i := 191) (by decide +kernel) rfl
theorem zq_192 : Cond.fieldLink RX11 109 "RoadForMood$Park" "edition" "I" ∈ zj_T := zj_mem (i := 192) (by decide +kernel) rfl
theorem zq_193 : Cond.fieldLink RX2 44 "RoadForMood$Park" "place" "I" ∈ zj_T := zj_mem (i := 193) (by decide +kernel) rfl
theorem zq_194 : Cond.fieldLink RX11 103 "RoadForMood$Park" "place" "I" ∈ zj_T := zj_mem (i := 194) (by decide +kernel) rfl
theorem zq_195 : Cond.fieldLink RX2 11 "RoadForMood$Park" "deed" "[I" ∈ zj_T := zj_mem (i := 195) (by decide +kernel) rfl
theorem zq_196 : Cond.fieldLink RX2 15 "RoadForMood$Park" "number" "[I" ∈ zj_T := zj_mem (i := 196) (by decide +kernel) rfl
theorem zq_197 : Cond.fieldLink RX2 18 "RoadForMood$Park" "facts" "[I" ∈ zj_T := zj_mem (i := 197) (by decide +kernel) rfl
theorem zq_198 : Cond.fieldLink RX2 21 "RoadForMood$Park" "sums" "[I" ∈ zj_T := zj_mem (i := 198) (by decide +kernel) rfl
theorem zq_199 : Cond.fieldLink RX2 30 "RoadForMood$Park" "size" "I" ∈ zj_T := zj_mem (i := 199) (by decide +kernel) rfl
theorem zq_200 : Cond.fieldLink RX2 40 "RoadForMood$Park" "tape" "LRoadForMood$Rows;" ∈ zj_T := zj_mem (i := 200) (by decide +kernel) rfl
theorem zq_201 : Cond.fieldLink RX2 62 "RoadForMood$Park" "sign" "I" ∈ zj_T := zj_mem (i := 201) (by decide +kernel) rfl
theorem zq_202 : Cond.fieldLink RX2 47 "RoadForMood$Park" "isFaulty" "Z" ∈ zj_T := zj_mem (i := 202) (by decide +kernel) rfl
theorem zq_240 : Cond.fieldLink RX4 9 "RoadForMood$Ring" "road" "[I" ∈ zj_T := zj_mem (i := 240) (by decide +kernel) rfl
theorem zq_241 : Cond.fieldLink RX11 127 "RoadForMood$Ring" "road" "[I" ∈ zj_T := zj_mem (i := 241) (by decide +kernel) rfl
theorem zq_242 : Cond.fieldLink RX4 15 "RoadForMood$Ring" "kind" "[I" ∈ zj_T := zj_mem (i := 242) (by decide +kernel) rfl
theorem zq_243 : Cond.fieldLink RX11 148 "RoadForMood$Ring" "kind" "[I" ∈ zj_T := zj_mem (i := 243) (by decide +kernel) rfl
theorem zq_244 : Cond.fieldLink RX4 18 "RoadForMood$Ring" "v" "[I" ∈ zj_T := zj_mem (i := 244) (by decide +kernel) rfl
theorem zq_245 : Cond.fieldLink RX0 11 "RoadForMood$Ring" "v" "[I" ∈ zj_T := zj_mem (i := 245) (by decide +kernel) rfl
theorem zq_246 : Cond.fieldLink RX11 151 "RoadForMood$Ring" "v" "[I" ∈ zj_T := zj_mem (i := 246) (by decide +kernel) rfl
theorem zq_247 : Cond.fieldLink RX4 21 "RoadForMood$Ring" "cell" "[I" ∈ zj_T := zj_mem (i := 247) (by decide +kernel) rfl
theorem zq_248 : Cond.fieldLink RX11 154 "RoadForMood$Ring" "cell" "[I" ∈ zj_T := zj_mem (i := 248) (by decide +kernel) rfl
theorem zq_249 : Cond.fieldLink RX4 24 "RoadForMood$Ring" "mood" "[I" ∈ zj_T := zj_mem (i := 249) (by decide +kernel) rfl
theorem zq_250 : Cond.fieldLink RX11 157 "RoadForMood$Ring" "mood" "[I" ∈ zj_T := zj_mem (i := 250) (by decide +kernel) rfl
theorem zq_251 : Cond.fieldLink RX4 27 "RoadForMood$Ring" "moved" "[I" ∈ zj_T := zj_mem (i := 251) (by decide +kernel) rfl
theorem zq_252 : Cond.fieldLink RX11 167 "RoadForMood$Ring" "moved" "[I" ∈ zj_T := zj_mem (i := 252) (by decide +kernel) rfl
theorem zq_253 : Cond.fieldLink RX4 30 "RoadForMood$Ring" "row" "[I" ∈ zj_T := zj_mem (i := 253) (by decide +kernel) rfl
theorem zq_254 : Cond.fieldLink RX8 11 "RoadForMood$Ring" "row" "[I" ∈ zj_T := zj_mem (i := 254) (by decide +kernel) rfl
theorem zq_255 : Cond.fieldLink RX11 186 "RoadForMood$Ring" "row" "[I" ∈ zj_T := zj_mem (i := 255) (by decide +kernel) rfl
theorem zq_256 : Cond.fieldLink RX4 57 "RoadForMood$Ring" "walkers" "I" ∈ zj_T := zj_mem (i := 256) (by decide +kernel) rfl
theorem zq_257 : Cond.fieldLink RX11 134 "RoadForMood$Ring" "walkers" "I" ∈ zj_T := zj_mem (i := 257) (by decide +kernel) rfl
theorem zq_258 : Cond.fieldLink RX8 17 "RoadForMood$Ring" "step" "I" ∈ zj_T := zj_mem (i := 258) (by decide +kernel) rfl
theorem zq_259 : Cond.fieldLink RX4 60 "RoadForMood$Ring" "step" "I" ∈ zj_T := zj_mem (i := 259) (by decide +kernel) rfl
theorem zq_260 : Cond.fieldLink RX7 11 "RoadForMood$Ring" "step" "I" ∈ zj_T := zj_mem (i := 260) (by decide +kernel) rfl
theorem zq_261 : Cond.fieldLink RX11 193 "RoadForMood$Ring" "step" "I" ∈ zj_T := zj_mem (i := 261) (by decide +kernel) rfl
theorem zq_262 : Cond.fieldLink RX4 63 "RoadForMood$Ring" "keepers" "I" ∈ zj_T := zj_mem (i := 262) (by decide +kernel) rfl
theorem zq_263 : Cond.fieldLink RX11 131 "RoadForMood$Ring" "keepers" "I" ∈ zj_T := zj_mem (i := 263) (by decide +kernel) rfl
theorem zq_264 : Cond.fieldLink RX4 66 "RoadForMood$Ring" "away" "I" ∈ zj_T := zj_mem (i := 264) (by decide +kernel) rfl
theorem zq_265 : Cond.fieldLink RX4 39 "RoadForMood$Ring" "park" "LRoadForMood$Park;" ∈ zj_T := zj_mem (i := 265) (by decide +kernel) rfl
theorem zq_266 : Cond.fieldLink RX4 43 "RoadForMood$Ring" "kinds" "[LRoadForMood$Walker;" ∈ zj_T := zj_mem (i := 266) (by decide +kernel) rfl
theorem zq_267 : Cond.fieldLink RX4 47 "RoadForMood$Ring" "mostMoved" "I" ∈ zj_T := zj_mem (i := 267) (by decide +kernel) rfl
theorem zq_268 : Cond.fieldLink RX4 33 "RoadForMood$Ring" "nextCell" "[I" ∈ zj_T := zj_mem (i := 268) (by decide +kernel) rfl
theorem zq_269 : Cond.fieldLink RX4 36 "RoadForMood$Ring" "nextMood" "[I" ∈ zj_T := zj_mem (i := 269) (by decide +kernel) rfl
theorem zq_270 : Cond.fieldLink RX4 78 "RoadForMood$Ring" "takenCells" "I" ∈ zj_T := zj_mem (i := 270) (by decide +kernel) rfl
theorem zq_271 : Cond.fieldLink RX4 81 "RoadForMood$Ring" "sharedCells" "I" ∈ zj_T := zj_mem (i := 271) (by decide +kernel) rfl
theorem zq_309 : Cond.fieldLink RX10 31 "RoadForMood$Whole" "park" "LRoadForMood$Park;" ∈ zj_T := zj_mem (i := 309) (by decide +kernel) rfl
theorem zq_310 : Cond.fieldLink RX11 112 "RoadForMood$Whole" "park" "LRoadForMood$Park;" ∈ zj_T := zj_mem (i := 310) (by decide +kernel) rfl
theorem zq_311 : Cond.fieldLink RX10 40 "RoadForMood$Whole" "ring" "LRoadForMood$Ring;" ∈ zj_T := zj_mem (i := 311) (by decide +kernel) rfl
theorem zq_312 : Cond.fieldLink RX11 124 "RoadForMood$Whole" "ring" "LRoadForMood$Ring;" ∈ zj_T := zj_mem (i := 312) (by decide +kernel) rfl
theorem zq_313 : Cond.fieldLink RX10 16 "RoadForMood$Whole" "tape" "LRoadForMood$Rows;" ∈ zj_T := zj_mem (i := 313) (by decide +kernel) rfl
theorem zq_314 : Cond.fieldLink RX11 78 "RoadForMood$Whole" "tape" "LRoadForMood$Rows;" ∈ zj_T := zj_mem (i := 314) (by decide +kernel) rfl
theorem zq_315 : Cond.fieldLink RX10 22 "RoadForMood$Whole" "seen" "LRoadForMood$Rows;" ∈ zj_T := zj_mem (i := 315) (by decide +kernel) rfl
theorem zq_316 : Cond.fieldLink RX11 228 "RoadForMood$Whole" "seen" "LRoadForMood$Rows;" ∈ zj_T := zj_mem (i := 316) (by decide +kernel) rfl
theorem zq_317 : Cond.fieldLink RX10 25 "RoadForMood$Whole" "plan" "LRoadForMood$Rows;" ∈ zj_T := zj_mem (i := 317) (by decide +kernel) rfl
theorem zq_318 : Cond.fieldLink RX11 240 "RoadForMood$Whole" "plan" "LRoadForMood$Rows;" ∈ zj_T := zj_mem (i := 318) (by decide +kernel) rfl
theorem zq_319 : Cond.fieldLink RX10 28 "RoadForMood$Whole" "book" "LRoadForMood$Rows;" ∈ zj_T := zj_mem (i := 319) (by decide +kernel) rfl
theorem zq_320 : Cond.fieldLink RX11 249 "RoadForMood$Whole" "book" "LRoadForMood$Rows;" ∈ zj_T := zj_mem (i := 320) (by decide +kernel) rfl
theorem zq_321 : Cond.fieldLink RX10 54 "RoadForMood$Whole" "parks" "I" ∈ zj_T := zj_mem (i := 321) (by decide +kernel) rfl
theorem zq_322 : Cond.fieldLink RX11 93 "RoadForMood$Whole" "parks" "I" ∈ zj_T := zj_mem (i := 322) (by decide +kernel) rfl
theorem zq_339 : Cond.constant RX11 70 (2147483647) ∈ zj_T := zj_mem (i := 339) (by decide +kernel) rfl
theorem zq_341 : Cond.fieldLink RX11 44 "RoadForMood" "ran" "LRoadForMood$Rows;" ∈ zj_T := zj_mem (i := 341) (by decide +kernel) rfl
theorem zq_342 : Cond.fieldLink RX11 48 "RoadForMood" "kinds" "[LRoadForMood$Walker;" ∈ zj_T := zj_mem (i := 342) (by decide +kernel) rfl
theorem zq_343 : Cond.fieldLink RX11 52 "RoadForMood" "fresh" "LRoadForMood$Park;" ∈ zj_T := zj_mem (i := 343) (by decide +kernel) rfl
theorem zq_344 : Cond.fieldLink RX11 61 "RoadForMood" "now" "LRoadForMood$Whole;" ∈ zj_T := zj_mem (i := 344) (by decide +kernel) rfl
theorem zq_345 : Cond.fieldLink RX11 65 "RoadForMood" "kept" "LRoadForMood$Whole;" ∈ zj_T := zj_mem (i := 345) (by decide +kernel) rfl
theorem zq_346 : Cond.fieldLink RX11 74 "RoadForMood" "trial" "LRoadForMood$Ring;" ∈ zj_T := zj_mem (i := 346) (by decide +kernel) rfl
theorem zq_347 : Cond.fieldLink RX11 265 "RoadForMood" "isKept" "Z" ∈ zj_T := zj_mem (i := 347) (by decide +kernel) rfl
theorem zq_348 : Cond.fieldLink RX11 106 "RoadForMood" "editions" "I" ∈ zj_T := zj_mem (i := 348) (by decide +kernel) rfl
theorem zq_370 : Cond.methodLink RX11 81 yX5_isFull ∈ zj_T := zj_mem (i := 370) (by decide +kernel) rfl
theorem zq_371 : Cond.instanceMethod yX5_isFull ∈ zj_T := zj_mem (i := 371) (by decide +kernel) rfl
theorem zq_372 : Cond.selects RX5 yX5_isFull yX5_isFull ∈ zj_T := zj_mem (i := 372) (by decide +kernel) rfl
theorem zq_373 : Cond.code yX5_isFull cX5_isFull 1 (some .boolean) ∈ zj_T := zj_mem (i := 373) (by decide +kernel) rfl
theorem zq_374 : Cond.methodLink RX11 85 yX5_add ∈ zj_T := zj_mem (i := 374) (by decide +kernel) rfl
theorem zq_375 : Cond.instanceMethod yX5_add ∈ zj_T := zj_mem (i := 375) (by decide +kernel) rfl
theorem zq_376 : Cond.selects RX5 yX5_add yX5_add ∈ zj_T := zj_mem (i := 376) (by decide +kernel) rfl
theorem zq_377 : Cond.code yX5_add cX5_add 4 none ∈ zj_T := zj_mem (i := 377) (by decide +kernel) rfl
theorem zq_382 : Cond.methodLink RX11 96 yX2_read ∈ zj_T := zj_mem (i := 382) (by decide +kernel) rfl
theorem zq_383 : Cond.instanceMethod yX2_read ∈ zj_T := zj_mem (i := 383) (by decide +kernel) rfl
theorem zq_384 : Cond.selects RX2 yX2_read yX2_read ∈ zj_T := zj_mem (i := 384) (by decide +kernel) rfl
theorem zq_385 : Cond.code yX2_read cX2_read 3 (some .boolean) ∈ zj_T := zj_mem (i := 385) (by decide +kernel) rfl
theorem zq_386 : Cond.methodLink RX2 51 yX2_next ∈ zj_T := zj_mem (i := 386) (by decide +kernel) rfl
theorem zq_388 : Cond.instanceMethod yX2_next ∈ zj_T := zj_mem (i := 388) (by decide +kernel) rfl
theorem zq_389 : Cond.code yX2_next cX2_next 1 none ∈ zj_T := zj_mem (i := 389) (by decide +kernel) rfl
theorem zq_390 : Cond.methodLink RX2 54 yX2_readClause ∈ zj_T := zj_mem (i := 390) (by decide +kernel) rfl
theorem zq_392 : Cond.instanceMethod yX2_readClause ∈ zj_T := zj_mem (i := 392) (by decide +kernel) rfl
theorem zq_393 : Cond.code yX2_readClause cX2_readClause 3 none ∈ zj_T := zj_mem (i := 393) (by decide +kernel) rfl
theorem zq_395 : Cond.methodLink RX2 67 yX2_takeWord ∈ zj_T := zj_mem (i := 395) (by decide +kernel) rfl
theorem zq_397 : Cond.instanceMethod yX2_takeWord ∈ zj_T := zj_mem (i := 397) (by decide +kernel) rfl
theorem zq_398 : Cond.code yX2_takeWord cX2_takeWord 3 none ∈ zj_T := zj_mem (i := 398) (by decide +kernel) rfl
theorem zq_399 : Cond.methodLink RX2 103 yJ0_length_8abf5 ∈ zj_T := zj_mem (i := 399) (by decide +kernel) rfl
theorem zq_400 : Cond.instanceMethod yJ0_length_8abf5 ∈ zj_T := zj_mem (i := 400) (by decide +kernel) rfl
theorem zq_401 : Cond.selects RJ0 yJ0_length_8abf5 yJ0_length_8abf5 ∈ zj_T := zj_mem (i := 401) (by decide +kernel) rfl
theorem zq_402 : Cond.code yJ0_length_8abf5 cJ0_length_8abf5 1 (some .int) ∈ zj_T := zj_mem (i := 402) (by decide +kernel) rfl
theorem zq_409 : Cond.methodLink RX2 119 yJ0_charAt_5068e ∈ zj_T := zj_mem (i := 409) (by decide +kernel) rfl
theorem zq_410 : Cond.instanceMethod yJ0_charAt_5068e ∈ zj_T := zj_mem (i := 410) (by decide +kernel) rfl
theorem zq_411 : Cond.selects RJ0 yJ0_charAt_5068e yJ0_charAt_5068e ∈ zj_T := zj_mem (i := 411) (by decide +kernel) rfl
theorem zq_412 : Cond.code yJ0_charAt_5068e cJ0_charAt_5068e 2 (some .char) ∈ zj_T := zj_mem (i := 412) (by decide +kernel) rfl
theorem zq_447 : Cond.methodLink RX2 58 yX2_take ∈ zj_T := zj_mem (i := 447) (by decide +kernel) rfl
theorem zq_449 : Cond.instanceMethod yX2_take ∈ zj_T := zj_mem (i := 449) (by decide +kernel) rfl
theorem zq_450 : Cond.code yX2_take cX2_take 2 none ∈ zj_T := zj_mem (i := 450) (by decide +kernel) rfl
theorem zq_451 : Cond.methodLink RX2 108 yX2_fail ∈ zj_T := zj_mem (i := 451) (by decide +kernel) rfl
theorem zq_453 : Cond.instanceMethod yX2_fail ∈ zj_T := zj_mem (i := 453) (by decide +kernel) rfl
theorem zq_454 : Cond.code yX2_fail cX2_fail 1 none ∈ zj_T := zj_mem (i := 454) (by decide +kernel) rfl
theorem zq_455 : Cond.methodLink RX2 71 yX2_readNumber ∈ zj_T := zj_mem (i := 455) (by decide +kernel) rfl
theorem zq_457 : Cond.instanceMethod yX2_readNumber ∈ zj_T := zj_mem (i := 457) (by decide +kernel) rfl
theorem zq_458 : Cond.code yX2_readNumber cX2_readNumber 2 (some .int) ∈ zj_T := zj_mem (i := 458) (by decide +kernel) rfl
theorem zq_459 : Cond.methodLink RX2 111 yX2_isDigit ∈ zj_T := zj_mem (i := 459) (by decide +kernel) rfl
theorem zq_461 : Cond.instanceMethod yX2_isDigit ∈ zj_T := zj_mem (i := 461) (by decide +kernel) rfl
theorem zq_462 : Cond.code yX2_isDigit cX2_isDigit 1 (some .boolean) ∈ zj_T := zj_mem (i := 462) (by decide +kernel) rfl
theorem zq_465 : Cond.methodLink RX2 79 yX2_readEither ∈ zj_T := zj_mem (i := 465) (by decide +kernel) rfl
theorem zq_467 : Cond.instanceMethod yX2_readEither ∈ zj_T := zj_mem (i := 467) (by decide +kernel) rfl
theorem zq_468 : Cond.code yX2_readEither cX2_readEither 3 none ∈ zj_T := zj_mem (i := 468) (by decide +kernel) rfl
theorem zq_469 : Cond.methodLink RX2 86 yX2_readBoth ∈ zj_T := zj_mem (i := 469) (by decide +kernel) rfl
theorem zq_471 : Cond.instanceMethod yX2_readBoth ∈ zj_T := zj_mem (i := 471) (by decide +kernel) rfl
theorem zq_472 : Cond.code yX2_readBoth cX2_readBoth 3 none ∈ zj_T := zj_mem (i := 472) (by decide +kernel) rfl
theorem zq_473 : Cond.methodLink RX2 89 yX2_readPart ∈ zj_T := zj_mem (i := 473) (by decide +kernel) rfl
theorem zq_475 : Cond.instanceMethod yX2_readPart ∈ zj_T := zj_mem (i := 475) (by decide +kernel) rfl
theorem zq_476 : Cond.code yX2_readPart cX2_readPart 4 none ∈ zj_T := zj_mem (i := 476) (by decide +kernel) rfl
theorem zq_477 : Cond.methodLink RX2 92 yX2_readOpen ∈ zj_T := zj_mem (i := 477) (by decide +kernel) rfl
theorem zq_479 : Cond.instanceMethod yX2_readOpen ∈ zj_T := zj_mem (i := 479) (by decide +kernel) rfl
theorem zq_480 : Cond.code yX2_readOpen cX2_readOpen 2 none ∈ zj_T := zj_mem (i := 480) (by decide +kernel) rfl
theorem zq_481 : Cond.methodLink RX2 82 yX2_write ∈ zj_T := zj_mem (i := 481) (by decide +kernel) rfl
theorem zq_483 : Cond.instanceMethod yX2_write ∈ zj_T := zj_mem (i := 483) (by decide +kernel) rfl
theorem zq_484 : Cond.code yX2_write cX2_write 3 none ∈ zj_T := zj_mem (i := 484) (by decide +kernel) rfl
theorem zq_486 : Cond.methodLink RX2 97 yX2_takeOneOf ∈ zj_T := zj_mem (i := 486) (by decide +kernel) rfl
theorem zq_488 : Cond.instanceMethod yX2_takeOneOf ∈ zj_T := zj_mem (i := 488) (by decide +kernel) rfl
theorem zq_489 : Cond.code yX2_takeOneOf cX2_takeOneOf 3 (some .int) ∈ zj_T := zj_mem (i := 489) (by decide +kernel) rfl
theorem zq_490 : Cond.methodLink RX2 115 yJ0_indexOf_0f7a4 ∈ zj_T := zj_mem (i := 490) (by decide +kernel) rfl
theorem zq_491 : Cond.instanceMethod yJ0_indexOf_0f7a4 ∈ zj_T := zj_mem (i := 491) (by decide +kernel) rfl
theorem zq_492 : Cond.selects RJ0 yJ0_indexOf_0f7a4 yJ0_indexOf_0f7a4 ∈ zj_T := zj_mem (i := 492) (by decide +kernel) rfl
theorem zq_493 : Cond.code yJ0_indexOf_0f7a4 cJ0_indexOf_0f7a4 2 (some .int) ∈ zj_T := zj_mem (i := 493) (by decide +kernel) rfl
theorem zq_506 : Cond.static Lib.Math.max.name ∈ zj_T := zj_mem (i := 506) (by decide +kernel) rfl
theorem zq_507 : Cond.code Lib.Math.max.name Lib.Math.max.code 2 (some .int) ∈ zj_T := zj_mem (i := 507) (by decide +kernel) rfl
theorem zq_509 : Cond.static Lib.Math.min.name ∈ zj_T := zj_mem (i := 509) (by decide +kernel) rfl
theorem zq_510 : Cond.code Lib.Math.min.name Lib.Math.min.code 2 (some .int) ∈ zj_T := zj_mem (i := 510) (by decide +kernel) rfl
theorem zq_550 : Cond.methodLink RX11 100 yX5_clear ∈ zj_T := zj_mem (i := 550) (by decide +kernel) rfl
theorem zq_551 : Cond.instanceMethod yX5_clear ∈ zj_T := zj_mem (i := 551) (by decide +kernel) rfl
theorem zq_552 : Cond.selects RX5 yX5_clear yX5_clear ∈ zj_T := zj_mem (i := 552) (by decide +kernel) rfl
theorem zq_553 : Cond.code yX5_clear cX5_clear 1 none ∈ zj_T := zj_mem (i := 553) (by decide +kernel) rfl
theorem zq_554 : Cond.methodLink RX11 115 yX2_copyFrom ∈ zj_T := zj_mem (i := 554) (by decide +kernel) rfl
theorem zq_555 : Cond.instanceMethod yX2_copyFrom ∈ zj_T := zj_mem (i := 555) (by decide +kernel) rfl
theorem zq_556 : Cond.selects RX2 yX2_copyFrom yX2_copyFrom ∈ zj_T := zj_mem (i := 556) (by decide +kernel) rfl
theorem zq_557 : Cond.code yX2_copyFrom cX2_copyFrom 2 none ∈ zj_T := zj_mem (i := 557) (by decide +kernel) rfl
theorem zq_558 : Cond.methodLink RX2 24 yX5_copy ∈ zj_T := zj_mem (i := 558) (by decide +kernel) rfl
theorem zq_559 : Cond.static yX5_copy ∈ zj_T := zj_mem (i := 559) (by decide +kernel) rfl
theorem zq_560 : Cond.code yX5_copy cX5_copy 2 none ∈ zj_T := zj_mem (i := 560) (by decide +kernel) rfl
theorem zq_561 : Cond.methodLink RX5 27 Lib.Math.min.name ∈ zj_T := zj_mem (i := 561) (by decide +kernel) rfl
theorem zq_562 : Cond.methodLink RX5 33 arraycopyName ∈ zj_T := zj_mem (i := 562) (by decide +kernel) rfl
theorem zq_563 : Cond.static arraycopyName ∈ zj_T := zj_mem (i := 563) (by decide +kernel) rfl
theorem zq_564 : Cond.native arraycopyName ∈ zj_T := zj_mem (i := 564) (by decide +kernel) rfl
theorem zq_570 : Cond.methodLink RX11 119 yX11_isBelow ∈ zj_T := zj_mem (i := 570) (by decide +kernel) rfl
theorem zq_571 : Cond.static yX11_isBelow ∈ zj_T := zj_mem (i := 571) (by decide +kernel) rfl
theorem zq_572 : Cond.code yX11_isBelow cX11_isBelow 2 (some .boolean) ∈ zj_T := zj_mem (i := 572) (by decide +kernel) rfl
theorem zq_573 : Cond.constant RX11 123 (65535) ∈ zj_T := zj_mem (i := 573) (by decide +kernel) rfl
theorem zq_582 : Cond.methodLink RX11 137 yX4_add ∈ zj_T := zj_mem (i := 582) (by decide +kernel) rfl
theorem zq_583 : Cond.instanceMethod yX4_add ∈ zj_T := zj_mem (i := 583) (by decide +kernel) rfl
theorem zq_584 : Cond.selects RX4 yX4_add yX4_add ∈ zj_T := zj_mem (i := 584) (by decide +kernel) rfl
theorem zq_585 : Cond.code yX4_add cX4_add 7 (some .int) ∈ zj_T := zj_mem (i := 585) (by decide +kernel) rfl
theorem zq_586 : Cond.methodLink RX4 69 yX4_putAway ∈ zj_T := zj_mem (i := 586) (by decide +kernel) rfl
theorem zq_587 : Cond.instanceMethod yX4_putAway ∈ zj_T := zj_mem (i := 587) (by decide +kernel) rfl
theorem zq_588 : Cond.selects RX4 yX4_putAway yX4_putAway ∈ zj_T := zj_mem (i := 588) (by decide +kernel) rfl
theorem zq_589 : Cond.code yX4_putAway cX4_putAway 3 none ∈ zj_T := zj_mem (i := 589) (by decide +kernel) rfl
theorem zq_594 : Cond.methodLink RX11 140 yX11_isWalker ∈ zj_T := zj_mem (i := 594) (by decide +kernel) rfl
theorem zq_596 : Cond.instanceMethod yX11_isWalker ∈ zj_T := zj_mem (i := 596) (by decide +kernel) rfl
theorem zq_597 : Cond.code yX11_isWalker cX11_isWalker 2 (some .boolean) ∈ zj_T := zj_mem (i := 597) (by decide +kernel) rfl
theorem zq_598 : Cond.constant RX11 144 (-999999) ∈ zj_T := zj_mem (i := 598) (by decide +kernel) rfl
theorem zq_599 : Cond.methodLink RX11 145 yX4_lookAround ∈ zj_T := zj_mem (i := 599) (by decide +kernel) rfl
theorem zq_600 : Cond.instanceMethod yX4_lookAround ∈ zj_T := zj_mem (i := 600) (by decide +kernel) rfl
theorem zq_601 : Cond.selects RX4 yX4_lookAround yX4_lookAround ∈ zj_T := zj_mem (i := 601) (by decide +kernel) rfl
theorem zq_602 : Cond.code yX4_lookAround cX4_lookAround 3 none ∈ zj_T := zj_mem (i := 602) (by decide +kernel) rfl
theorem zq_603 : Cond.methodLink RX4 84 yX4_isAway ∈ zj_T := zj_mem (i := 603) (by decide +kernel) rfl
theorem zq_604 : Cond.instanceMethod yX4_isAway ∈ zj_T := zj_mem (i := 604) (by decide +kernel) rfl
theorem zq_605 : Cond.selects RX4 yX4_isAway yX4_isAway ∈ zj_T := zj_mem (i := 605) (by decide +kernel) rfl
theorem zq_606 : Cond.code yX4_isAway cX4_isAway 2 (some .boolean) ∈ zj_T := zj_mem (i := 606) (by decide +kernel) rfl
theorem zq_607 : Cond.methodLink RX11 160 yX4_isAway ∈ zj_T := zj_mem (i := 607) (by decide +kernel) rfl
theorem zq_608 : Cond.methodLink RX11 163 yX11_bit ∈ zj_T := zj_mem (i := 608) (by decide +kernel) rfl
theorem zq_609 : Cond.static yX11_bit ∈ zj_T := zj_mem (i := 609) (by decide +kernel) rfl
theorem zq_610 : Cond.code yX11_bit cX11_bit 1 (some .int) ∈ zj_T := zj_mem (i := 610) (by decide +kernel) rfl
theorem zq_611 : Cond.methodLink RX11 170 yX4_isWrong ∈ zj_T := zj_mem (i := 611) (by decide +kernel) rfl
theorem zq_612 : Cond.instanceMethod yX4_isWrong ∈ zj_T := zj_mem (i := 612) (by decide +kernel) rfl
theorem zq_613 : Cond.selects RX4 yX4_isWrong yX4_isWrong ∈ zj_T := zj_mem (i := 613) (by decide +kernel) rfl
theorem zq_614 : Cond.code yX4_isWrong cX4_isWrong 2 (some .boolean) ∈ zj_T := zj_mem (i := 614) (by decide +kernel) rfl
theorem zq_615 : Cond.methodLink RX11 173 yX4_hasCompany ∈ zj_T := zj_mem (i := 615) (by decide +kernel) rfl
theorem zq_616 : Cond.instanceMethod yX4_hasCompany ∈ zj_T := zj_mem (i := 616) (by decide +kernel) rfl
theorem zq_617 : Cond.selects RX4 yX4_hasCompany yX4_hasCompany ∈ zj_T := zj_mem (i := 617) (by decide +kernel) rfl
theorem zq_618 : Cond.code yX4_hasCompany cX4_hasCompany 3 (some .boolean) ∈ zj_T := zj_mem (i := 618) (by decide +kernel) rfl
theorem zq_619 : Cond.methodLink RX11 176 yX4_swayOf ∈ zj_T := zj_mem (i := 619) (by decide +kernel) rfl
theorem zq_620 : Cond.instanceMethod yX4_swayOf ∈ zj_T := zj_mem (i := 620) (by decide +kernel) rfl
theorem zq_621 : Cond.selects RX4 yX4_swayOf yX4_swayOf ∈ zj_T := zj_mem (i := 621) (by decide +kernel) rfl
theorem zq_622 : Cond.code yX4_swayOf cX4_swayOf 3 (some .int) ∈ zj_T := zj_mem (i := 622) (by decide +kernel) rfl
theorem zq_623 : Cond.methodLink RX4 88 yX2_sumOf ∈ zj_T := zj_mem (i := 623) (by decide +kernel) rfl
theorem zq_624 : Cond.instanceMethod yX2_sumOf ∈ zj_T := zj_mem (i := 624) (by decide +kernel) rfl
theorem zq_625 : Cond.selects RX2 yX2_sumOf yX2_sumOf ∈ zj_T := zj_mem (i := 625) (by decide +kernel) rfl
theorem zq_626 : Cond.code yX2_sumOf cX2_sumOf 9 (some .int) ∈ zj_T := zj_mem (i := 626) (by decide +kernel) rfl
theorem zq_627 : Cond.methodLink RX2 126 yX2_sumOfFacts ∈ zj_T := zj_mem (i := 627) (by decide +kernel) rfl
theorem zq_629 : Cond.instanceMethod yX2_sumOfFacts ∈ zj_T := zj_mem (i := 629) (by decide +kernel) rfl
theorem zq_630 : Cond.code yX2_sumOfFacts cX2_sumOfFacts 5 (some .int) ∈ zj_T := zj_mem (i := 630) (by decide +kernel) rfl
theorem zq_631 : Cond.methodLink RX2 129 yX2_holds ∈ zj_T := zj_mem (i := 631) (by decide +kernel) rfl
theorem zq_633 : Cond.instanceMethod yX2_holds ∈ zj_T := zj_mem (i := 633) (by decide +kernel) rfl
theorem zq_634 : Cond.code yX2_holds cX2_holds 4 (some .boolean) ∈ zj_T := zj_mem (i := 634) (by decide +kernel) rfl
theorem zq_636 : Cond.methodLink RX4 92 yX9_sway ∈ zj_T := zj_mem (i := 636) (by decide +kernel) rfl
theorem zq_637 : Cond.instanceMethod yX9_sway ∈ zj_T := zj_mem (i := 637) (by decide +kernel) rfl
theorem zq_638 : Cond.selects RX9 yX9_sway yX9_sway ∈ zj_T := zj_mem (i := 638) (by decide +kernel) rfl
theorem zq_639 : Cond.sameMethod "RoadForMood$Walker" "RoadForMood$Walker" "sway" "(LRoadForMood$Ring;II)I" ∈ zj_T := zj_mem (i := 639) (by decide +kernel) rfl
theorem zq_640 : Cond.selects RX0 yX9_sway yX0_sway ∈ zj_T := zj_mem (i := 640) (by decide +kernel) rfl
theorem zq_641 : Cond.instanceMethod yX0_sway ∈ zj_T := zj_mem (i := 641) (by decide +kernel) rfl
theorem zq_642 : Cond.code yX0_sway cX0_sway 4 (some .int) ∈ zj_T := zj_mem (i := 642) (by decide +kernel) rfl
theorem zq_643 : Cond.methodLink RX0 7 yX9_sway ∈ zj_T := zj_mem (i := 643) (by decide +kernel) rfl
theorem zq_644 : Cond.selects RX1 yX9_sway yX1_sway ∈ zj_T := zj_mem (i := 644) (by decide +kernel) rfl
theorem zq_645 : Cond.instanceMethod yX1_sway ∈ zj_T := zj_mem (i := 645) (by decide +kernel) rfl
theorem zq_646 : Cond.code yX1_sway cX1_sway 4 (some .int) ∈ zj_T := zj_mem (i := 646) (by decide +kernel) rfl
theorem zq_647 : Cond.methodLink RX1 7 yX4_hasCompany ∈ zj_T := zj_mem (i := 647) (by decide +kernel) rfl
theorem zq_648 : Cond.methodLink RX1 13 yX9_sway ∈ zj_T := zj_mem (i := 648) (by decide +kernel) rfl
theorem zq_649 : Cond.selects RX3 yX9_sway yX3_sway ∈ zj_T := zj_mem (i := 649) (by decide +kernel) rfl
theorem zq_650 : Cond.instanceMethod yX3_sway ∈ zj_T := zj_mem (i := 650) (by decide +kernel) rfl
theorem zq_651 : Cond.code yX3_sway cX3_sway 4 (some .int) ∈ zj_T := zj_mem (i := 651) (by decide +kernel) rfl
theorem zq_652 : Cond.methodLink RX3 7 yX4_isWrong ∈ zj_T := zj_mem (i := 652) (by decide +kernel) rfl
theorem zq_653 : Cond.methodLink RX3 13 yX7_sway ∈ zj_T := zj_mem (i := 653) (by decide +kernel) rfl
theorem zq_654 : Cond.instanceMethod yX7_sway ∈ zj_T := zj_mem (i := 654) (by decide +kernel) rfl
theorem zq_655 : Cond.code yX7_sway cX7_sway 4 (some .int) ∈ zj_T := zj_mem (i := 655) (by decide +kernel) rfl
theorem zq_656 : Cond.methodLink RX7 7 yX9_sway ∈ zj_T := zj_mem (i := 656) (by decide +kernel) rfl
theorem zq_657 : Cond.selects RX6 yX9_sway yX6_sway ∈ zj_T := zj_mem (i := 657) (by decide +kernel) rfl
theorem zq_658 : Cond.instanceMethod yX6_sway ∈ zj_T := zj_mem (i := 658) (by decide +kernel) rfl
theorem zq_659 : Cond.code yX6_sway cX6_sway 4 (some .int) ∈ zj_T := zj_mem (i := 659) (by decide +kernel) rfl
theorem zq_660 : Cond.methodLink RX6 7 yX1_sway ∈ zj_T := zj_mem (i := 660) (by decide +kernel) rfl
theorem zq_661 : Cond.methodLink RX6 11 yX4_hasCompany ∈ zj_T := zj_mem (i := 661) (by decide +kernel) rfl
theorem zq_662 : Cond.selects RX7 yX9_sway yX7_sway ∈ zj_T := zj_mem (i := 662) (by decide +kernel) rfl
theorem zq_663 : Cond.selects RX8 yX9_sway yX8_sway ∈ zj_T := zj_mem (i := 663) (by decide +kernel) rfl
theorem zq_664 : Cond.instanceMethod yX8_sway ∈ zj_T := zj_mem (i := 664) (by decide +kernel) rfl
theorem zq_665 : Cond.code yX8_sway cX8_sway 4 (some .int) ∈ zj_T := zj_mem (i := 665) (by decide +kernel) rfl
theorem zq_666 : Cond.methodLink RX8 7 yX0_sway ∈ zj_T := zj_mem (i := 666) (by decide +kernel) rfl
theorem zq_667 : Cond.code yX9_sway cX9_sway 4 (some .int) ∈ zj_T := zj_mem (i := 667) (by decide +kernel) rfl
theorem zq_668 : Cond.methodLink RX11 180 yX4_paceOf ∈ zj_T := zj_mem (i := 668) (by decide +kernel) rfl
theorem zq_669 : Cond.instanceMethod yX4_paceOf ∈ zj_T := zj_mem (i := 669) (by decide +kernel) rfl
theorem zq_670 : Cond.selects RX4 yX4_paceOf yX4_paceOf ∈ zj_T := zj_mem (i := 670) (by decide +kernel) rfl
theorem zq_671 : Cond.code yX4_paceOf cX4_paceOf 2 (some .int) ∈ zj_T := zj_mem (i := 671) (by decide +kernel) rfl
theorem zq_672 : Cond.methodLink RX4 98 yX4_isRaining ∈ zj_T := zj_mem (i := 672) (by decide +kernel) rfl
theorem zq_673 : Cond.instanceMethod yX4_isRaining ∈ zj_T := zj_mem (i := 673) (by decide +kernel) rfl
theorem zq_674 : Cond.selects RX4 yX4_isRaining yX4_isRaining ∈ zj_T := zj_mem (i := 674) (by decide +kernel) rfl
theorem zq_675 : Cond.code yX4_isRaining cX4_isRaining 1 (some .boolean) ∈ zj_T := zj_mem (i := 675) (by decide +kernel) rfl
theorem zq_676 : Cond.methodLink RX4 102 yX9_pace ∈ zj_T := zj_mem (i := 676) (by decide +kernel) rfl
theorem zq_677 : Cond.instanceMethod yX9_pace ∈ zj_T := zj_mem (i := 677) (by decide +kernel) rfl
theorem zq_678 : Cond.selects RX9 yX9_pace yX9_pace ∈ zj_T := zj_mem (i := 678) (by decide +kernel) rfl
theorem zq_679 : Cond.sameMethod "RoadForMood$Walker" "RoadForMood$Walker" "pace" "(LRoadForMood$Ring;I)I" ∈ zj_T := zj_mem (i := 679) (by decide +kernel) rfl
theorem zq_680 : Cond.selects RX0 yX9_pace yX0_pace ∈ zj_T := zj_mem (i := 680) (by decide +kernel) rfl
theorem zq_681 : Cond.instanceMethod yX0_pace ∈ zj_T := zj_mem (i := 681) (by decide +kernel) rfl
theorem zq_682 : Cond.code yX0_pace cX0_pace 3 (some .int) ∈ zj_T := zj_mem (i := 682) (by decide +kernel) rfl
theorem zq_683 : Cond.selects RX1 yX9_pace yX9_pace ∈ zj_T := zj_mem (i := 683) (by decide +kernel) rfl
theorem zq_684 : Cond.selects RX3 yX9_pace yX3_pace ∈ zj_T := zj_mem (i := 684) (by decide +kernel) rfl
theorem zq_685 : Cond.instanceMethod yX3_pace ∈ zj_T := zj_mem (i := 685) (by decide +kernel) rfl
theorem zq_686 : Cond.code yX3_pace cX3_pace 3 (some .int) ∈ zj_T := zj_mem (i := 686) (by decide +kernel) rfl
theorem zq_687 : Cond.methodLink RX3 17 yX7_pace ∈ zj_T := zj_mem (i := 687) (by decide +kernel) rfl
theorem zq_688 : Cond.instanceMethod yX7_pace ∈ zj_T := zj_mem (i := 688) (by decide +kernel) rfl
theorem zq_689 : Cond.code yX7_pace cX7_pace 3 (some .int) ∈ zj_T := zj_mem (i := 689) (by decide +kernel) rfl
theorem zq_690 : Cond.selects RX6 yX9_pace yX6_pace ∈ zj_T := zj_mem (i := 690) (by decide +kernel) rfl
theorem zq_691 : Cond.instanceMethod yX6_pace ∈ zj_T := zj_mem (i := 691) (by decide +kernel) rfl
theorem zq_692 : Cond.code yX6_pace cX6_pace 3 (some .int) ∈ zj_T := zj_mem (i := 692) (by decide +kernel) rfl
theorem zq_693 : Cond.methodLink RX6 17 ⟨"RoadForMood$Lover", "pace", "(LRoadForMood$Ring;I)I"⟩ ∈ zj_T := zj_mem (i := 693) (by decide +kernel) rfl
theorem zq_694 : Cond.sameMethod "RoadForMood$Lover" "RoadForMood$Walker" "pace" "(LRoadForMood$Ring;I)I" ∈ zj_T := zj_mem (i := 694) (by decide +kernel) rfl
theorem zq_696 : Cond.selects RX7 yX9_pace yX7_pace ∈ zj_T := zj_mem (i := 696) (by decide +kernel) rfl
theorem zq_697 : Cond.selects RX8 yX9_pace yX0_pace ∈ zj_T := zj_mem (i := 697) (by decide +kernel) rfl
theorem zq_698 : Cond.code yX9_pace cX9_pace 3 (some .int) ∈ zj_T := zj_mem (i := 698) (by decide +kernel) rfl
theorem zq_703 : Cond.methodLink RX11 183 yX11_isUnder ∈ zj_T := zj_mem (i := 703) (by decide +kernel) rfl
theorem zq_705 : Cond.instanceMethod yX11_isUnder ∈ zj_T := zj_mem (i := 705) (by decide +kernel) rfl
theorem zq_706 : Cond.code yX11_isUnder cX11_isUnder 4 (some .boolean) ∈ zj_T := zj_mem (i := 706) (by decide +kernel) rfl
theorem zq_715 : Cond.methodLink RX11 189 yX4_putAway ∈ zj_T := zj_mem (i := 715) (by decide +kernel) rfl
theorem zq_720 : Cond.methodLink RX11 199 yX4_isRaining ∈ zj_T := zj_mem (i := 720) (by decide +kernel) rfl
theorem zq_721 : Cond.methodLink RX11 202 yX4_wrongOnes ∈ zj_T := zj_mem (i := 721) (by decide +kernel) rfl
theorem zq_722 : Cond.instanceMethod yX4_wrongOnes ∈ zj_T := zj_mem (i := 722) (by decide +kernel) rfl
theorem zq_723 : Cond.selects RX4 yX4_wrongOnes yX4_wrongOnes ∈ zj_T := zj_mem (i := 723) (by decide +kernel) rfl
theorem zq_724 : Cond.code yX4_wrongOnes cX4_wrongOnes 3 (some .int) ∈ zj_T := zj_mem (i := 724) (by decide +kernel) rfl
theorem zq_725 : Cond.methodLink RX4 106 yX4_isWrong ∈ zj_T := zj_mem (i := 725) (by decide +kernel) rfl
theorem zq_726 : Cond.methodLink RX11 206 yX4_movedOfAll ∈ zj_T := zj_mem (i := 726) (by decide +kernel) rfl
theorem zq_727 : Cond.instanceMethod yX4_movedOfAll ∈ zj_T := zj_mem (i := 727) (by decide +kernel) rfl
theorem zq_728 : Cond.selects RX4 yX4_movedOfAll yX4_movedOfAll ∈ zj_T := zj_mem (i := 728) (by decide +kernel) rfl
theorem zq_729 : Cond.code yX4_movedOfAll cX4_movedOfAll 3 (some .int) ∈ zj_T := zj_mem (i := 729) (by decide +kernel) rfl
theorem zq_730 : Cond.methodLink RX11 209 yX11_startTrial ∈ zj_T := zj_mem (i := 730) (by decide +kernel) rfl
theorem zq_732 : Cond.instanceMethod yX11_startTrial ∈ zj_T := zj_mem (i := 732) (by decide +kernel) rfl
theorem zq_733 : Cond.code yX11_startTrial cX11_startTrial 1 (some (.object "RoadForMood$Ring")) ∈ zj_T := zj_mem (i := 733) (by decide +kernel) rfl
theorem zq_734 : Cond.methodLink RX11 269 yX4_copyFrom ∈ zj_T := zj_mem (i := 734) (by decide +kernel) rfl
theorem zq_735 : Cond.instanceMethod yX4_copyFrom ∈ zj_T := zj_mem (i := 735) (by decide +kernel) rfl
theorem zq_736 : Cond.selects RX4 yX4_copyFrom yX4_copyFrom ∈ zj_T := zj_mem (i := 736) (by decide +kernel) rfl
theorem zq_737 : Cond.code yX4_copyFrom cX4_copyFrom 2 none ∈ zj_T := zj_mem (i := 737) (by decide +kernel) rfl
theorem zq_738 : Cond.methodLink RX4 51 yX5_copy ∈ zj_T := zj_mem (i := 738) (by decide +kernel) rfl
theorem zq_739 : Cond.methodLink RX11 213 yX4_trouble ∈ zj_T := zj_mem (i := 739) (by decide +kernel) rfl
theorem zq_740 : Cond.instanceMethod yX4_trouble ∈ zj_T := zj_mem (i := 740) (by decide +kernel) rfl
theorem zq_741 : Cond.selects RX4 yX4_trouble yX4_trouble ∈ zj_T := zj_mem (i := 741) (by decide +kernel) rfl
theorem zq_742 : Cond.code yX4_trouble cX4_trouble 4 (some .int) ∈ zj_T := zj_mem (i := 742) (by decide +kernel) rfl
theorem zq_743 : Cond.methodLink RX4 109 yX4_goOneStep ∈ zj_T := zj_mem (i := 743) (by decide +kernel) rfl
theorem zq_745 : Cond.instanceMethod yX4_goOneStep ∈ zj_T := zj_mem (i := 745) (by decide +kernel) rfl
theorem zq_746 : Cond.code yX4_goOneStep cX4_goOneStep 2 none ∈ zj_T := zj_mem (i := 746) (by decide +kernel) rfl
theorem zq_747 : Cond.methodLink RX4 134 yX4_lookAround ∈ zj_T := zj_mem (i := 747) (by decide +kernel) rfl
theorem zq_748 : Cond.methodLink RX4 137 yX4_paceOf ∈ zj_T := zj_mem (i := 748) (by decide +kernel) rfl
theorem zq_749 : Cond.methodLink RX4 141 yX4_swayOf ∈ zj_T := zj_mem (i := 749) (by decide +kernel) rfl
theorem zq_750 : Cond.methodLink RX4 144 yX4_handOver ∈ zj_T := zj_mem (i := 750) (by decide +kernel) rfl
theorem zq_752 : Cond.instanceMethod yX4_handOver ∈ zj_T := zj_mem (i := 752) (by decide +kernel) rfl
theorem zq_753 : Cond.code yX4_handOver cX4_handOver 3 none ∈ zj_T := zj_mem (i := 753) (by decide +kernel) rfl
theorem zq_754 : Cond.methodLink RX4 148 Lib.Math.min.name ∈ zj_T := zj_mem (i := 754) (by decide +kernel) rfl
theorem zq_755 : Cond.methodLink RX4 112 yX4_wrongOnes ∈ zj_T := zj_mem (i := 755) (by decide +kernel) rfl
theorem zq_756 : Cond.methodLink RX11 216 yX4_onAnyRoad ∈ zj_T := zj_mem (i := 756) (by decide +kernel) rfl
theorem zq_757 : Cond.instanceMethod yX4_onAnyRoad ∈ zj_T := zj_mem (i := 757) (by decide +kernel) rfl
theorem zq_758 : Cond.selects RX4 yX4_onAnyRoad yX4_onAnyRoad ∈ zj_T := zj_mem (i := 758) (by decide +kernel) rfl
theorem zq_759 : Cond.code yX4_onAnyRoad cX4_onAnyRoad 3 (some .int) ∈ zj_T := zj_mem (i := 759) (by decide +kernel) rfl
theorem zq_760 : Cond.methodLink RX11 219 yX4_onJustOneRoad ∈ zj_T := zj_mem (i := 760) (by decide +kernel) rfl
theorem zq_761 : Cond.instanceMethod yX4_onJustOneRoad ∈ zj_T := zj_mem (i := 761) (by decide +kernel) rfl
theorem zq_762 : Cond.selects RX4 yX4_onJustOneRoad yX4_onJustOneRoad ∈ zj_T := zj_mem (i := 762) (by decide +kernel) rfl
theorem zq_763 : Cond.code yX4_onJustOneRoad cX4_onJustOneRoad 4 (some .int) ∈ zj_T := zj_mem (i := 763) (by decide +kernel) rfl
theorem zq_768 : Cond.methodLink RX11 222 yX4_goOn ∈ zj_T := zj_mem (i := 768) (by decide +kernel) rfl
theorem zq_769 : Cond.instanceMethod yX4_goOn ∈ zj_T := zj_mem (i := 769) (by decide +kernel) rfl
theorem zq_770 : Cond.selects RX4 yX4_goOn yX4_goOn ∈ zj_T := zj_mem (i := 770) (by decide +kernel) rfl
theorem zq_771 : Cond.code yX4_goOn cX4_goOn 3 none ∈ zj_T := zj_mem (i := 771) (by decide +kernel) rfl
theorem zq_788 : Cond.methodLink RX11 225 yX11_nextSet ∈ zj_T := zj_mem (i := 788) (by decide +kernel) rfl
theorem zq_789 : Cond.static yX11_nextSet ∈ zj_T := zj_mem (i := 789) (by decide +kernel) rfl
theorem zq_790 : Cond.code yX11_nextSet cX11_nextSet 3 (some .int) ∈ zj_T := zj_mem (i := 790) (by decide +kernel) rfl
theorem zq_791 : Cond.constant RX11 272 (65536) ∈ zj_T := zj_mem (i := 791) (by decide +kernel) rfl
theorem zq_792 : Cond.methodLink RX11 273 yJ6_bitCount_0f7a4 ∈ zj_T := zj_mem (i := 792) (by decide +kernel) rfl
theorem zq_793 : Cond.static yJ6_bitCount_0f7a4 ∈ zj_T := zj_mem (i := 793) (by decide +kernel) rfl
theorem zq_794 : Cond.code yJ6_bitCount_0f7a4 cJ6_bitCount_0f7a4 1 (some .int) ∈ zj_T := zj_mem (i := 794) (by decide +kernel) rfl
theorem zq_795 : Cond.constant RJ6 265 (1431655765) ∈ zj_T := zj_mem (i := 795) (by decide +kernel) rfl
theorem zq_796 : Cond.constant RJ6 266 (858993459) ∈ zj_T := zj_mem (i := 796) (by decide +kernel) rfl
theorem zq_797 : Cond.constant RJ6 267 (252645135) ∈ zj_T := zj_mem (i := 797) (by decide +kernel) rfl
theorem zq_810 : Cond.methodLink RX11 231 yX4_isAsSeen ∈ zj_T := zj_mem (i := 810) (by decide +kernel) rfl
theorem zq_811 : Cond.instanceMethod yX4_isAsSeen ∈ zj_T := zj_mem (i := 811) (by decide +kernel) rfl
theorem zq_812 : Cond.selects RX4 yX4_isAsSeen yX4_isAsSeen ∈ zj_T := zj_mem (i := 812) (by decide +kernel) rfl
theorem zq_813 : Cond.code yX4_isAsSeen cX4_isAsSeen 5 (some .boolean) ∈ zj_T := zj_mem (i := 813) (by decide +kernel) rfl
theorem zq_814 : Cond.methodLink RX4 122 Lib.Math.max.name ∈ zj_T := zj_mem (i := 814) (by decide +kernel) rfl
theorem zq_827 : Cond.constantLong RX11 234 (-9223372036854775808) ∈ zj_T := zj_mem (i := 827) (by decide +kernel) rfl
theorem zq_828 : Cond.methodLink RX11 236 yX11_partOf ∈ zj_T := zj_mem (i := 828) (by decide +kernel) rfl
theorem zq_829 : Cond.static yX11_partOf ∈ zj_T := zj_mem (i := 829) (by decide +kernel) rfl
theorem zq_830 : Cond.code yX11_partOf cX11_partOf 7 (some .long) ∈ zj_T := zj_mem (i := 830) (by decide +kernel) rfl
theorem zq_855 : Cond.methodLink RX11 252 yX9_strolls ∈ zj_T := zj_mem (i := 855) (by decide +kernel) rfl
theorem zq_856 : Cond.instanceMethod yX9_strolls ∈ zj_T := zj_mem (i := 856) (by decide +kernel) rfl
theorem zq_857 : Cond.selects RX9 yX9_strolls yX9_strolls ∈ zj_T := zj_mem (i := 857) (by decide +kernel) rfl
theorem zq_858 : Cond.sameMethod "RoadForMood$Walker" "RoadForMood$Walker" "strolls" "(III)I" ∈ zj_T := zj_mem (i := 858) (by decide +kernel) rfl
theorem zq_859 : Cond.selects RX0 yX9_strolls yX9_strolls ∈ zj_T := zj_mem (i := 859) (by decide +kernel) rfl
theorem zq_860 : Cond.selects RX1 yX9_strolls yX1_strolls ∈ zj_T := zj_mem (i := 860) (by decide +kernel) rfl
theorem zq_861 : Cond.instanceMethod yX1_strolls ∈ zj_T := zj_mem (i := 861) (by decide +kernel) rfl
theorem zq_862 : Cond.code yX1_strolls cX1_strolls 4 (some .int) ∈ zj_T := zj_mem (i := 862) (by decide +kernel) rfl
theorem zq_863 : Cond.methodLink RX1 17 ⟨"RoadForMood$Lover", "begin", "(I)V"⟩ ∈ zj_T := zj_mem (i := 863) (by decide +kernel) rfl
theorem zq_864 : Cond.sameMethod "RoadForMood$Lover" "RoadForMood$Walker" "begin" "(I)V" ∈ zj_T := zj_mem (i := 864) (by decide +kernel) rfl
theorem zq_866 : Cond.selects RX1 ⟨"RoadForMood$Lover", "begin", "(I)V"⟩ yX9_begin ∈ zj_T := zj_mem (i := 866) (by decide +kernel) rfl
theorem zq_867 : Cond.selects RX6 ⟨"RoadForMood$Lover", "begin", "(I)V"⟩ yX9_begin ∈ zj_T := zj_mem (i := 867) (by decide +kernel) rfl
theorem zq_868 : Cond.instanceMethod yX9_begin ∈ zj_T := zj_mem (i := 868) (by decide +kernel) rfl
theorem zq_869 : Cond.code yX9_begin cX9_begin 2 none ∈ zj_T := zj_mem (i := 869) (by decide +kernel) rfl
theorem zq_870 : Cond.methodLink RX9 24 yX5_add ∈ zj_T := zj_mem (i := 870) (by decide +kernel) rfl
theorem zq_871 : Cond.methodLink RX1 23 yX9_strolls ∈ zj_T := zj_mem (i := 871) (by decide +kernel) rfl
theorem zq_872 : Cond.selects RX3 yX9_strolls yX3_strolls ∈ zj_T := zj_mem (i := 872) (by decide +kernel) rfl
theorem zq_873 : Cond.instanceMethod yX3_strolls ∈ zj_T := zj_mem (i := 873) (by decide +kernel) rfl
theorem zq_874 : Cond.code yX3_strolls cX3_strolls 4 (some .int) ∈ zj_T := zj_mem (i := 874) (by decide +kernel) rfl
theorem zq_875 : Cond.methodLink RX3 21 ⟨"RoadForMood$Proud", "begin", "(I)V"⟩ ∈ zj_T := zj_mem (i := 875) (by decide +kernel) rfl
theorem zq_876 : Cond.sameMethod "RoadForMood$Proud" "RoadForMood$Walker" "begin" "(I)V" ∈ zj_T := zj_mem (i := 876) (by decide +kernel) rfl
theorem zq_877 : Cond.selects RX3 ⟨"RoadForMood$Proud", "begin", "(I)V"⟩ yX9_begin ∈ zj_T := zj_mem (i := 877) (by decide +kernel) rfl
theorem zq_878 : Cond.methodLink RX3 27 ⟨"RoadForMood$Stout", "strolls", "(III)I"⟩ ∈ zj_T := zj_mem (i := 878) (by decide +kernel) rfl
theorem zq_879 : Cond.sameMethod "RoadForMood$Stout" "RoadForMood$Walker" "strolls" "(III)I" ∈ zj_T := zj_mem (i := 879) (by decide +kernel) rfl
theorem zq_881 : Cond.selects RX6 yX9_strolls yX1_strolls ∈ zj_T := zj_mem (i := 881) (by decide +kernel) rfl
theorem zq_882 : Cond.selects RX7 yX9_strolls yX9_strolls ∈ zj_T := zj_mem (i := 882) (by decide +kernel) rfl
theorem zq_883 : Cond.selects RX8 yX9_strolls yX9_strolls ∈ zj_T := zj_mem (i := 883) (by decide +kernel) rfl
theorem zq_884 : Cond.code yX9_strolls cX9_strolls 4 (some .int) ∈ zj_T := zj_mem (i := 884) (by decide +kernel) rfl
theorem zq_885 : Cond.methodLink RX9 13 yX9_begin ∈ zj_T := zj_mem (i := 885) (by decide +kernel) rfl
theorem zq_886 : Cond.methodLink RX11 256 yX9_looks ∈ zj_T := zj_mem (i := 886) (by decide +kernel) rfl
theorem zq_887 : Cond.instanceMethod yX9_looks ∈ zj_T := zj_mem (i := 887) (by decide +kernel) rfl
theorem zq_888 : Cond.selects RX9 yX9_looks yX9_looks ∈ zj_T := zj_mem (i := 888) (by decide +kernel) rfl
theorem zq_889 : Cond.sameMethod "RoadForMood$Walker" "RoadForMood$Walker" "looks" "(III)I" ∈ zj_T := zj_mem (i := 889) (by decide +kernel) rfl
theorem zq_890 : Cond.selects RX0 yX9_looks yX9_looks ∈ zj_T := zj_mem (i := 890) (by decide +kernel) rfl
theorem zq_891 : Cond.selects RX1 yX9_looks yX9_looks ∈ zj_T := zj_mem (i := 891) (by decide +kernel) rfl
theorem zq_892 : Cond.selects RX3 yX9_looks yX7_looks ∈ zj_T := zj_mem (i := 892) (by decide +kernel) rfl
theorem zq_893 : Cond.instanceMethod yX7_looks ∈ zj_T := zj_mem (i := 893) (by decide +kernel) rfl
theorem zq_894 : Cond.code yX7_looks cX7_looks 4 (some .int) ∈ zj_T := zj_mem (i := 894) (by decide +kernel) rfl
theorem zq_895 : Cond.methodLink RX7 17 ⟨"RoadForMood$Stout", "begin", "(I)V"⟩ ∈ zj_T := zj_mem (i := 895) (by decide +kernel) rfl
theorem zq_896 : Cond.sameMethod "RoadForMood$Stout" "RoadForMood$Walker" "begin" "(I)V" ∈ zj_T := zj_mem (i := 896) (by decide +kernel) rfl
theorem zq_897 : Cond.selects RX3 ⟨"RoadForMood$Stout", "begin", "(I)V"⟩ yX9_begin ∈ zj_T := zj_mem (i := 897) (by decide +kernel) rfl
theorem zq_898 : Cond.selects RX7 ⟨"RoadForMood$Stout", "begin", "(I)V"⟩ yX9_begin ∈ zj_T := zj_mem (i := 898) (by decide +kernel) rfl
theorem zq_899 : Cond.methodLink RX7 23 yX9_looks ∈ zj_T := zj_mem (i := 899) (by decide +kernel) rfl
theorem zq_900 : Cond.selects RX6 yX9_looks yX9_looks ∈ zj_T := zj_mem (i := 900) (by decide +kernel) rfl
theorem zq_901 : Cond.selects RX7 yX9_looks yX7_looks ∈ zj_T := zj_mem (i := 901) (by decide +kernel) rfl
theorem zq_902 : Cond.selects RX8 yX9_looks yX8_looks ∈ zj_T := zj_mem (i := 902) (by decide +kernel) rfl
theorem zq_903 : Cond.instanceMethod yX8_looks ∈ zj_T := zj_mem (i := 903) (by decide +kernel) rfl
theorem zq_904 : Cond.code yX8_looks cX8_looks 4 (some .int) ∈ zj_T := zj_mem (i := 904) (by decide +kernel) rfl
theorem zq_905 : Cond.methodLink RX8 21 ⟨"RoadForMood$Told", "begin", "(I)V"⟩ ∈ zj_T := zj_mem (i := 905) (by decide +kernel) rfl
theorem zq_906 : Cond.sameMethod "RoadForMood$Told" "RoadForMood$Walker" "begin" "(I)V" ∈ zj_T := zj_mem (i := 906) (by decide +kernel) rfl
theorem zq_907 : Cond.selects RX8 ⟨"RoadForMood$Told", "begin", "(I)V"⟩ yX9_begin ∈ zj_T := zj_mem (i := 907) (by decide +kernel) rfl
theorem zq_908 : Cond.methodLink RX8 27 ⟨"RoadForMood$Drunk", "looks", "(III)I"⟩ ∈ zj_T := zj_mem (i := 908) (by decide +kernel) rfl
theorem zq_909 : Cond.sameMethod "RoadForMood$Drunk" "RoadForMood$Walker" "looks" "(III)I" ∈ zj_T := zj_mem (i := 909) (by decide +kernel) rfl
theorem zq_911 : Cond.code yX9_looks cX9_looks 4 (some .int) ∈ zj_T := zj_mem (i := 911) (by decide +kernel) rfl
theorem zq_912 : Cond.methodLink RX9 17 yX9_strolls ∈ zj_T := zj_mem (i := 912) (by decide +kernel) rfl
theorem zq_913 : Cond.methodLink RX11 259 yX9_tells ∈ zj_T := zj_mem (i := 913) (by decide +kernel) rfl
theorem zq_914 : Cond.instanceMethod yX9_tells ∈ zj_T := zj_mem (i := 914) (by decide +kernel) rfl
theorem zq_915 : Cond.selects RX9 yX9_tells yX9_tells ∈ zj_T := zj_mem (i := 915) (by decide +kernel) rfl
theorem zq_916 : Cond.sameMethod "RoadForMood$Walker" "RoadForMood$Walker" "tells" "(III)I" ∈ zj_T := zj_mem (i := 916) (by decide +kernel) rfl
theorem zq_917 : Cond.selects RX0 yX9_tells yX0_tells ∈ zj_T := zj_mem (i := 917) (by decide +kernel) rfl
theorem zq_918 : Cond.instanceMethod yX0_tells ∈ zj_T := zj_mem (i := 918) (by decide +kernel) rfl
theorem zq_919 : Cond.code yX0_tells cX0_tells 4 (some .int) ∈ zj_T := zj_mem (i := 919) (by decide +kernel) rfl
theorem zq_920 : Cond.methodLink RX0 17 ⟨"RoadForMood$Drunk", "begin", "(I)V"⟩ ∈ zj_T := zj_mem (i := 920) (by decide +kernel) rfl
theorem zq_921 : Cond.sameMethod "RoadForMood$Drunk" "RoadForMood$Walker" "begin" "(I)V" ∈ zj_T := zj_mem (i := 921) (by decide +kernel) rfl
theorem zq_922 : Cond.selects RX0 ⟨"RoadForMood$Drunk", "begin", "(I)V"⟩ yX9_begin ∈ zj_T := zj_mem (i := 922) (by decide +kernel) rfl
theorem zq_923 : Cond.selects RX8 ⟨"RoadForMood$Drunk", "begin", "(I)V"⟩ yX9_begin ∈ zj_T := zj_mem (i := 923) (by decide +kernel) rfl
theorem zq_924 : Cond.methodLink RX0 23 yX9_tells ∈ zj_T := zj_mem (i := 924) (by decide +kernel) rfl
theorem zq_925 : Cond.selects RX1 yX9_tells yX9_tells ∈ zj_T := zj_mem (i := 925) (by decide +kernel) rfl
theorem zq_926 : Cond.selects RX3 yX9_tells yX9_tells ∈ zj_T := zj_mem (i := 926) (by decide +kernel) rfl
theorem zq_927 : Cond.selects RX6 yX9_tells yX6_tells ∈ zj_T := zj_mem (i := 927) (by decide +kernel) rfl
theorem zq_928 : Cond.instanceMethod yX6_tells ∈ zj_T := zj_mem (i := 928) (by decide +kernel) rfl
theorem zq_929 : Cond.code yX6_tells cX6_tells 4 (some .int) ∈ zj_T := zj_mem (i := 929) (by decide +kernel) rfl
theorem zq_930 : Cond.methodLink RX6 21 ⟨"RoadForMood$Shy", "begin", "(I)V"⟩ ∈ zj_T := zj_mem (i := 930) (by decide +kernel) rfl
theorem zq_931 : Cond.sameMethod "RoadForMood$Shy" "RoadForMood$Walker" "begin" "(I)V" ∈ zj_T := zj_mem (i := 931) (by decide +kernel) rfl
theorem zq_932 : Cond.selects RX6 ⟨"RoadForMood$Shy", "begin", "(I)V"⟩ yX9_begin ∈ zj_T := zj_mem (i := 932) (by decide +kernel) rfl
theorem zq_933 : Cond.methodLink RX6 27 ⟨"RoadForMood$Lover", "tells", "(III)I"⟩ ∈ zj_T := zj_mem (i := 933) (by decide +kernel) rfl
theorem zq_934 : Cond.sameMethod "RoadForMood$Lover" "RoadForMood$Walker" "tells" "(III)I" ∈ zj_T := zj_mem (i := 934) (by decide +kernel) rfl
theorem zq_936 : Cond.methodLink RX6 31 ⟨"RoadForMood$Shy", "strolls", "(III)I"⟩ ∈ zj_T := zj_mem (i := 936) (by decide +kernel) rfl
theorem zq_937 : Cond.sameMethod "RoadForMood$Shy" "RoadForMood$Lover" "strolls" "(III)I" ∈ zj_T := zj_mem (i := 937) (by decide +kernel) rfl
theorem zq_939 : Cond.selects RX6 ⟨"RoadForMood$Shy", "strolls", "(III)I"⟩ yX1_strolls ∈ zj_T := zj_mem (i := 939) (by decide +kernel) rfl
theorem zq_940 : Cond.selects RX7 yX9_tells yX9_tells ∈ zj_T := zj_mem (i := 940) (by decide +kernel) rfl
theorem zq_941 : Cond.selects RX8 yX9_tells yX0_tells ∈ zj_T := zj_mem (i := 941) (by decide +kernel) rfl
theorem zq_942 : Cond.code yX9_tells cX9_tells 4 (some .int) ∈ zj_T := zj_mem (i := 942) (by decide +kernel) rfl
theorem zq_943 : Cond.methodLink RX9 21 yX9_looks ∈ zj_T := zj_mem (i := 943) (by decide +kernel) rfl
theorem zq_956 : Cond.methodLink RX11 262 yX10_copyFrom ∈ zj_T := zj_mem (i := 956) (by decide +kernel) rfl
theorem zq_957 : Cond.instanceMethod yX10_copyFrom ∈ zj_T := zj_mem (i := 957) (by decide +kernel) rfl
theorem zq_958 : Cond.selects RX10 yX10_copyFrom yX10_copyFrom ∈ zj_T := zj_mem (i := 958) (by decide +kernel) rfl
theorem zq_959 : Cond.code yX10_copyFrom cX10_copyFrom 2 none ∈ zj_T := zj_mem (i := 959) (by decide +kernel) rfl
theorem zq_960 : Cond.methodLink RX10 44 yX2_copyFrom ∈ zj_T := zj_mem (i := 960) (by decide +kernel) rfl
theorem zq_961 : Cond.methodLink RX10 48 yX4_copyFrom ∈ zj_T := zj_mem (i := 961) (by decide +kernel) rfl
theorem zq_962 : Cond.methodLink RX10 51 yX5_copyFrom ∈ zj_T := zj_mem (i := 962) (by decide +kernel) rfl
theorem zq_963 : Cond.instanceMethod yX5_copyFrom ∈ zj_T := zj_mem (i := 963) (by decide +kernel) rfl
theorem zq_964 : Cond.selects RX5 yX5_copyFrom yX5_copyFrom ∈ zj_T := zj_mem (i := 964) (by decide +kernel) rfl
theorem zq_965 : Cond.code yX5_copyFrom cX5_copyFrom 2 none ∈ zj_T := zj_mem (i := 965) (by decide +kernel) rfl
theorem zq_966 : Cond.methodLink RX5 23 yX5_copy ∈ zj_T := zj_mem (i := 966) (by decide +kernel) rfl
theorem zq_981 : Cond.fieldLink RX12 9 "RoadForMoodModel" "s" "[I" ∈ zj_T := zj_mem (i := 981) (by decide +kernel) rfl
theorem zq_982 : Cond.fieldLink RX12 15 "RoadForMoodModel" "image" "[I" ∈ zj_T := zj_mem (i := 982) (by decide +kernel) rfl
theorem zq_983 : Cond.fieldLink RX12 18 "RoadForMoodModel" "frame" "[I" ∈ zj_T := zj_mem (i := 983) (by decide +kernel) rfl
theorem zq_984 : Cond.fieldLink RX12 264 "RoadForMoodModel" "hasImage" "Z" ∈ zj_T := zj_mem (i := 984) (by decide +kernel) rfl
theorem zq_985 : Cond.fieldLink RX12 78 "RoadForMoodModel" "act" "I" ∈ zj_T := zj_mem (i := 985) (by decide +kernel) rfl
theorem zq_986 : Cond.fieldLink RX12 51 "RoadForMoodModel" "spot" "I" ∈ zj_T := zj_mem (i := 986) (by decide +kernel) rfl
theorem zq_987 : Cond.fieldLink RX12 54 "RoadForMoodModel" "end" "I" ∈ zj_T := zj_mem (i := 987) (by decide +kernel) rfl
theorem zq_988 : Cond.fieldLink RX12 57 "RoadForMoodModel" "isWrong" "Z" ∈ zj_T := zj_mem (i := 988) (by decide +kernel) rfl
theorem zq_989 : Cond.fieldLink RX12 81 "RoadForMoodModel" "open" "I" ∈ zj_T := zj_mem (i := 989) (by decide +kernel) rfl
theorem zq_990 : Cond.fieldLink RX12 21 "RoadForMoodModel" "by" "[I" ∈ zj_T := zj_mem (i := 990) (by decide +kernel) rfl
theorem zq_991 : Cond.fieldLink RX12 24 "RoadForMoodModel" "truths" "[Z" ∈ zj_T := zj_mem (i := 991) (by decide +kernel) rfl
theorem zq_992 : Cond.fieldLink RX12 28 "RoadForMoodModel" "sums" "[I" ∈ zj_T := zj_mem (i := 992) (by decide +kernel) rfl
theorem zq_993 : Cond.fieldLink RX12 31 "RoadForMoodModel" "known" "[Z" ∈ zj_T := zj_mem (i := 993) (by decide +kernel) rfl
theorem zq_994 : Cond.fieldLink RX12 127 "RoadForMoodModel" "isKeeping" "Z" ∈ zj_T := zj_mem (i := 994) (by decide +kernel) rfl
theorem zq_995 : Cond.fieldLink RX12 34 "RoadForMoodModel" "cells" "[I" ∈ zj_T := zj_mem (i := 995) (by decide +kernel) rfl
theorem zq_996 : Cond.fieldLink RX12 37 "RoadForMoodModel" "moods" "[I" ∈ zj_T := zj_mem (i := 996) (by decide +kernel) rfl
theorem zq_997 : Cond.fieldLink RX12 40 "RoadForMoodModel" "bodies" "[I" ∈ zj_T := zj_mem (i := 997) (by decide +kernel) rfl
theorem zq_998 : Cond.fieldLink RX12 228 "RoadForMoodModel" "ran" "I" ∈ zj_T := zj_mem (i := 998) (by decide +kernel) rfl
theorem zq_999 : Cond.fieldLink RX12 237 "RoadForMoodModel" "kind" "I" ∈ zj_T := zj_mem (i := 999) (by decide +kernel) rfl
theorem zq_1000 : Cond.fieldLink RX12 234 "RoadForMoodModel" "number" "I" ∈ zj_T := zj_mem (i := 1000) (by decide +kernel) rfl
theorem zq_1001 : Cond.fieldLink RX12 249 "RoadForMoodModel" "tellsV" "I" ∈ zj_T := zj_mem (i := 1001) (by decide +kernel) rfl
theorem zq_1052 : Cond.methodLink RX12 47 yX12_in ∈ zj_T := zj_mem (i := 1052) (by decide +kernel) rfl
theorem zq_1053 : Cond.static yX12_in ∈ zj_T := zj_mem (i := 1053) (by decide +kernel) rfl
theorem zq_1054 : Cond.code yX12_in cX12_in 3 (some .boolean) ∈ zj_T := zj_mem (i := 1054) (by decide +kernel) rfl
theorem zq_1059 : Cond.methodLink RX12 124 yX12_clauseHere ∈ zj_T := zj_mem (i := 1059) (by decide +kernel) rfl
theorem zq_1061 : Cond.instanceMethod yX12_clauseHere ∈ zj_T := zj_mem (i := 1061) (by decide +kernel) rfl
theorem zq_1062 : Cond.code yX12_clauseHere cX12_clauseHere 1 none ∈ zj_T := zj_mem (i := 1062) (by decide +kernel) rfl
theorem zq_1063 : Cond.methodLink RX12 61 yX12_here ∈ zj_T := zj_mem (i := 1063) (by decide +kernel) rfl
theorem zq_1065 : Cond.instanceMethod yX12_here ∈ zj_T := zj_mem (i := 1065) (by decide +kernel) rfl
theorem zq_1066 : Cond.code yX12_here cX12_here 1 (some .int) ∈ zj_T := zj_mem (i := 1066) (by decide +kernel) rfl
theorem zq_1068 : Cond.methodLink RX12 113 yX12_tellsHere ∈ zj_T := zj_mem (i := 1068) (by decide +kernel) rfl
theorem zq_1070 : Cond.instanceMethod yX12_tellsHere ∈ zj_T := zj_mem (i := 1070) (by decide +kernel) rfl
theorem zq_1071 : Cond.code yX12_tellsHere cX12_tellsHere 4 none ∈ zj_T := zj_mem (i := 1071) (by decide +kernel) rfl
theorem zq_1072 : Cond.methodLink RX12 107 yX12_spells ∈ zj_T := zj_mem (i := 1072) (by decide +kernel) rfl
theorem zq_1074 : Cond.instanceMethod yX12_spells ∈ zj_T := zj_mem (i := 1074) (by decide +kernel) rfl
theorem zq_1075 : Cond.code yX12_spells cX12_spells 3 none ∈ zj_T := zj_mem (i := 1075) (by decide +kernel) rfl
theorem zq_1076 : Cond.methodLink RX12 65 yJ0_length_8abf5 ∈ zj_T := zj_mem (i := 1076) (by decide +kernel) rfl
theorem zq_1077 : Cond.methodLink RX12 70 yJ0_charAt_5068e ∈ zj_T := zj_mem (i := 1077) (by decide +kernel) rfl
theorem zq_1078 : Cond.methodLink RX12 74 yX12_must ∈ zj_T := zj_mem (i := 1078) (by decide +kernel) rfl
theorem zq_1080 : Cond.instanceMethod yX12_must ∈ zj_T := zj_mem (i := 1080) (by decide +kernel) rfl
theorem zq_1081 : Cond.code yX12_must cX12_must 2 none ∈ zj_T := zj_mem (i := 1081) (by decide +kernel) rfl
theorem zq_1082 : Cond.methodLink RX12 101 yX12_figures ∈ zj_T := zj_mem (i := 1082) (by decide +kernel) rfl
theorem zq_1084 : Cond.instanceMethod yX12_figures ∈ zj_T := zj_mem (i := 1084) (by decide +kernel) rfl
theorem zq_1085 : Cond.code yX12_figures cX12_figures 3 (some .int) ∈ zj_T := zj_mem (i := 1085) (by decide +kernel) rfl
theorem zq_1087 : Cond.methodLink RX12 119 yX12_much ∈ zj_T := zj_mem (i := 1087) (by decide +kernel) rfl
theorem zq_1089 : Cond.instanceMethod yX12_much ∈ zj_T := zj_mem (i := 1089) (by decide +kernel) rfl
theorem zq_1090 : Cond.code yX12_much cX12_much 4 none ∈ zj_T := zj_mem (i := 1090) (by decide +kernel) rfl
theorem zq_1091 : Cond.methodLink RX12 90 yX12_some ∈ zj_T := zj_mem (i := 1091) (by decide +kernel) rfl
theorem zq_1093 : Cond.instanceMethod yX12_some ∈ zj_T := zj_mem (i := 1093) (by decide +kernel) rfl
theorem zq_1094 : Cond.code yX12_some cX12_some 1 none ∈ zj_T := zj_mem (i := 1094) (by decide +kernel) rfl
theorem zq_1095 : Cond.methodLink RX12 104 yX12_every ∈ zj_T := zj_mem (i := 1095) (by decide +kernel) rfl
theorem zq_1097 : Cond.instanceMethod yX12_every ∈ zj_T := zj_mem (i := 1097) (by decide +kernel) rfl
theorem zq_1098 : Cond.code yX12_every cX12_every 1 none ∈ zj_T := zj_mem (i := 1098) (by decide +kernel) rfl
theorem zq_1099 : Cond.methodLink RX12 84 yX12_factor ∈ zj_T := zj_mem (i := 1099) (by decide +kernel) rfl
theorem zq_1101 : Cond.instanceMethod yX12_factor ∈ zj_T := zj_mem (i := 1101) (by decide +kernel) rfl
theorem zq_1102 : Cond.code yX12_factor cX12_factor 5 none ∈ zj_T := zj_mem (i := 1102) (by decide +kernel) rfl
theorem zq_1103 : Cond.methodLink RX12 87 yX12_emits ∈ zj_T := zj_mem (i := 1103) (by decide +kernel) rfl
theorem zq_1105 : Cond.instanceMethod yX12_emits ∈ zj_T := zj_mem (i := 1105) (by decide +kernel) rfl
theorem zq_1106 : Cond.code yX12_emits cX12_emits 2 none ∈ zj_T := zj_mem (i := 1106) (by decide +kernel) rfl
theorem zq_1108 : Cond.methodLink RX12 95 yX12_among ∈ zj_T := zj_mem (i := 1108) (by decide +kernel) rfl
theorem zq_1110 : Cond.instanceMethod yX12_among ∈ zj_T := zj_mem (i := 1110) (by decide +kernel) rfl
theorem zq_1111 : Cond.code yX12_among cX12_among 3 (some .int) ∈ zj_T := zj_mem (i := 1111) (by decide +kernel) rfl
theorem zq_1118 : Cond.methodLink RX12 156 yX12_isMood ∈ zj_T := zj_mem (i := 1118) (by decide +kernel) rfl
theorem zq_1119 : Cond.static yX12_isMood ∈ zj_T := zj_mem (i := 1119) (by decide +kernel) rfl
theorem zq_1120 : Cond.code yX12_isMood cX12_isMood 1 (some .boolean) ∈ zj_T := zj_mem (i := 1120) (by decide +kernel) rfl
theorem zq_1121 : Cond.constant RX12 159 (65535) ∈ zj_T := zj_mem (i := 1121) (by decide +kernel) rfl
theorem zq_1122 : Cond.methodLink RX12 160 yX12_becomes ∈ zj_T := zj_mem (i := 1122) (by decide +kernel) rfl
theorem zq_1124 : Cond.instanceMethod yX12_becomes ∈ zj_T := zj_mem (i := 1124) (by decide +kernel) rfl
theorem zq_1125 : Cond.code yX12_becomes cX12_becomes 4 (some .int) ∈ zj_T := zj_mem (i := 1125) (by decide +kernel) rfl
theorem zq_1134 : Cond.methodLink RX12 163 yX12_isCell ∈ zj_T := zj_mem (i := 1134) (by decide +kernel) rfl
theorem zq_1135 : Cond.static yX12_isCell ∈ zj_T := zj_mem (i := 1135) (by decide +kernel) rfl
theorem zq_1136 : Cond.code yX12_isCell cX12_isCell 1 (some .boolean) ∈ zj_T := zj_mem (i := 1136) (by decide +kernel) rfl
theorem zq_1141 : Cond.methodLink RX12 166 yX12_isWalker ∈ zj_T := zj_mem (i := 1141) (by decide +kernel) rfl
theorem zq_1143 : Cond.instanceMethod yX12_isWalker ∈ zj_T := zj_mem (i := 1143) (by decide +kernel) rfl
theorem zq_1144 : Cond.code yX12_isWalker cX12_isWalker 2 (some .boolean) ∈ zj_T := zj_mem (i := 1144) (by decide +kernel) rfl
theorem zq_1145 : Cond.constant RX12 169 (-999999) ∈ zj_T := zj_mem (i := 1145) (by decide +kernel) rfl
theorem zq_1146 : Cond.methodLink RX12 149 yX12_isStray ∈ zj_T := zj_mem (i := 1146) (by decide +kernel) rfl
theorem zq_1148 : Cond.instanceMethod yX12_isStray ∈ zj_T := zj_mem (i := 1148) (by decide +kernel) rfl
theorem zq_1149 : Cond.code yX12_isStray cX12_isStray 2 (some .boolean) ∈ zj_T := zj_mem (i := 1149) (by decide +kernel) rfl
theorem zq_1150 : Cond.methodLink RX12 138 yX12_isOn ∈ zj_T := zj_mem (i := 1150) (by decide +kernel) rfl
theorem zq_1152 : Cond.instanceMethod yX12_isOn ∈ zj_T := zj_mem (i := 1152) (by decide +kernel) rfl
theorem zq_1153 : Cond.code yX12_isOn cX12_isOn 3 (some .boolean) ∈ zj_T := zj_mem (i := 1153) (by decide +kernel) rfl
theorem zq_1154 : Cond.methodLink RX12 145 yX12_hasCompany ∈ zj_T := zj_mem (i := 1154) (by decide +kernel) rfl
theorem zq_1156 : Cond.instanceMethod yX12_hasCompany ∈ zj_T := zj_mem (i := 1156) (by decide +kernel) rfl
theorem zq_1157 : Cond.code yX12_hasCompany cX12_hasCompany 4 (some .boolean) ∈ zj_T := zj_mem (i := 1157) (by decide +kernel) rfl
theorem zq_1158 : Cond.methodLink RX12 170 yX12_swayOf ∈ zj_T := zj_mem (i := 1158) (by decide +kernel) rfl
theorem zq_1160 : Cond.instanceMethod yX12_swayOf ∈ zj_T := zj_mem (i := 1160) (by decide +kernel) rfl
theorem zq_1161 : Cond.code yX12_swayOf cX12_swayOf 3 (some .int) ∈ zj_T := zj_mem (i := 1161) (by decide +kernel) rfl
theorem zq_1162 : Cond.methodLink RX12 142 yX12_sumOf ∈ zj_T := zj_mem (i := 1162) (by decide +kernel) rfl
theorem zq_1164 : Cond.instanceMethod yX12_sumOf ∈ zj_T := zj_mem (i := 1164) (by decide +kernel) rfl
theorem zq_1165 : Cond.code yX12_sumOf cX12_sumOf 3 (some .int) ∈ zj_T := zj_mem (i := 1165) (by decide +kernel) rfl
theorem zq_1166 : Cond.methodLink RX12 130 yX12_sumRead ∈ zj_T := zj_mem (i := 1166) (by decide +kernel) rfl
theorem zq_1168 : Cond.instanceMethod yX12_sumRead ∈ zj_T := zj_mem (i := 1168) (by decide +kernel) rfl
theorem zq_1169 : Cond.code yX12_sumRead cX12_sumRead 11 (some .int) ∈ zj_T := zj_mem (i := 1169) (by decide +kernel) rfl
theorem zq_1170 : Cond.methodLink RX12 134 yX12_tellsOf ∈ zj_T := zj_mem (i := 1170) (by decide +kernel) rfl
theorem zq_1172 : Cond.instanceMethod yX12_tellsOf ∈ zj_T := zj_mem (i := 1172) (by decide +kernel) rfl
theorem zq_1173 : Cond.code yX12_tellsOf cX12_tellsOf 3 (some .int) ∈ zj_T := zj_mem (i := 1173) (by decide +kernel) rfl
theorem zq_1174 : Cond.methodLink RX12 173 yX12_paceOf ∈ zj_T := zj_mem (i := 1174) (by decide +kernel) rfl
theorem zq_1176 : Cond.instanceMethod yX12_paceOf ∈ zj_T := zj_mem (i := 1176) (by decide +kernel) rfl
theorem zq_1177 : Cond.code yX12_paceOf cX12_paceOf 3 (some .int) ∈ zj_T := zj_mem (i := 1177) (by decide +kernel) rfl
theorem zq_1178 : Cond.methodLink RX12 152 yX12_rains ∈ zj_T := zj_mem (i := 1178) (by decide +kernel) rfl
theorem zq_1180 : Cond.instanceMethod yX12_rains ∈ zj_T := zj_mem (i := 1180) (by decide +kernel) rfl
theorem zq_1181 : Cond.code yX12_rains cX12_rains 2 (some .boolean) ∈ zj_T := zj_mem (i := 1181) (by decide +kernel) rfl
theorem zq_1198 : Cond.methodLink RX12 176 yX12_manyStray ∈ zj_T := zj_mem (i := 1198) (by decide +kernel) rfl
theorem zq_1200 : Cond.instanceMethod yX12_manyStray ∈ zj_T := zj_mem (i := 1200) (by decide +kernel) rfl
theorem zq_1201 : Cond.code yX12_manyStray cX12_manyStray 3 (some .int) ∈ zj_T := zj_mem (i := 1201) (by decide +kernel) rfl
theorem zq_1202 : Cond.methodLink RX12 179 yX12_allMoved ∈ zj_T := zj_mem (i := 1202) (by decide +kernel) rfl
theorem zq_1204 : Cond.instanceMethod yX12_allMoved ∈ zj_T := zj_mem (i := 1204) (by decide +kernel) rfl
theorem zq_1205 : Cond.code yX12_allMoved cX12_allMoved 3 (some .int) ∈ zj_T := zj_mem (i := 1205) (by decide +kernel) rfl
theorem zq_1206 : Cond.methodLink RX12 182 yX12_trouble ∈ zj_T := zj_mem (i := 1206) (by decide +kernel) rfl
theorem zq_1208 : Cond.instanceMethod yX12_trouble ∈ zj_T := zj_mem (i := 1208) (by decide +kernel) rfl
theorem zq_1209 : Cond.code yX12_trouble cX12_trouble 1 (some .int) ∈ zj_T := zj_mem (i := 1209) (by decide +kernel) rfl
theorem zq_1210 : Cond.methodLink RX12 198 yX12_keeps ∈ zj_T := zj_mem (i := 1210) (by decide +kernel) rfl
theorem zq_1212 : Cond.instanceMethod yX12_keeps ∈ zj_T := zj_mem (i := 1212) (by decide +kernel) rfl
theorem zq_1213 : Cond.code yX12_keeps cX12_keeps 2 none ∈ zj_T := zj_mem (i := 1213) (by decide +kernel) rfl
theorem zq_1214 : Cond.methodLink RX12 204 yX12_troubleOn ∈ zj_T := zj_mem (i := 1214) (by decide +kernel) rfl
theorem zq_1216 : Cond.instanceMethod yX12_troubleOn ∈ zj_T := zj_mem (i := 1216) (by decide +kernel) rfl
theorem zq_1217 : Cond.code yX12_troubleOn cX12_troubleOn 3 (some .int) ∈ zj_T := zj_mem (i := 1217) (by decide +kernel) rfl
theorem zq_1218 : Cond.methodLink RX12 192 yX12_goes ∈ zj_T := zj_mem (i := 1218) (by decide +kernel) rfl
theorem zq_1220 : Cond.instanceMethod yX12_goes ∈ zj_T := zj_mem (i := 1220) (by decide +kernel) rfl
theorem zq_1221 : Cond.code yX12_goes cX12_goes 3 none ∈ zj_T := zj_mem (i := 1221) (by decide +kernel) rfl
theorem zq_1222 : Cond.methodLink RX12 189 yX12_leastMood ∈ zj_T := zj_mem (i := 1222) (by decide +kernel) rfl
theorem zq_1224 : Cond.instanceMethod yX12_leastMood ∈ zj_T := zj_mem (i := 1224) (by decide +kernel) rfl
theorem zq_1225 : Cond.code yX12_leastMood cX12_leastMood 4 (some .int) ∈ zj_T := zj_mem (i := 1225) (by decide +kernel) rfl
theorem zq_1226 : Cond.methodLink RX12 201 yX12_goesBack ∈ zj_T := zj_mem (i := 1226) (by decide +kernel) rfl
theorem zq_1228 : Cond.instanceMethod yX12_goesBack ∈ zj_T := zj_mem (i := 1228) (by decide +kernel) rfl
theorem zq_1229 : Cond.code yX12_goesBack cX12_goesBack 2 none ∈ zj_T := zj_mem (i := 1229) (by decide +kernel) rfl
theorem zq_1230 : Cond.methodLink RX12 185 yX12_figure ∈ zj_T := zj_mem (i := 1230) (by decide +kernel) rfl
theorem zq_1232 : Cond.instanceMethod yX12_figure ∈ zj_T := zj_mem (i := 1232) (by decide +kernel) rfl
theorem zq_1233 : Cond.code yX12_figure cX12_figure 6 (some .int) ∈ zj_T := zj_mem (i := 1233) (by decide +kernel) rfl
theorem zq_1238 : Cond.methodLink RX12 195 yX12_goesOn ∈ zj_T := zj_mem (i := 1238) (by decide +kernel) rfl
theorem zq_1240 : Cond.instanceMethod yX12_goesOn ∈ zj_T := zj_mem (i := 1240) (by decide +kernel) rfl
theorem zq_1241 : Cond.code yX12_goesOn cX12_goesOn 3 none ∈ zj_T := zj_mem (i := 1241) (by decide +kernel) rfl
theorem zq_1270 : Cond.methodLink RX12 213 yX12_fitting ∈ zj_T := zj_mem (i := 1270) (by decide +kernel) rfl
theorem zq_1272 : Cond.instanceMethod yX12_fitting ∈ zj_T := zj_mem (i := 1272) (by decide +kernel) rfl
theorem zq_1273 : Cond.code yX12_fitting cX12_fitting 5 (some .int) ∈ zj_T := zj_mem (i := 1273) (by decide +kernel) rfl
theorem zq_1274 : Cond.methodLink RX12 210 yX12_areAsSeen ∈ zj_T := zj_mem (i := 1274) (by decide +kernel) rfl
theorem zq_1276 : Cond.instanceMethod yX12_areAsSeen ∈ zj_T := zj_mem (i := 1276) (by decide +kernel) rfl
theorem zq_1277 : Cond.code yX12_areAsSeen cX12_areAsSeen 3 (some .boolean) ∈ zj_T := zj_mem (i := 1277) (by decide +kernel) rfl
theorem zq_1278 : Cond.methodLink RX12 207 yX12_isAsSeen ∈ zj_T := zj_mem (i := 1278) (by decide +kernel) rfl
theorem zq_1280 : Cond.instanceMethod yX12_isAsSeen ∈ zj_T := zj_mem (i := 1280) (by decide +kernel) rfl
theorem zq_1281 : Cond.code yX12_isAsSeen cX12_isAsSeen 4 (some .boolean) ∈ zj_T := zj_mem (i := 1281) (by decide +kernel) rfl
theorem zq_1294 : Cond.constantLong RX12 216 (-9223372036854775808) ∈ zj_T := zj_mem (i := 1294) (by decide +kernel) rfl
theorem zq_1295 : Cond.constantLong RX12 218 (4) ∈ zj_T := zj_mem (i := 1295) (by decide +kernel) rfl
theorem zq_1296 : Cond.methodLink RX12 220 yX12_lowest ∈ zj_T := zj_mem (i := 1296) (by decide +kernel) rfl
theorem zq_1297 : Cond.static yX12_lowest ∈ zj_T := zj_mem (i := 1297) (by decide +kernel) rfl
theorem zq_1298 : Cond.code yX12_lowest cX12_lowest 11 (some .long) ∈ zj_T := zj_mem (i := 1298) (by decide +kernel) rfl
theorem zq_1311 : Cond.methodLink RX12 224 yX12_goesBy ∈ zj_T := zj_mem (i := 1311) (by decide +kernel) rfl
theorem zq_1313 : Cond.instanceMethod yX12_goesBy ∈ zj_T := zj_mem (i := 1313) (by decide +kernel) rfl
theorem zq_1314 : Cond.code yX12_goesBy cX12_goesBy 3 none ∈ zj_T := zj_mem (i := 1314) (by decide +kernel) rfl
theorem zq_1327 : Cond.methodLink RX12 246 yX12_strollsActs ∈ zj_T := zj_mem (i := 1327) (by decide +kernel) rfl
theorem zq_1329 : Cond.instanceMethod yX12_strollsActs ∈ zj_T := zj_mem (i := 1329) (by decide +kernel) rfl
theorem zq_1330 : Cond.code yX12_strollsActs cX12_strollsActs 2 (some .int) ∈ zj_T := zj_mem (i := 1330) (by decide +kernel) rfl
theorem zq_1331 : Cond.methodLink RX12 240 yX12_isUnder ∈ zj_T := zj_mem (i := 1331) (by decide +kernel) rfl
theorem zq_1332 : Cond.static yX12_isUnder ∈ zj_T := zj_mem (i := 1332) (by decide +kernel) rfl
theorem zq_1333 : Cond.code yX12_isUnder cX12_isUnder 2 (some .boolean) ∈ zj_T := zj_mem (i := 1333) (by decide +kernel) rfl
theorem zq_1334 : Cond.methodLink RX12 231 yX12_ranBody ∈ zj_T := zj_mem (i := 1334) (by decide +kernel) rfl
theorem zq_1336 : Cond.instanceMethod yX12_ranBody ∈ zj_T := zj_mem (i := 1336) (by decide +kernel) rfl
theorem zq_1337 : Cond.code yX12_ranBody cX12_ranBody 2 none ∈ zj_T := zj_mem (i := 1337) (by decide +kernel) rfl
theorem zq_1338 : Cond.methodLink RX12 243 yX12_plainStrolls ∈ zj_T := zj_mem (i := 1338) (by decide +kernel) rfl
theorem zq_1340 : Cond.instanceMethod yX12_plainStrolls ∈ zj_T := zj_mem (i := 1340) (by decide +kernel) rfl
theorem zq_1341 : Cond.code yX12_plainStrolls cX12_plainStrolls 2 (some .int) ∈ zj_T := zj_mem (i := 1341) (by decide +kernel) rfl
theorem zq_1342 : Cond.methodLink RX12 255 yX12_looksActs ∈ zj_T := zj_mem (i := 1342) (by decide +kernel) rfl
theorem zq_1344 : Cond.instanceMethod yX12_looksActs ∈ zj_T := zj_mem (i := 1344) (by decide +kernel) rfl
theorem zq_1345 : Cond.code yX12_looksActs cX12_looksActs 2 (some .int) ∈ zj_T := zj_mem (i := 1345) (by decide +kernel) rfl
theorem zq_1346 : Cond.methodLink RX12 252 yX12_plainLooks ∈ zj_T := zj_mem (i := 1346) (by decide +kernel) rfl
theorem zq_1348 : Cond.instanceMethod yX12_plainLooks ∈ zj_T := zj_mem (i := 1348) (by decide +kernel) rfl
theorem zq_1349 : Cond.code yX12_plainLooks cX12_plainLooks 2 (some .int) ∈ zj_T := zj_mem (i := 1349) (by decide +kernel) rfl
theorem zq_1350 : Cond.methodLink RX12 261 yX12_tellsActs ∈ zj_T := zj_mem (i := 1350) (by decide +kernel) rfl
theorem zq_1352 : Cond.instanceMethod yX12_tellsActs ∈ zj_T := zj_mem (i := 1352) (by decide +kernel) rfl
theorem zq_1353 : Cond.code yX12_tellsActs cX12_tellsActs 3 (some .int) ∈ zj_T := zj_mem (i := 1353) (by decide +kernel) rfl
theorem zq_1354 : Cond.methodLink RX12 258 yX12_plainTelling ∈ zj_T := zj_mem (i := 1354) (by decide +kernel) rfl
theorem zq_1356 : Cond.instanceMethod yX12_plainTelling ∈ zj_T := zj_mem (i := 1356) (by decide +kernel) rfl
theorem zq_1357 : Cond.code yX12_plainTelling cX12_plainTelling 2 (some .int) ∈ zj_T := zj_mem (i := 1357) (by decide +kernel) rfl
theorem zq_1378 : Cond.sameMethod "RoadForMood$Stout" "RoadForMood$Stout" "sway" "(LRoadForMood$Ring;II)I" ∈ zj_T := zj_mem (i := 1378) (by decide +kernel) rfl
theorem zq_1379 : Cond.sameMethod "RoadForMood$Lover" "RoadForMood$Lover" "sway" "(LRoadForMood$Ring;II)I" ∈ zj_T := zj_mem (i := 1379) (by decide +kernel) rfl
theorem zq_1380 : Cond.sameMethod "RoadForMood$Drunk" "RoadForMood$Drunk" "sway" "(LRoadForMood$Ring;II)I" ∈ zj_T := zj_mem (i := 1380) (by decide +kernel) rfl
theorem zq_1381 : Cond.sameMethod "RoadForMood$Stout" "RoadForMood$Stout" "pace" "(LRoadForMood$Ring;I)I" ∈ zj_T := zj_mem (i := 1381) (by decide +kernel) rfl
theorem zq_1382 : Cond.sameMethod "RoadForMood$Walker" "RoadForMood$Walker" "begin" "(I)V" ∈ zj_T := zj_mem (i := 1382) (by decide +kernel) rfl
theorem zq_1383 : Cond.selects RX0 yX9_begin yX9_begin ∈ zj_T := zj_mem (i := 1383) (by decide +kernel) rfl
theorem zq_1384 : Cond.selects RX1 yX9_begin yX9_begin ∈ zj_T := zj_mem (i := 1384) (by decide +kernel) rfl
theorem zq_1385 : Cond.selects RX3 yX9_begin yX9_begin ∈ zj_T := zj_mem (i := 1385) (by decide +kernel) rfl
theorem zq_1386 : Cond.selects RX6 yX9_begin yX9_begin ∈ zj_T := zj_mem (i := 1386) (by decide +kernel) rfl
theorem zq_1387 : Cond.selects RX7 yX9_begin yX9_begin ∈ zj_T := zj_mem (i := 1387) (by decide +kernel) rfl
theorem zq_1388 : Cond.selects RX8 yX9_begin yX9_begin ∈ zj_T := zj_mem (i := 1388) (by decide +kernel) rfl
theorem zq_1389 : Cond.selects RX9 yX9_begin yX9_begin ∈ zj_T := zj_mem (i := 1389) (by decide +kernel) rfl
theorem zfl_X0_11_4 : zj_fld RX0 11 4 2 := ⟨RX4, TX4, 18, rfl, zw_4, by decide, zq_245⟩
theorem zfl_X10_16_10 : zj_fld RX10 16 10 2 := ⟨RX10, TX10, 7, rfl, zw_10, by decide, zq_313⟩
theorem zfl_X10_22_10 : zj_fld RX10 22 10 3 := ⟨RX10, TX10, 7, rfl, zw_10, by decide, zq_315⟩
theorem zfl_X10_25_10 : zj_fld RX10 25 10 4 := ⟨RX10, TX10, 7, rfl, zw_10, by decide, zq_317⟩
theorem zfl_X10_28_10 : zj_fld RX10 28 10 5 := ⟨RX10, TX10, 7, rfl, zw_10, by decide, zq_319⟩
theorem zfl_X10_31_10 : zj_fld RX10 31 10 0 := ⟨RX10, TX10, 7, rfl, zw_10, by decide, zq_309⟩
theorem zfl_X10_40_10 : zj_fld RX10 40 10 1 := ⟨RX10, TX10, 7, rfl, zw_10, by decide, zq_311⟩
theorem zfl_X10_54_10 : zj_fld RX10 54 10 6 := ⟨RX10, TX10, 7, rfl, zw_10, by decide, zq_321⟩
theorem zfl_X10_54_10w : zj_fldW RX10 54 10 6 .int := ⟨RX10, TX10, 7, tyX10, rfl, zw_10, by decide, zq_321, tyX10_ok, nmX10, rfl, by decide +kernel⟩
theorem zfl_X11_103_2 : zj_fld RX11 103 2 2 := ⟨RX2, TX2, 11, rfl, zw_2, by decide, zq_194⟩
theorem zfl_X11_106_11 : zj_fld RX11 106 11 7 := ⟨RX11, TX11, 8, rfl, zw_11, by decide, zq_348⟩
theorem zfl_X11_106_11w : zj_fldW RX11 106 11 7 .int := ⟨RX11, TX11, 8, tyX11, rfl, zw_11, by decide, zq_348, tyX11_ok, nmX11, rfl, by decide +kernel⟩
theorem zfl_X11_109_2w : zj_fldW RX11 109 2 1 .int := ⟨RX2, TX2, 11, tyX2, rfl, zw_2, by decide, zq_192, tyX2_ok, nmX2, rfl, by decide +kernel⟩
theorem zfl_X11_112_10 : zj_fld RX11 112 10 0 := ⟨RX10, TX10, 7, rfl, zw_10, by decide, zq_310⟩
theorem zfl_X11_124_10 : zj_fld RX11 124 10 1 := ⟨RX10, TX10, 7, rfl, zw_10, by decide, zq_312⟩
theorem zfl_X11_127_4 : zj_fld RX11 127 4 0 := ⟨RX4, TX4, 18, rfl, zw_4, by decide, zq_241⟩
theorem zfl_X11_131_4 : zj_fld RX11 131 4 9 := ⟨RX4, TX4, 18, rfl, zw_4, by decide, zq_263⟩
theorem zfl_X11_131_4w : zj_fldW RX11 131 4 9 .int := ⟨RX4, TX4, 18, tyX4, rfl, zw_4, by decide, zq_263, tyX4_ok, nmX4, rfl, by decide +kernel⟩
theorem zfl_X11_134_4 : zj_fld RX11 134 4 7 := ⟨RX4, TX4, 18, rfl, zw_4, by decide, zq_257⟩
theorem zfl_X11_148_4 : zj_fld RX11 148 4 1 := ⟨RX4, TX4, 18, rfl, zw_4, by decide, zq_243⟩
theorem zfl_X11_151_4 : zj_fld RX11 151 4 2 := ⟨RX4, TX4, 18, rfl, zw_4, by decide, zq_246⟩
theorem zfl_X11_154_4 : zj_fld RX11 154 4 3 := ⟨RX4, TX4, 18, rfl, zw_4, by decide, zq_248⟩
theorem zfl_X11_157_4 : zj_fld RX11 157 4 4 := ⟨RX4, TX4, 18, rfl, zw_4, by decide, zq_250⟩
theorem zfl_X11_167_4 : zj_fld RX11 167 4 5 := ⟨RX4, TX4, 18, rfl, zw_4, by decide, zq_252⟩
theorem zfl_X11_186_4 : zj_fld RX11 186 4 6 := ⟨RX4, TX4, 18, rfl, zw_4, by decide, zq_255⟩
theorem zfl_X11_193_4 : zj_fld RX11 193 4 8 := ⟨RX4, TX4, 18, rfl, zw_4, by decide, zq_261⟩
theorem zfl_X11_196_2 : zj_fld RX11 196 2 0 := ⟨RX2, TX2, 11, rfl, zw_2, by decide, zq_190⟩
theorem zfl_X11_228_10 : zj_fld RX11 228 10 3 := ⟨RX10, TX10, 7, rfl, zw_10, by decide, zq_316⟩
theorem zfl_X11_240_10 : zj_fld RX11 240 10 4 := ⟨RX10, TX10, 7, rfl, zw_10, by decide, zq_318⟩
theorem zfl_X11_243_5 : zj_fld RX11 243 5 1 := ⟨RX5, TX5, 4, rfl, zw_5, by decide, zq_106⟩
theorem zfl_X11_246_5 : zj_fld RX11 246 5 0 := ⟨RX5, TX5, 4, rfl, zw_5, by decide, zq_103⟩
theorem zfl_X11_249_10 : zj_fld RX11 249 10 5 := ⟨RX10, TX10, 7, rfl, zw_10, by decide, zq_320⟩
theorem zfl_X11_265_11 : zj_fld RX11 265 11 6 := ⟨RX11, TX11, 8, rfl, zw_11, by decide, zq_347⟩
theorem zfl_X11_265_11w : zj_fldW RX11 265 11 6 .boolean := ⟨RX11, TX11, 8, tyX11, rfl, zw_11, by decide, zq_347, tyX11_ok, nmX11, rfl, by decide +kernel⟩
theorem zfl_X11_44_11 : zj_fld RX11 44 11 0 := ⟨RX11, TX11, 8, rfl, zw_11, by decide, zq_341⟩
theorem zfl_X11_48_11 : zj_fld RX11 48 11 1 := ⟨RX11, TX11, 8, rfl, zw_11, by decide, zq_342⟩
theorem zfl_X11_52_11 : zj_fld RX11 52 11 2 := ⟨RX11, TX11, 8, rfl, zw_11, by decide, zq_343⟩
theorem zfl_X11_61_11 : zj_fld RX11 61 11 3 := ⟨RX11, TX11, 8, rfl, zw_11, by decide, zq_344⟩
theorem zfl_X11_65_11 : zj_fld RX11 65 11 4 := ⟨RX11, TX11, 8, rfl, zw_11, by decide, zq_345⟩
theorem zfl_X11_74_11 : zj_fld RX11 74 11 5 := ⟨RX11, TX11, 8, rfl, zw_11, by decide, zq_346⟩
theorem zfl_X11_78_10 : zj_fld RX11 78 10 2 := ⟨RX10, TX10, 7, rfl, zw_10, by decide, zq_314⟩
theorem zfl_X11_89_5 : zj_fld RX11 89 5 3 := ⟨RX5, TX5, 4, rfl, zw_5, by decide, zq_110⟩
theorem zfl_X11_93_10 : zj_fld RX11 93 10 6 := ⟨RX10, TX10, 7, rfl, zw_10, by decide, zq_322⟩
theorem zfl_X11_93_10w : zj_fldW RX11 93 10 6 .int := ⟨RX10, TX10, 7, tyX10, rfl, zw_10, by decide, zq_322, tyX10_ok, nmX10, rfl, by decide +kernel⟩
theorem zfl_X12_127_12 : zj_fld RX12 127 12 14 := ⟨RX12, TX12, 22, rfl, zw_12, by decide, zq_994⟩
theorem zfl_X12_127_12w : zj_fldW RX12 127 12 14 .boolean := ⟨RX12, TX12, 22, tyX12, rfl, zw_12, by decide, zq_994, tyX12_ok, nmX12, rfl, by decide +kernel⟩
theorem zfl_X12_15_12 : zj_fld RX12 15 12 2 := ⟨RX12, TX12, 22, rfl, zw_12, by decide, zq_982⟩
theorem zfl_X12_18_12 : zj_fld RX12 18 12 3 := ⟨RX12, TX12, 22, rfl, zw_12, by decide, zq_983⟩
theorem zfl_X12_21_12 : zj_fld RX12 21 12 10 := ⟨RX12, TX12, 22, rfl, zw_12, by decide, zq_990⟩
theorem zfl_X12_228_12 : zj_fld RX12 228 12 18 := ⟨RX12, TX12, 22, rfl, zw_12, by decide, zq_998⟩
theorem zfl_X12_228_12w : zj_fldW RX12 228 12 18 .int := ⟨RX12, TX12, 22, tyX12, rfl, zw_12, by decide, zq_998, tyX12_ok, nmX12, rfl, by decide +kernel⟩
theorem zfl_X12_234_12 : zj_fld RX12 234 12 20 := ⟨RX12, TX12, 22, rfl, zw_12, by decide, zq_1000⟩
theorem zfl_X12_234_12w : zj_fldW RX12 234 12 20 .int := ⟨RX12, TX12, 22, tyX12, rfl, zw_12, by decide, zq_1000, tyX12_ok, nmX12, rfl, by decide +kernel⟩
theorem zfl_X12_237_12 : zj_fld RX12 237 12 19 := ⟨RX12, TX12, 22, rfl, zw_12, by decide, zq_999⟩
theorem zfl_X12_237_12w : zj_fldW RX12 237 12 19 .int := ⟨RX12, TX12, 22, tyX12, rfl, zw_12, by decide, zq_999, tyX12_ok, nmX12, rfl, by decide +kernel⟩
theorem zfl_X12_249_12 : zj_fld RX12 249 12 21 := ⟨RX12, TX12, 22, rfl, zw_12, by decide, zq_1001⟩
theorem zfl_X12_249_12w : zj_fldW RX12 249 12 21 .int := ⟨RX12, TX12, 22, tyX12, rfl, zw_12, by decide, zq_1001, tyX12_ok, nmX12, rfl, by decide +kernel⟩
theorem zfl_X12_24_12 : zj_fld RX12 24 12 11 := ⟨RX12, TX12, 22, rfl, zw_12, by decide, zq_991⟩
theorem zfl_X12_264_12 : zj_fld RX12 264 12 4 := ⟨RX12, TX12, 22, rfl, zw_12, by decide, zq_984⟩
theorem zfl_X12_264_12w : zj_fldW RX12 264 12 4 .boolean := ⟨RX12, TX12, 22, tyX12, rfl, zw_12, by decide, zq_984, tyX12_ok, nmX12, rfl, by decide +kernel⟩
theorem zfl_X12_28_12 : zj_fld RX12 28 12 12 := ⟨RX12, TX12, 22, rfl, zw_12, by decide, zq_992⟩
theorem zfl_X12_31_12 : zj_fld RX12 31 12 13 := ⟨RX12, TX12, 22, rfl, zw_12, by decide, zq_993⟩
theorem zfl_X12_34_12 : zj_fld RX12 34 12 15 := ⟨RX12, TX12, 22, rfl, zw_12, by decide, zq_995⟩
theorem zfl_X12_37_12 : zj_fld RX12 37 12 16 := ⟨RX12, TX12, 22, rfl, zw_12, by decide, zq_996⟩
theorem zfl_X12_40_12 : zj_fld RX12 40 12 17 := ⟨RX12, TX12, 22, rfl, zw_12, by decide, zq_997⟩
theorem zfl_X12_51_12 : zj_fld RX12 51 12 6 := ⟨RX12, TX12, 22, rfl, zw_12, by decide, zq_986⟩
theorem zfl_X12_51_12w : zj_fldW RX12 51 12 6 .int := ⟨RX12, TX12, 22, tyX12, rfl, zw_12, by decide, zq_986, tyX12_ok, nmX12, rfl, by decide +kernel⟩
theorem zfl_X12_54_12 : zj_fld RX12 54 12 7 := ⟨RX12, TX12, 22, rfl, zw_12, by decide, zq_987⟩
theorem zfl_X12_54_12w : zj_fldW RX12 54 12 7 .int := ⟨RX12, TX12, 22, tyX12, rfl, zw_12, by decide, zq_987, tyX12_ok, nmX12, rfl, by decide +kernel⟩
theorem zfl_X12_57_12 : zj_fld RX12 57 12 8 := ⟨RX12, TX12, 22, rfl, zw_12, by decide, zq_988⟩
theorem zfl_X12_57_12w : zj_fldW RX12 57 12 8 .boolean := ⟨RX12, TX12, 22, tyX12, rfl, zw_12, by decide, zq_988, tyX12_ok, nmX12, rfl, by decide +kernel⟩
theorem zfl_X12_78_12 : zj_fld RX12 78 12 5 := ⟨RX12, TX12, 22, rfl, zw_12, by decide, zq_985⟩
theorem zfl_X12_78_12w : zj_fldW RX12 78 12 5 .int := ⟨RX12, TX12, 22, tyX12, rfl, zw_12, by decide, zq_985, tyX12_ok, nmX12, rfl, by decide +kernel⟩
theorem zfl_X12_81_12 : zj_fld RX12 81 12 9 := ⟨RX12, TX12, 22, rfl, zw_12, by decide, zq_989⟩
theorem zfl_X12_81_12w : zj_fldW RX12 81 12 9 .int := ⟨RX12, TX12, 22, tyX12, rfl, zw_12, by decide, zq_989, tyX12_ok, nmX12, rfl, by decide +kernel⟩
theorem zfl_X12_9_12 : zj_fld RX12 9 12 1 := ⟨RX12, TX12, 22, rfl, zw_12, by decide, zq_981⟩
theorem zfl_X2_11_2 : zj_fld RX2 11 2 3 := ⟨RX2, TX2, 11, rfl, zw_2, by decide, zq_195⟩
theorem zfl_X2_123_5 : zj_fld RX2 123 5 0 := ⟨RX5, TX5, 4, rfl, zw_5, by decide, zq_101⟩
theorem zfl_X2_15_2 : zj_fld RX2 15 2 4 := ⟨RX2, TX2, 11, rfl, zw_2, by decide, zq_196⟩
theorem zfl_X2_18_2 : zj_fld RX2 18 2 5 := ⟨RX2, TX2, 11, rfl, zw_2, by decide, zq_197⟩
theorem zfl_X2_21_2 : zj_fld RX2 21 2 6 := ⟨RX2, TX2, 11, rfl, zw_2, by decide, zq_198⟩
theorem zfl_X2_30_2 : zj_fld RX2 30 2 7 := ⟨RX2, TX2, 11, rfl, zw_2, by decide, zq_199⟩
theorem zfl_X2_30_2w : zj_fldW RX2 30 2 7 .int := ⟨RX2, TX2, 11, tyX2, rfl, zw_2, by decide, zq_199, tyX2_ok, nmX2, rfl, by decide +kernel⟩
theorem zfl_X2_34_2 : zj_fld RX2 34 2 0 := ⟨RX2, TX2, 11, rfl, zw_2, by decide, zq_188⟩
theorem zfl_X2_34_2w : zj_fldW RX2 34 2 0 .int := ⟨RX2, TX2, 11, tyX2, rfl, zw_2, by decide, zq_188, tyX2_ok, nmX2, rfl, by decide +kernel⟩
theorem zfl_X2_37_2 : zj_fld RX2 37 2 1 := ⟨RX2, TX2, 11, rfl, zw_2, by decide, zq_191⟩
theorem zfl_X2_37_2w : zj_fldW RX2 37 2 1 .int := ⟨RX2, TX2, 11, tyX2, rfl, zw_2, by decide, zq_191, tyX2_ok, nmX2, rfl, by decide +kernel⟩
theorem zfl_X2_40_2 : zj_fld RX2 40 2 8 := ⟨RX2, TX2, 11, rfl, zw_2, by decide, zq_200⟩
theorem zfl_X2_40_2w : zj_fldW RX2 40 2 8 (.object RX5) := ⟨RX2, TX2, 11, tyX2, rfl, zw_2, by decide, zq_200, tyX2_ok, nmX2, rfl, by decide +kernel⟩
theorem zfl_X2_44_2 : zj_fld RX2 44 2 2 := ⟨RX2, TX2, 11, rfl, zw_2, by decide, zq_193⟩
theorem zfl_X2_44_2w : zj_fldW RX2 44 2 2 .int := ⟨RX2, TX2, 11, tyX2, rfl, zw_2, by decide, zq_193, tyX2_ok, nmX2, rfl, by decide +kernel⟩
theorem zfl_X2_47_2 : zj_fld RX2 47 2 10 := ⟨RX2, TX2, 11, rfl, zw_2, by decide, zq_202⟩
theorem zfl_X2_47_2w : zj_fldW RX2 47 2 10 .boolean := ⟨RX2, TX2, 11, tyX2, rfl, zw_2, by decide, zq_202, tyX2_ok, nmX2, rfl, by decide +kernel⟩
theorem zfl_X2_57_5 : zj_fld RX2 57 5 3 := ⟨RX5, TX5, 4, rfl, zw_5, by decide, zq_111⟩
theorem zfl_X2_62_2 : zj_fld RX2 62 2 9 := ⟨RX2, TX2, 11, rfl, zw_2, by decide, zq_201⟩
theorem zfl_X2_62_2w : zj_fldW RX2 62 2 9 .int := ⟨RX2, TX2, 11, tyX2, rfl, zw_2, by decide, zq_201, tyX2_ok, nmX2, rfl, by decide +kernel⟩
theorem zfl_X4_116_5 : zj_fld RX4 116 5 3 := ⟨RX5, TX5, 4, rfl, zw_5, by decide, zq_112⟩
theorem zfl_X4_119_5 : zj_fld RX4 119 5 1 := ⟨RX5, TX5, 4, rfl, zw_5, by decide, zq_105⟩
theorem zfl_X4_128_5 : zj_fld RX4 128 5 0 := ⟨RX5, TX5, 4, rfl, zw_5, by decide, zq_102⟩
theorem zfl_X4_131_5 : zj_fld RX4 131 5 2 := ⟨RX5, TX5, 4, rfl, zw_5, by decide, zq_108⟩
theorem zfl_X4_15_4 : zj_fld RX4 15 4 1 := ⟨RX4, TX4, 18, rfl, zw_4, by decide, zq_242⟩
theorem zfl_X4_18_4 : zj_fld RX4 18 4 2 := ⟨RX4, TX4, 18, rfl, zw_4, by decide, zq_244⟩
theorem zfl_X4_21_4 : zj_fld RX4 21 4 3 := ⟨RX4, TX4, 18, rfl, zw_4, by decide, zq_247⟩
theorem zfl_X4_24_4 : zj_fld RX4 24 4 4 := ⟨RX4, TX4, 18, rfl, zw_4, by decide, zq_249⟩
theorem zfl_X4_27_4 : zj_fld RX4 27 4 5 := ⟨RX4, TX4, 18, rfl, zw_4, by decide, zq_251⟩
theorem zfl_X4_30_4 : zj_fld RX4 30 4 6 := ⟨RX4, TX4, 18, rfl, zw_4, by decide, zq_253⟩
theorem zfl_X4_33_4 : zj_fld RX4 33 4 14 := ⟨RX4, TX4, 18, rfl, zw_4, by decide, zq_268⟩
theorem zfl_X4_36_4 : zj_fld RX4 36 4 15 := ⟨RX4, TX4, 18, rfl, zw_4, by decide, zq_269⟩
theorem zfl_X4_39_4 : zj_fld RX4 39 4 11 := ⟨RX4, TX4, 18, rfl, zw_4, by decide, zq_265⟩
theorem zfl_X4_43_4 : zj_fld RX4 43 4 12 := ⟨RX4, TX4, 18, rfl, zw_4, by decide, zq_266⟩
theorem zfl_X4_47_4 : zj_fld RX4 47 4 13 := ⟨RX4, TX4, 18, rfl, zw_4, by decide, zq_267⟩
theorem zfl_X4_57_4 : zj_fld RX4 57 4 7 := ⟨RX4, TX4, 18, rfl, zw_4, by decide, zq_256⟩
theorem zfl_X4_57_4w : zj_fldW RX4 57 4 7 .int := ⟨RX4, TX4, 18, tyX4, rfl, zw_4, by decide, zq_256, tyX4_ok, nmX4, rfl, by decide +kernel⟩
theorem zfl_X4_60_4 : zj_fld RX4 60 4 8 := ⟨RX4, TX4, 18, rfl, zw_4, by decide, zq_259⟩
theorem zfl_X4_60_4w : zj_fldW RX4 60 4 8 .int := ⟨RX4, TX4, 18, tyX4, rfl, zw_4, by decide, zq_259, tyX4_ok, nmX4, rfl, by decide +kernel⟩
theorem zfl_X4_63_4 : zj_fld RX4 63 4 9 := ⟨RX4, TX4, 18, rfl, zw_4, by decide, zq_262⟩
theorem zfl_X4_63_4w : zj_fldW RX4 63 4 9 .int := ⟨RX4, TX4, 18, tyX4, rfl, zw_4, by decide, zq_262, tyX4_ok, nmX4, rfl, by decide +kernel⟩
theorem zfl_X4_66_4 : zj_fld RX4 66 4 10 := ⟨RX4, TX4, 18, rfl, zw_4, by decide, zq_264⟩
theorem zfl_X4_66_4w : zj_fldW RX4 66 4 10 .int := ⟨RX4, TX4, 18, tyX4, rfl, zw_4, by decide, zq_264, tyX4_ok, nmX4, rfl, by decide +kernel⟩
theorem zfl_X4_73_2 : zj_fld RX4 73 2 0 := ⟨RX2, TX2, 11, rfl, zw_2, by decide, zq_189⟩
theorem zfl_X4_78_4 : zj_fld RX4 78 4 16 := ⟨RX4, TX4, 18, rfl, zw_4, by decide, zq_270⟩
theorem zfl_X4_78_4w : zj_fldW RX4 78 4 16 .int := ⟨RX4, TX4, 18, tyX4, rfl, zw_4, by decide, zq_270, tyX4_ok, nmX4, rfl, by decide +kernel⟩
theorem zfl_X4_81_4 : zj_fld RX4 81 4 17 := ⟨RX4, TX4, 18, rfl, zw_4, by decide, zq_271⟩
theorem zfl_X4_81_4w : zj_fldW RX4 81 4 17 .int := ⟨RX4, TX4, 18, tyX4, rfl, zw_4, by decide, zq_271, tyX4_ok, nmX4, rfl, by decide +kernel⟩
theorem zfl_X4_9_4 : zj_fld RX4 9 4 0 := ⟨RX4, TX4, 18, rfl, zw_4, by decide, zq_240⟩
theorem zfl_X5_13_5 : zj_fld RX5 13 5 1 := ⟨RX5, TX5, 4, rfl, zw_5, by decide, zq_104⟩
theorem zfl_X5_16_5 : zj_fld RX5 16 5 2 := ⟨RX5, TX5, 4, rfl, zw_5, by decide, zq_107⟩
theorem zfl_X5_19_5 : zj_fld RX5 19 5 3 := ⟨RX5, TX5, 4, rfl, zw_5, by decide, zq_109⟩
theorem zfl_X5_19_5w : zj_fldW RX5 19 5 3 .int := ⟨RX5, TX5, 4, tyX5, rfl, zw_5, by decide, zq_109, tyX5_ok, nmX5, rfl, by decide +kernel⟩
theorem zfl_X5_7_5 : zj_fld RX5 7 5 0 := ⟨RX5, TX5, 4, rfl, zw_5, by decide, zq_100⟩
theorem zfl_X7_11_4 : zj_fld RX7 11 4 8 := ⟨RX4, TX4, 18, rfl, zw_4, by decide, zq_260⟩
theorem zfl_X8_11_4 : zj_fld RX8 11 4 6 := ⟨RX4, TX4, 18, rfl, zw_4, by decide, zq_254⟩
theorem zfl_X8_17_4 : zj_fld RX8 17 4 8 := ⟨RX4, TX4, 18, rfl, zw_4, by decide, zq_258⟩
theorem zfl_X9_7_0 : zj_fld RX9 7 0 0 := ⟨RX0, TX0, 1, rfl, zw_0, by decide, zq_130⟩
theorem zfl_X9_7_1 : zj_fld RX9 7 1 0 := ⟨RX1, TX1, 1, rfl, zw_1, by decide, zq_130⟩
theorem zfl_X9_7_3 : zj_fld RX9 7 3 0 := ⟨RX3, TX3, 1, rfl, zw_3, by decide, zq_130⟩
theorem zfl_X9_7_6 : zj_fld RX9 7 6 0 := ⟨RX6, TX6, 1, rfl, zw_6, by decide, zq_130⟩
theorem zfl_X9_7_7 : zj_fld RX9 7 7 0 := ⟨RX7, TX7, 1, rfl, zw_7, by decide, zq_130⟩
theorem zfl_X9_7_8 : zj_fld RX9 7 8 0 := ⟨RX8, TX8, 1, rfl, zw_8, by decide, zq_130⟩
theorem zfl_X9_7_9 : zj_fld RX9 7 9 0 := ⟨RX9, TX9, 1, rfl, zw_9, by decide, zq_130⟩

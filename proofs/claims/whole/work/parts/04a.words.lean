theorem inL : Cond.initialized RL ∈ tbG := tbG_in (tbl_t (List.mem_of_getElem? (i := 0) (by decide +kernel))) rfl
theorem inX9 : Cond.initialized RX9 ∈ tbG := tbG_in (tbl_t (List.mem_of_getElem? (i := 1) (by decide +kernel))) rfl
theorem inX5 : Cond.initialized RX5 ∈ tbG := tbG_in (tbl_t (List.mem_of_getElem? (i := 2) (by decide +kernel))) rfl
theorem inX1 : Cond.initialized RX1 ∈ tbG := tbG_in (tbl_t (List.mem_of_getElem? (i := 3) (by decide +kernel))) rfl
theorem inX6 : Cond.initialized RX6 ∈ tbG := tbG_in (tbl_t (List.mem_of_getElem? (i := 4) (by decide +kernel))) rfl
theorem inX7 : Cond.initialized RX7 ∈ tbG := tbG_in (tbl_t (List.mem_of_getElem? (i := 5) (by decide +kernel))) rfl
theorem inX8 : Cond.initialized RX8 ∈ tbG := tbG_in (tbl_t (List.mem_of_getElem? (i := 6) (by decide +kernel))) rfl
theorem inX2 : Cond.initialized RX2 ∈ tbG := tbG_in (tbl_t (List.mem_of_getElem? (i := 7) (by decide +kernel))) rfl
theorem inX0 : Cond.initialized RX0 ∈ tbG := tbG_in (tbl_t (List.mem_of_getElem? (i := 8) (by decide +kernel))) rfl
theorem inX3 : Cond.initialized RX3 ∈ tbG := tbG_in (tbl_t (List.mem_of_getElem? (i := 9) (by decide +kernel))) rfl
theorem inX4 : Cond.initialized RX4 ∈ tbG := tbG_in (tbl_t (List.mem_of_getElem? (i := 10) (by decide +kernel))) rfl
theorem inX10 : Cond.initialized RX10 ∈ tbG := tbG_in (tbl_t (List.mem_of_getElem? (i := 11) (by decide +kernel))) rfl
theorem inMath : Cond.initialized "java/lang/Math" ∈ tbG := tbG_in (tbl_t (List.mem_of_getElem? (i := 12) (by decide +kernel))) rfl
theorem mlL_9 : Cond.methodLink RL 9 yX9_init ∈ tbG := tbG_in (tbl_t (List.mem_of_getElem? (i := 15) (by decide +kernel))) rfl
theorem mlX9_1 : Cond.methodLink RX9 1 objectInit ∈ tbG := tbG_in (tbl_t (List.mem_of_getElem? (i := 18) (by decide +kernel))) rfl
theorem mlX9_25 : Cond.methodLink RX9 25 yX5_init ∈ tbG := tbG_in (tbl_t (List.mem_of_getElem? (i := 23) (by decide +kernel))) rfl
theorem mlX5_3 : Cond.methodLink RX5 3 objectInit ∈ tbG := tbG_in (tbl_t (List.mem_of_getElem? (i := 26) (by decide +kernel))) rfl
theorem lkX5_19 : Cond.fieldLink RX5 19 RX5 "most" "I" ∈ tbG := tbG_in (tbl_t (List.mem_of_getElem? (i := 27) (by decide +kernel))) rfl
theorem lkX9_109 : Cond.fieldLink RX9 109 RX5 "most" "I" ∈ tbG := tbG_in (tbl_t (List.mem_of_getElem? (i := 28) (by decide +kernel))) rfl
theorem lkX5_15 : Cond.fieldLink RX5 15 RX5 "otherwise" "I" ∈ tbG := tbG_in (tbl_t (List.mem_of_getElem? (i := 29) (by decide +kernel))) rfl
theorem lkX5_9 : Cond.fieldLink RX5 9 RX5 "told" "[I" ∈ tbG := tbG_in (tbl_t (List.mem_of_getElem? (i := 30) (by decide +kernel))) rfl
theorem mlX1_3 : Cond.methodLink RX1 3 objectInit ∈ tbG := tbG_in (tbl_t (List.mem_of_getElem? (i := 44) (by decide +kernel))) rfl
theorem lkX1_9 : Cond.fieldLink RX1 9 RX1 "told" "I" ∈ tbG := tbG_in (tbl_t (List.mem_of_getElem? (i := 45) (by decide +kernel))) rfl
theorem lkX0_34 : Cond.fieldLink RX0 34 RX1 "told" "I" ∈ tbG := tbG_in (tbl_t (List.mem_of_getElem? (i := 46) (by decide +kernel))) rfl
theorem lkX9_128 : Cond.fieldLink RX9 128 RX1 "told" "I" ∈ tbG := tbG_in (tbl_t (List.mem_of_getElem? (i := 47) (by decide +kernel))) rfl
theorem lkX1_15 : Cond.fieldLink RX1 15 RX1 "looks" "I" ∈ tbG := tbG_in (tbl_t (List.mem_of_getElem? (i := 48) (by decide +kernel))) rfl
theorem lkX9_131 : Cond.fieldLink RX9 131 RX1 "looks" "I" ∈ tbG := tbG_in (tbl_t (List.mem_of_getElem? (i := 49) (by decide +kernel))) rfl
theorem lkX1_18 : Cond.fieldLink RX1 18 RX1 "quarrels" "I" ∈ tbG := tbG_in (tbl_t (List.mem_of_getElem? (i := 50) (by decide +kernel))) rfl
theorem lkX9_311 : Cond.fieldLink RX9 311 RX1 "quarrels" "I" ∈ tbG := tbG_in (tbl_t (List.mem_of_getElem? (i := 51) (by decide +kernel))) rfl
theorem lkX1_21 : Cond.fieldLink RX1 21 RX1 "mile" "[I" ∈ tbG := tbG_in (tbl_t (List.mem_of_getElem? (i := 52) (by decide +kernel))) rfl
theorem lkX0_64 : Cond.fieldLink RX0 64 RX1 "mile" "[I" ∈ tbG := tbG_in (tbl_t (List.mem_of_getElem? (i := 53) (by decide +kernel))) rfl
theorem lkX9_179 : Cond.fieldLink RX9 179 RX1 "mile" "[I" ∈ tbG := tbG_in (tbl_t (List.mem_of_getElem? (i := 54) (by decide +kernel))) rfl
theorem lkX1_25 : Cond.fieldLink RX1 25 RX1 "yard" "[I" ∈ tbG := tbG_in (tbl_t (List.mem_of_getElem? (i := 55) (by decide +kernel))) rfl
theorem lkX0_59 : Cond.fieldLink RX0 59 RX1 "yard" "[I" ∈ tbG := tbG_in (tbl_t (List.mem_of_getElem? (i := 56) (by decide +kernel))) rfl
theorem lkX1_28 : Cond.fieldLink RX1 28 RX1 "side" "[I" ∈ tbG := tbG_in (tbl_t (List.mem_of_getElem? (i := 57) (by decide +kernel))) rfl
theorem lkX0_65 : Cond.fieldLink RX0 65 RX1 "side" "[I" ∈ tbG := tbG_in (tbl_t (List.mem_of_getElem? (i := 58) (by decide +kernel))) rfl
theorem lkX1_31 : Cond.fieldLink RX1 31 RX1 "kind" "[I" ∈ tbG := tbG_in (tbl_t (List.mem_of_getElem? (i := 59) (by decide +kernel))) rfl
theorem lkX9_318 : Cond.fieldLink RX9 318 RX1 "kind" "[I" ∈ tbG := tbG_in (tbl_t (List.mem_of_getElem? (i := 60) (by decide +kernel))) rfl
theorem lkX1_34 : Cond.fieldLink RX1 34 RX1 "open" "[Z" ∈ tbG := tbG_in (tbl_t (List.mem_of_getElem? (i := 61) (by decide +kernel))) rfl
theorem lkX0_37 : Cond.fieldLink RX0 37 RX1 "open" "[Z" ∈ tbG := tbG_in (tbl_t (List.mem_of_getElem? (i := 62) (by decide +kernel))) rfl
theorem lkX9_159 : Cond.fieldLink RX9 159 RX1 "open" "[Z" ∈ tbG := tbG_in (tbl_t (List.mem_of_getElem? (i := 63) (by decide +kernel))) rfl
theorem lkX1_38 : Cond.fieldLink RX1 38 RX1 "least" "[I" ∈ tbG := tbG_in (tbl_t (List.mem_of_getElem? (i := 64) (by decide +kernel))) rfl
theorem lkX9_163 : Cond.fieldLink RX9 163 RX1 "least" "[I" ∈ tbG := tbG_in (tbl_t (List.mem_of_getElem? (i := 65) (by decide +kernel))) rfl
theorem lkX1_41 : Cond.fieldLink RX1 41 RX1 "greatest" "[I" ∈ tbG := tbG_in (tbl_t (List.mem_of_getElem? (i := 66) (by decide +kernel))) rfl
theorem lkX9_166 : Cond.fieldLink RX9 166 RX1 "greatest" "[I" ∈ tbG := tbG_in (tbl_t (List.mem_of_getElem? (i := 67) (by decide +kernel))) rfl
theorem lkX1_44 : Cond.fieldLink RX1 44 RX1 "noted" "[I" ∈ tbG := tbG_in (tbl_t (List.mem_of_getElem? (i := 68) (by decide +kernel))) rfl
theorem lkX9_324 : Cond.fieldLink RX9 324 RX1 "noted" "[I" ∈ tbG := tbG_in (tbl_t (List.mem_of_getElem? (i := 69) (by decide +kernel))) rfl
theorem lkX1_47 : Cond.fieldLink RX1 47 RX1 "notedSince" "[I" ∈ tbG := tbG_in (tbl_t (List.mem_of_getElem? (i := 70) (by decide +kernel))) rfl
theorem lkX9_327 : Cond.fieldLink RX9 327 RX1 "notedSince" "[I" ∈ tbG := tbG_in (tbl_t (List.mem_of_getElem? (i := 71) (by decide +kernel))) rfl
theorem mlX6_3 : Cond.methodLink RX6 3 objectInit ∈ tbG := tbG_in (tbl_t (List.mem_of_getElem? (i := 103) (by decide +kernel))) rfl
theorem lkX6_9 : Cond.fieldLink RX6 9 RX6 "told" "I" ∈ tbG := tbG_in (tbl_t (List.mem_of_getElem? (i := 104) (by decide +kernel))) rfl
theorem lkX9_169 : Cond.fieldLink RX9 169 RX6 "told" "I" ∈ tbG := tbG_in (tbl_t (List.mem_of_getElem? (i := 105) (by decide +kernel))) rfl
theorem lkX6_15 : Cond.fieldLink RX6 15 RX6 "act" "[I" ∈ tbG := tbG_in (tbl_t (List.mem_of_getElem? (i := 106) (by decide +kernel))) rfl
theorem lkX9_333 : Cond.fieldLink RX9 333 RX6 "act" "[I" ∈ tbG := tbG_in (tbl_t (List.mem_of_getElem? (i := 107) (by decide +kernel))) rfl
theorem lkX6_19 : Cond.fieldLink RX6 19 RX6 "within" "[I" ∈ tbG := tbG_in (tbl_t (List.mem_of_getElem? (i := 108) (by decide +kernel))) rfl
theorem lkX9_330 : Cond.fieldLink RX9 330 RX6 "within" "[I" ∈ tbG := tbG_in (tbl_t (List.mem_of_getElem? (i := 109) (by decide +kernel))) rfl
theorem lkX6_22 : Cond.fieldLink RX6 22 RX6 "kind" "[I" ∈ tbG := tbG_in (tbl_t (List.mem_of_getElem? (i := 110) (by decide +kernel))) rfl
theorem lkX6_25 : Cond.fieldLink RX6 25 RX6 "size" "[I" ∈ tbG := tbG_in (tbl_t (List.mem_of_getElem? (i := 111) (by decide +kernel))) rfl
theorem lkX6_28 : Cond.fieldLink RX6 28 RX6 "from" "[I" ∈ tbG := tbG_in (tbl_t (List.mem_of_getElem? (i := 112) (by decide +kernel))) rfl
theorem mlX7_3 : Cond.methodLink RX7 3 objectInit ∈ tbG := tbG_in (tbl_t (List.mem_of_getElem? (i := 131) (by decide +kernel))) rfl
theorem lkX7_9 : Cond.fieldLink RX7 9 RX7 "lostMinutes" "I" ∈ tbG := tbG_in (tbl_t (List.mem_of_getElem? (i := 132) (by decide +kernel))) rfl
theorem lkX9_197 : Cond.fieldLink RX9 197 RX7 "lostMinutes" "I" ∈ tbG := tbG_in (tbl_t (List.mem_of_getElem? (i := 133) (by decide +kernel))) rfl
theorem lkX7_15 : Cond.fieldLink RX7 15 RX7 "minutes" "[I" ∈ tbG := tbG_in (tbl_t (List.mem_of_getElem? (i := 134) (by decide +kernel))) rfl
theorem lkX9_188 : Cond.fieldLink RX9 188 RX7 "minutes" "[I" ∈ tbG := tbG_in (tbl_t (List.mem_of_getElem? (i := 135) (by decide +kernel))) rfl
theorem mlX8_3 : Cond.methodLink RX8 3 objectInit ∈ tbG := tbG_in (tbl_t (List.mem_of_getElem? (i := 146) (by decide +kernel))) rfl
theorem lkX8_9 : Cond.fieldLink RX8 9 RX8 "told" "I" ∈ tbG := tbG_in (tbl_t (List.mem_of_getElem? (i := 147) (by decide +kernel))) rfl
theorem lkX9_209 : Cond.fieldLink RX9 209 RX8 "told" "I" ∈ tbG := tbG_in (tbl_t (List.mem_of_getElem? (i := 148) (by decide +kernel))) rfl
theorem lkX8_15 : Cond.fieldLink RX8 15 RX8 "start" "[I" ∈ tbG := tbG_in (tbl_t (List.mem_of_getElem? (i := 149) (by decide +kernel))) rfl
theorem lkX8_19 : Cond.fieldLink RX8 19 RX8 "pace" "[I" ∈ tbG := tbG_in (tbl_t (List.mem_of_getElem? (i := 150) (by decide +kernel))) rfl
theorem mlX2_3 : Cond.methodLink RX2 3 objectInit ∈ tbG := tbG_in (tbl_t (List.mem_of_getElem? (i := 163) (by decide +kernel))) rfl
theorem lkX2_9 : Cond.fieldLink RX2 9 RX2 "byFirst" "[I" ∈ tbG := tbG_in (tbl_t (List.mem_of_getElem? (i := 164) (by decide +kernel))) rfl
theorem lkX2_15 : Cond.fieldLink RX2 15 RX2 "bySecond" "[I" ∈ tbG := tbG_in (tbl_t (List.mem_of_getElem? (i := 165) (by decide +kernel))) rfl
theorem lkX2_18 : Cond.fieldLink RX2 18 RX2 "byBoth" "[I" ∈ tbG := tbG_in (tbl_t (List.mem_of_getElem? (i := 166) (by decide +kernel))) rfl
theorem mlX0_5 : Cond.methodLink RX0 5 objectInit ∈ tbG := tbG_in (tbl_t (List.mem_of_getElem? (i := 179) (by decide +kernel))) rfl
theorem lkX0_11 : Cond.fieldLink RX0 11 RX0 "told" "I" ∈ tbG := tbG_in (tbl_t (List.mem_of_getElem? (i := 180) (by decide +kernel))) rfl
theorem lkX9_248 : Cond.fieldLink RX9 248 RX0 "told" "I" ∈ tbG := tbG_in (tbl_t (List.mem_of_getElem? (i := 181) (by decide +kernel))) rfl
theorem lkX0_15 : Cond.fieldLink RX0 15 RX0 "mile" "[I" ∈ tbG := tbG_in (tbl_t (List.mem_of_getElem? (i := 182) (by decide +kernel))) rfl
theorem lkX0_19 : Cond.fieldLink RX0 19 RX0 "yard" "[I" ∈ tbG := tbG_in (tbl_t (List.mem_of_getElem? (i := 183) (by decide +kernel))) rfl
theorem lkX0_22 : Cond.fieldLink RX0 22 RX0 "side" "[I" ∈ tbG := tbG_in (tbl_t (List.mem_of_getElem? (i := 184) (by decide +kernel))) rfl
theorem lkX0_25 : Cond.fieldLink RX0 25 RX0 "pairWeights" "[J" ∈ tbG := tbG_in (tbl_t (List.mem_of_getElem? (i := 185) (by decide +kernel))) rfl
theorem lkX0_29 : Cond.fieldLink RX0 29 RX0 "leastFor" "[J" ∈ tbG := tbG_in (tbl_t (List.mem_of_getElem? (i := 186) (by decide +kernel))) rfl
theorem mlX3_3 : Cond.methodLink RX3 3 objectInit ∈ tbG := tbG_in (tbl_t (List.mem_of_getElem? (i := 206) (by decide +kernel))) rfl
theorem lkX3_9 : Cond.fieldLink RX3 9 RX3 "jobs" "I" ∈ tbG := tbG_in (tbl_t (List.mem_of_getElem? (i := 207) (by decide +kernel))) rfl
theorem lkX9_269 : Cond.fieldLink RX9 269 RX3 "jobs" "I" ∈ tbG := tbG_in (tbl_t (List.mem_of_getElem? (i := 208) (by decide +kernel))) rfl
theorem lkX3_15 : Cond.fieldLink RX3 15 RX3 "toolsOfGang" "[I" ∈ tbG := tbG_in (tbl_t (List.mem_of_getElem? (i := 209) (by decide +kernel))) rfl
theorem lkX9_273 : Cond.fieldLink RX9 273 RX3 "toolsOfGang" "[I" ∈ tbG := tbG_in (tbl_t (List.mem_of_getElem? (i := 210) (by decide +kernel))) rfl
theorem lkX3_19 : Cond.fieldLink RX3 19 RX3 "hours" "[I" ∈ tbG := tbG_in (tbl_t (List.mem_of_getElem? (i := 211) (by decide +kernel))) rfl
theorem lkX3_22 : Cond.fieldLink RX3 22 RX3 "dueHour" "[I" ∈ tbG := tbG_in (tbl_t (List.mem_of_getElem? (i := 212) (by decide +kernel))) rfl
theorem lkX3_25 : Cond.fieldLink RX3 25 RX3 "tools" "[I" ∈ tbG := tbG_in (tbl_t (List.mem_of_getElem? (i := 213) (by decide +kernel))) rfl
theorem lkX3_28 : Cond.fieldLink RX3 28 RX3 "byDue" "[I" ∈ tbG := tbG_in (tbl_t (List.mem_of_getElem? (i := 214) (by decide +kernel))) rfl
theorem mlX9_92 : Cond.methodLink RX9 92 yX4_init ∈ tbG := tbG_in (tbl_t (List.mem_of_getElem? (i := 230) (by decide +kernel))) rfl
theorem mlX4_3 : Cond.methodLink RX4 3 objectInit ∈ tbG := tbG_in (tbl_t (List.mem_of_getElem? (i := 233) (by decide +kernel))) rfl
theorem lkX4_9 : Cond.fieldLink RX4 9 RX4 "laidAt" "[I" ∈ tbG := tbG_in (tbl_t (List.mem_of_getElem? (i := 234) (by decide +kernel))) rfl
theorem lkX9_336 : Cond.fieldLink RX9 336 RX4 "laidAt" "[I" ∈ tbG := tbG_in (tbl_t (List.mem_of_getElem? (i := 235) (by decide +kernel))) rfl
theorem lkX4_15 : Cond.fieldLink RX4 15 RX4 "cracks" "[I" ∈ tbG := tbG_in (tbl_t (List.mem_of_getElem? (i := 236) (by decide +kernel))) rfl
theorem lkX9_295 : Cond.fieldLink RX9 295 RX4 "cracks" "[I" ∈ tbG := tbG_in (tbl_t (List.mem_of_getElem? (i := 237) (by decide +kernel))) rfl
theorem lkX4_18 : Cond.fieldLink RX4 18 RX4 "lotOfMile" "[I" ∈ tbG := tbG_in (tbl_t (List.mem_of_getElem? (i := 238) (by decide +kernel))) rfl
theorem lkX9_7 : Cond.fieldLink RX9 7 RX9 "now" "I" ∈ tbG := tbG_in (tbl_t (List.mem_of_getElem? (i := 246) (by decide +kernel))) rfl
theorem lkX9_13 : Cond.fieldLink RX9 13 RX9 "refusals" "[I" ∈ tbG := tbG_in (tbl_t (List.mem_of_getElem? (i := 247) (by decide +kernel))) rfl
theorem lkX9_17 : Cond.fieldLink RX9 17 RX9 "settings" "[I" ∈ tbG := tbG_in (tbl_t (List.mem_of_getElem? (i := 248) (by decide +kernel))) rfl
theorem lkX9_20 : Cond.fieldLink RX9 20 RX9 "growths" "[I" ∈ tbG := tbG_in (tbl_t (List.mem_of_getElem? (i := 249) (by decide +kernel))) rfl
theorem lkX9_28 : Cond.fieldLink RX9 28 RX9 "tons" "LLineWalkers$Readings;" ∈ tbG := tbG_in (tbl_t (List.mem_of_getElem? (i := 250) (by decide +kernel))) rfl
theorem lkX9_32 : Cond.fieldLink RX9 32 RX9 "cold" "LLineWalkers$Readings;" ∈ tbG := tbG_in (tbl_t (List.mem_of_getElem? (i := 251) (by decide +kernel))) rfl
theorem lkX9_38 : Cond.fieldLink RX9 38 RX9 "defects" "LLineWalkers$Defects;" ∈ tbG := tbG_in (tbl_t (List.mem_of_getElem? (i := 252) (by decide +kernel))) rfl
theorem lkX9_45 : Cond.fieldLink RX9 45 RX9 "rules" "LLineWalkers$RuleBook;" ∈ tbG := tbG_in (tbl_t (List.mem_of_getElem? (i := 253) (by decide +kernel))) rfl
theorem lkX9_52 : Cond.fieldLink RX9 52 RX9 "orders" "LLineWalkers$SlowOrders;" ∈ tbG := tbG_in (tbl_t (List.mem_of_getElem? (i := 254) (by decide +kernel))) rfl
theorem lkX9_59 : Cond.fieldLink RX9 59 RX9 "trains" "LLineWalkers$Timetable;" ∈ tbG := tbG_in (tbl_t (List.mem_of_getElem? (i := 255) (by decide +kernel))) rfl
theorem lkX9_63 : Cond.fieldLink RX9 63 RX9 "lastWalked" "[I" ∈ tbG := tbG_in (tbl_t (List.mem_of_getElem? (i := 256) (by decide +kernel))) rfl
theorem lkX9_66 : Cond.fieldLink RX9 66 RX9 "risksBelow" "[I" ∈ tbG := tbG_in (tbl_t (List.mem_of_getElem? (i := 257) (by decide +kernel))) rfl
theorem lkX9_72 : Cond.fieldLink RX9 72 RX9 "finds" "LLineWalkers$Finds;" ∈ tbG := tbG_in (tbl_t (List.mem_of_getElem? (i := 258) (by decide +kernel))) rfl
theorem lkX9_79 : Cond.fieldLink RX9 79 RX9 "lines" "LLineWalkers$CarLines;" ∈ tbG := tbG_in (tbl_t (List.mem_of_getElem? (i := 259) (by decide +kernel))) rfl
theorem lkX9_86 : Cond.fieldLink RX9 86 RX9 "gangs" "LLineWalkers$Gangs;" ∈ tbG := tbG_in (tbl_t (List.mem_of_getElem? (i := 260) (by decide +kernel))) rfl
theorem lkX9_93 : Cond.fieldLink RX9 93 RX9 "rails" "LLineWalkers$Rails;" ∈ tbG := tbG_in (tbl_t (List.mem_of_getElem? (i := 261) (by decide +kernel))) rfl
theorem mlL_13 : Cond.methodLink RL 13 yX9_day ∈ tbG := tbG_in (tbl_t (List.mem_of_getElem? (i := 295) (by decide +kernel))) rfl
theorem mlX9_97 : Cond.methodLink RX9 97 yX9_isDay ∈ tbG := tbG_in (tbl_t (List.mem_of_getElem? (i := 299) (by decide +kernel))) rfl
theorem mlX9_101 : Cond.methodLink RX9 101 yX9_refuseAsTold ∈ tbG := tbG_in (tbl_t (List.mem_of_getElem? (i := 302) (by decide +kernel))) rfl
theorem kcX9_317 : Cond.constant RX9 317 (1000000000) ∈ tbG := tbG_in (tbl_t (List.mem_of_getElem? (i := 306) (by decide +kernel))) rfl
theorem mlX9_116 : Cond.methodLink RX9 116 yX9_refuse ∈ tbG := tbG_in (tbl_t (List.mem_of_getElem? (i := 307) (by decide +kernel))) rfl
theorem mlX9_105 : Cond.methodLink RX9 105 yX9_readingsOf ∈ tbG := tbG_in (tbl_t (List.mem_of_getElem? (i := 311) (by decide +kernel))) rfl
theorem mlX9_112 : Cond.methodLink RX9 112 yX5_tell ∈ tbG := tbG_in (tbl_t (List.mem_of_getElem? (i := 315) (by decide +kernel))) rfl
theorem mlL_18 : Cond.methodLink RL 18 yX9_dayOf ∈ tbG := tbG_in (tbl_t (List.mem_of_getElem? (i := 319) (by decide +kernel))) rfl
theorem mlX9_119 : Cond.methodLink RX9 119 yX5_counted ∈ tbG := tbG_in (tbl_t (List.mem_of_getElem? (i := 323) (by decide +kernel))) rfl
theorem mlX5_22 : Cond.methodLink RX5 22 Lib.Math.max.name ∈ tbG := tbG_in (tbl_t (List.mem_of_getElem? (i := 327) (by decide +kernel))) rfl
theorem st_max : Cond.static Lib.Math.max.name ∈ tbG := tbG_in (tbl_t (List.mem_of_getElem? (i := 328) (by decide +kernel))) rfl
theorem cd_max : Cond.code Lib.Math.max.name Lib.Math.max.code 2 (some .int) ∈ tbG := tbG_in (tbl_t (List.mem_of_getElem? (i := 329) (by decide +kernel))) rfl
theorem mlL_23 : Cond.methodLink RL 23 yX9_growth ∈ tbG := tbG_in (tbl_t (List.mem_of_getElem? (i := 330) (by decide +kernel))) rfl
theorem mlX9_122 : Cond.methodLink RX9 122 yX9_isKind ∈ tbG := tbG_in (tbl_t (List.mem_of_getElem? (i := 334) (by decide +kernel))) rfl
theorem mlL_27 : Cond.methodLink RL 27 yX9_defect ∈ tbG := tbG_in (tbl_t (List.mem_of_getElem? (i := 337) (by decide +kernel))) rfl
theorem mlX9_125 : Cond.methodLink RX9 125 yX9_isMile ∈ tbG := tbG_in (tbl_t (List.mem_of_getElem? (i := 341) (by decide +kernel))) rfl
theorem mlX9_134 : Cond.methodLink RX9 134 yX1_add ∈ tbG := tbG_in (tbl_t (List.mem_of_getElem? (i := 344) (by decide +kernel))) rfl
theorem mlX9_138 : Cond.methodLink RX9 138 yX1_cutSpan ∈ tbG := tbG_in (tbl_t (List.mem_of_getElem? (i := 348) (by decide +kernel))) rfl
theorem mlX1_50 : Cond.methodLink RX1 50 Lib.Math.max.name ∈ tbG := tbG_in (tbl_t (List.mem_of_getElem? (i := 352) (by decide +kernel))) rfl
theorem mlX1_56 : Cond.methodLink RX1 56 Lib.Math.min.name ∈ tbG := tbG_in (tbl_t (List.mem_of_getElem? (i := 353) (by decide +kernel))) rfl
theorem st_min : Cond.static Lib.Math.min.name ∈ tbG := tbG_in (tbl_t (List.mem_of_getElem? (i := 354) (by decide +kernel))) rfl
theorem cd_min : Cond.code Lib.Math.min.name Lib.Math.min.code 2 (some .int) ∈ tbG := tbG_in (tbl_t (List.mem_of_getElem? (i := 355) (by decide +kernel))) rfl
theorem mlX9_142 : Cond.methodLink RX9 142 yX9_ruleFor ∈ tbG := tbG_in (tbl_t (List.mem_of_getElem? (i := 356) (by decide +kernel))) rfl
theorem mlX9_321 : Cond.methodLink RX9 321 yX6_inForce ∈ tbG := tbG_in (tbl_t (List.mem_of_getElem? (i := 360) (by decide +kernel))) rfl
theorem mlX6_31 : Cond.methodLink RX6 31 yX6_goesBefore ∈ tbG := tbG_in (tbl_t (List.mem_of_getElem? (i := 364) (by decide +kernel))) rfl
theorem mlX9_145 : Cond.methodLink RX9 145 yX1_note ∈ tbG := tbG_in (tbl_t (List.mem_of_getElem? (i := 368) (by decide +kernel))) rfl
theorem mlX9_149 : Cond.methodLink RX9 149 yX4_addCrack ∈ tbG := tbG_in (tbl_t (List.mem_of_getElem? (i := 372) (by decide +kernel))) rfl
theorem mlL_32 : Cond.methodLink RL 32 yX9_look ∈ tbG := tbG_in (tbl_t (List.mem_of_getElem? (i := 376) (by decide +kernel))) rfl
theorem mlX9_153 : Cond.methodLink RX9 153 yX9_refusalOfOpenDefect ∈ tbG := tbG_in (tbl_t (List.mem_of_getElem? (i := 380) (by decide +kernel))) rfl
theorem mlX9_156 : Cond.methodLink RX9 156 yX9_isDefect ∈ tbG := tbG_in (tbl_t (List.mem_of_getElem? (i := 384) (by decide +kernel))) rfl
theorem mlL_36 : Cond.methodLink RL 36 yX9_span ∈ tbG := tbG_in (tbl_t (List.mem_of_getElem? (i := 388) (by decide +kernel))) rfl
theorem mlL_40 : Cond.methodLink RL 40 yX9_rule ∈ tbG := tbG_in (tbl_t (List.mem_of_getElem? (i := 392) (by decide +kernel))) rfl
theorem mlX9_170 : Cond.methodLink RX9 170 yX6_add ∈ tbG := tbG_in (tbl_t (List.mem_of_getElem? (i := 396) (by decide +kernel))) rfl
theorem mlL_45 : Cond.methodLink RL 45 yX9_force ∈ tbG := tbG_in (tbl_t (List.mem_of_getElem? (i := 400) (by decide +kernel))) rfl
theorem mlL_50 : Cond.methodLink RL 50 yX9_due ∈ tbG := tbG_in (tbl_t (List.mem_of_getElem? (i := 404) (by decide +kernel))) rfl
theorem mlX9_173 : Cond.methodLink RX9 173 yX9_dueDay ∈ tbG := tbG_in (tbl_t (List.mem_of_getElem? (i := 408) (by decide +kernel))) rfl
theorem mlL_54 : Cond.methodLink RL 54 yX9_overdue ∈ tbG := tbG_in (tbl_t (List.mem_of_getElem? (i := 412) (by decide +kernel))) rfl
theorem mlX9_176 : Cond.methodLink RX9 176 yX9_isOverdue ∈ tbG := tbG_in (tbl_t (List.mem_of_getElem? (i := 416) (by decide +kernel))) rfl
theorem mlL_59 : Cond.methodLink RL 59 yX9_close ∈ tbG := tbG_in (tbl_t (List.mem_of_getElem? (i := 420) (by decide +kernel))) rfl
theorem mlX9_182 : Cond.methodLink RX9 182 yX4_lay ∈ tbG := tbG_in (tbl_t (List.mem_of_getElem? (i := 424) (by decide +kernel))) rfl
theorem mlL_63 : Cond.methodLink RL 63 yX9_slow ∈ tbG := tbG_in (tbl_t (List.mem_of_getElem? (i := 428) (by decide +kernel))) rfl
theorem mlX9_185 : Cond.methodLink RX9 185 yX7_standsOn ∈ tbG := tbG_in (tbl_t (List.mem_of_getElem? (i := 432) (by decide +kernel))) rfl
theorem mlL_67 : Cond.methodLink RL 67 yX9_lift ∈ tbG := tbG_in (tbl_t (List.mem_of_getElem? (i := 436) (by decide +kernel))) rfl
theorem mlX9_191 : Cond.methodLink RX9 191 yX9_needsAct ∈ tbG := tbG_in (tbl_t (List.mem_of_getElem? (i := 440) (by decide +kernel))) rfl
theorem mlX9_194 : Cond.methodLink RX9 194 yX9_heatOf ∈ tbG := tbG_in (tbl_t (List.mem_of_getElem? (i := 444) (by decide +kernel))) rfl
theorem mlX9_339 : Cond.methodLink RX9 339 Lib.Math.abs.name ∈ tbG := tbG_in (tbl_t (List.mem_of_getElem? (i := 448) (by decide +kernel))) rfl
theorem st_abs : Cond.static Lib.Math.abs.name ∈ tbG := tbG_in (tbl_t (List.mem_of_getElem? (i := 449) (by decide +kernel))) rfl
theorem cd_abs : Cond.code Lib.Math.abs.name Lib.Math.abs.code 1 (some .int) ∈ tbG := tbG_in (tbl_t (List.mem_of_getElem? (i := 450) (by decide +kernel))) rfl
theorem mlL_71 : Cond.methodLink RL 71 yX9_lost ∈ tbG := tbG_in (tbl_t (List.mem_of_getElem? (i := 451) (by decide +kernel))) rfl
theorem mlL_75 : Cond.methodLink RL 75 yX9_set ∈ tbG := tbG_in (tbl_t (List.mem_of_getElem? (i := 455) (by decide +kernel))) rfl
theorem lkX9_200 : Cond.fieldLink RX9 200 RX9 "LEAST_SETTINGS" "[I" ∈ tbG := tbG_in (tbl_t (List.mem_of_getElem? (i := 459) (by decide +kernel))) rfl
theorem lkX9_203 : Cond.fieldLink RX9 203 RX9 "MOST_SETTINGS" "[I" ∈ tbG := tbG_in (tbl_t (List.mem_of_getElem? (i := 461) (by decide +kernel))) rfl
theorem mlL_79 : Cond.methodLink RL 79 yX9_days ∈ tbG := tbG_in (tbl_t (List.mem_of_getElem? (i := 463) (by decide +kernel))) rfl
theorem mlX9_206 : Cond.methodLink RX9 206 yX9_passDay ∈ tbG := tbG_in (tbl_t (List.mem_of_getElem? (i := 467) (by decide +kernel))) rfl
theorem mlX9_344 : Cond.methodLink RX9 344 yX1_grow ∈ tbG := tbG_in (tbl_t (List.mem_of_getElem? (i := 471) (by decide +kernel))) rfl
theorem mlX1_59 : Cond.methodLink RX1 59 yX1_mostGrowth ∈ tbG := tbG_in (tbl_t (List.mem_of_getElem? (i := 475) (by decide +kernel))) rfl
theorem mlX9_348 : Cond.methodLink RX9 348 yX7_passDay ∈ tbG := tbG_in (tbl_t (List.mem_of_getElem? (i := 478) (by decide +kernel))) rfl
theorem mlL_83 : Cond.methodLink RL 83 yX9_train ∈ tbG := tbG_in (tbl_t (List.mem_of_getElem? (i := 482) (by decide +kernel))) rfl
theorem mlX9_210 : Cond.methodLink RX9 210 yX8_add ∈ tbG := tbG_in (tbl_t (List.mem_of_getElem? (i := 486) (by decide +kernel))) rfl
theorem mlL_87 : Cond.methodLink RL 87 yX9_safe ∈ tbG := tbG_in (tbl_t (List.mem_of_getElem? (i := 490) (by decide +kernel))) rfl
theorem mlX9_212 : Cond.methodLink RX9 212 yX9_refusalOfWalk ∈ tbG := tbG_in (tbl_t (List.mem_of_getElem? (i := 494) (by decide +kernel))) rfl
theorem mlX9_222 : Cond.methodLink RX9 222 yX9_isRange ∈ tbG := tbG_in (tbl_t (List.mem_of_getElem? (i := 497) (by decide +kernel))) rfl
theorem mlX9_216 : Cond.methodLink RX9 216 yX8_clearFrom ∈ tbG := tbG_in (tbl_t (List.mem_of_getElem? (i := 500) (by decide +kernel))) rfl
theorem mlX8_22 : Cond.methodLink RX8 22 Lib.Math.max.name ∈ tbG := tbG_in (tbl_t (List.mem_of_getElem? (i := 504) (by decide +kernel))) rfl
theorem mlL_91 : Cond.methodLink RL 91 yX9_first ∈ tbG := tbG_in (tbl_t (List.mem_of_getElem? (i := 505) (by decide +kernel))) rfl
theorem mlX9_219 : Cond.methodLink RX9 219 yX8_firstSafe ∈ tbG := tbG_in (tbl_t (List.mem_of_getElem? (i := 509) (by decide +kernel))) rfl
theorem mlX8_28 : Cond.methodLink RX8 28 yX8_clearFrom ∈ tbG := tbG_in (tbl_t (List.mem_of_getElem? (i := 513) (by decide +kernel))) rfl
theorem mlL_95 : Cond.methodLink RL 95 yX9_walked ∈ tbG := tbG_in (tbl_t (List.mem_of_getElem? (i := 514) (by decide +kernel))) rfl
theorem mlL_99 : Cond.methodLink RL 99 yX9_risk ∈ tbG := tbG_in (tbl_t (List.mem_of_getElem? (i := 518) (by decide +kernel))) rfl
theorem mlX9_226 : Cond.methodLink RX9 226 yX9_riskOf ∈ tbG := tbG_in (tbl_t (List.mem_of_getElem? (i := 522) (by decide +kernel))) rfl
theorem mlX9_350 : Cond.methodLink RX9 350 yX1_countOpenIn ∈ tbG := tbG_in (tbl_t (List.mem_of_getElem? (i := 526) (by decide +kernel))) rfl
theorem mlL_103 : Cond.methodLink RL 103 yX9_walks ∈ tbG := tbG_in (tbl_t (List.mem_of_getElem? (i := 530) (by decide +kernel))) rfl
theorem mlX9_229 : Cond.methodLink RX9 229 yX9_addUpRisks ∈ tbG := tbG_in (tbl_t (List.mem_of_getElem? (i := 534) (by decide +kernel))) rfl
theorem mlX9_232 : Cond.methodLink RX9 232 yX9_riskOfRange ∈ tbG := tbG_in (tbl_t (List.mem_of_getElem? (i := 538) (by decide +kernel))) rfl
theorem mlL_107 : Cond.methodLink RL 107 yX9_doubles ∈ tbG := tbG_in (tbl_t (List.mem_of_getElem? (i := 542) (by decide +kernel))) rfl
theorem mlX9_235 : Cond.methodLink RX9 235 yX2_hasRoom ∈ tbG := tbG_in (tbl_t (List.mem_of_getElem? (i := 546) (by decide +kernel))) rfl
theorem mlX9_239 : Cond.methodLink RX9 239 yX2_add ∈ tbG := tbG_in (tbl_t (List.mem_of_getElem? (i := 550) (by decide +kernel))) rfl
theorem mlL_112 : Cond.methodLink RL 112 yX9_eyes ∈ tbG := tbG_in (tbl_t (List.mem_of_getElem? (i := 554) (by decide +kernel))) rfl
theorem mlX9_242 : Cond.methodLink RX9 242 yX2_estimate ∈ tbG := tbG_in (tbl_t (List.mem_of_getElem? (i := 558) (by decide +kernel))) rfl
theorem mlX9_245 : Cond.methodLink RX9 245 yX2_missed ∈ tbG := tbG_in (tbl_t (List.mem_of_getElem? (i := 562) (by decide +kernel))) rfl
theorem mlX2_21 : Cond.methodLink RX2 21 yX2_estimate ∈ tbG := tbG_in (tbl_t (List.mem_of_getElem? (i := 566) (by decide +kernel))) rfl
theorem mlL_116 : Cond.methodLink RL 116 yX9_line ∈ tbG := tbG_in (tbl_t (List.mem_of_getElem? (i := 567) (by decide +kernel))) rfl
theorem mlX9_249 : Cond.methodLink RX9 249 yX0_add ∈ tbG := tbG_in (tbl_t (List.mem_of_getElem? (i := 571) (by decide +kernel))) rfl
theorem mlL_120 : Cond.methodLink RL 120 yX9_join ∈ tbG := tbG_in (tbl_t (List.mem_of_getElem? (i := 575) (by decide +kernel))) rfl
theorem mlX9_251 : Cond.methodLink RX9 251 yX0_bestJoining ∈ tbG := tbG_in (tbl_t (List.mem_of_getElem? (i := 579) (by decide +kernel))) rfl
theorem kcX0_32 : Cond.constantLong RX0 32 (1152921504606846976) ∈ tbG := tbG_in (tbl_t (List.mem_of_getElem? (i := 583) (by decide +kernel))) rfl
theorem mlX0_41 : Cond.methodLink RX0 41 yX0_weighPairs ∈ tbG := tbG_in (tbl_t (List.mem_of_getElem? (i := 584) (by decide +kernel))) rfl
theorem mlX0_60 : Cond.methodLink RX0 60 Lib.Math.abs.name ∈ tbG := tbG_in (tbl_t (List.mem_of_getElem? (i := 588) (by decide +kernel))) rfl
theorem kcX0_66 : Cond.constantLong RX0 66 (815730721) ∈ tbG := tbG_in (tbl_t (List.mem_of_getElem? (i := 589) (by decide +kernel))) rfl
theorem lkX0_68 : Cond.fieldLink RX0 68 RX0 "DIGITS" "[J" ∈ tbG := tbG_in (tbl_t (List.mem_of_getElem? (i := 590) (by decide +kernel))) rfl
theorem mlX0_45 : Cond.methodLink RX0 45 yX0_offerDefect ∈ tbG := tbG_in (tbl_t (List.mem_of_getElem? (i := 592) (by decide +kernel))) rfl
theorem mlX0_53 : Cond.methodLink RX0 53 Lib.MathLoose.min_long.x ∈ tbG := tbG_in (tbl_t (List.mem_of_getElem? (i := 596) (by decide +kernel))) rfl
theorem st_minL : Cond.static Lib.MathLoose.min_long.x ∈ tbG := tbG_in (tbl_t (List.mem_of_getElem? (i := 597) (by decide +kernel))) rfl
theorem cd_minL : Cond.code Lib.MathLoose.min_long.x Lib.MathLoose.min_long.code 4 (some .long) ∈ tbG := tbG_in (tbl_t (List.mem_of_getElem? (i := 598) (by decide +kernel))) rfl
theorem mlX0_49 : Cond.methodLink RX0 49 yX0_weightOfRest ∈ tbG := tbG_in (tbl_t (List.mem_of_getElem? (i := 599) (by decide +kernel))) rfl
theorem kcX0_71 : Cond.constantLong RX0 71 (1631461442000) ∈ tbG := tbG_in (tbl_t (List.mem_of_getElem? (i := 603) (by decide +kernel))) rfl
theorem kcX0_73 : Cond.constantLong RX0 73 (12) ∈ tbG := tbG_in (tbl_t (List.mem_of_getElem? (i := 604) (by decide +kernel))) rfl
theorem mlX9_255 : Cond.methodLink RX9 255 yX0_joinedIn ∈ tbG := tbG_in (tbl_t (List.mem_of_getElem? (i := 605) (by decide +kernel))) rfl
theorem mlX9_259 : Cond.methodLink RX9 259 yX0_yardsIn ∈ tbG := tbG_in (tbl_t (List.mem_of_getElem? (i := 609) (by decide +kernel))) rfl
theorem mlL_124 : Cond.methodLink RL 124 yX9_joined ∈ tbG := tbG_in (tbl_t (List.mem_of_getElem? (i := 612) (by decide +kernel))) rfl
theorem mlX9_262 : Cond.methodLink RX9 262 yX0_choiceIn ∈ tbG := tbG_in (tbl_t (List.mem_of_getElem? (i := 616) (by decide +kernel))) rfl
theorem kcX0_75 : Cond.constantLong RX0 75 (13) ∈ tbG := tbG_in (tbl_t (List.mem_of_getElem? (i := 619) (by decide +kernel))) rfl
theorem mlX9_266 : Cond.methodLink RX9 266 yX1_openOne ∈ tbG := tbG_in (tbl_t (List.mem_of_getElem? (i := 620) (by decide +kernel))) rfl
theorem mlL_128 : Cond.methodLink RL 128 yX9_job ∈ tbG := tbG_in (tbl_t (List.mem_of_getElem? (i := 624) (by decide +kernel))) rfl
theorem mlX9_272 : Cond.methodLink RX9 272 yX3_add ∈ tbG := tbG_in (tbl_t (List.mem_of_getElem? (i := 628) (by decide +kernel))) rfl
theorem mlL_132 : Cond.methodLink RL 132 yX9_gang ∈ tbG := tbG_in (tbl_t (List.mem_of_getElem? (i := 632) (by decide +kernel))) rfl
theorem mlL_136 : Cond.methodLink RL 136 yX9_plan ∈ tbG := tbG_in (tbl_t (List.mem_of_getElem? (i := 636) (by decide +kernel))) rfl
theorem mlX9_276 : Cond.methodLink RX9 276 yX3_bestPlan ∈ tbG := tbG_in (tbl_t (List.mem_of_getElem? (i := 640) (by decide +kernel))) rfl
theorem mlX3_31 : Cond.methodLink RX3 31 yX3_hasTools ∈ tbG := tbG_in (tbl_t (List.mem_of_getElem? (i := 644) (by decide +kernel))) rfl
theorem mlX3_45 : Cond.methodLink RX3 45 yX3_gangIn ∈ tbG := tbG_in (tbl_t (List.mem_of_getElem? (i := 648) (by decide +kernel))) rfl
theorem mlX3_35 : Cond.methodLink RX3 35 yX3_weigh ∈ tbG := tbG_in (tbl_t (List.mem_of_getElem? (i := 652) (by decide +kernel))) rfl
theorem mlX3_48 : Cond.methodLink RX3 48 Lib.Math.max.name ∈ tbG := tbG_in (tbl_t (List.mem_of_getElem? (i := 656) (by decide +kernel))) rfl
theorem mlX3_39 : Cond.methodLink RX3 39 Lib.Math.min.name ∈ tbG := tbG_in (tbl_t (List.mem_of_getElem? (i := 657) (by decide +kernel))) rfl
theorem mlX9_280 : Cond.methodLink RX9 280 yX3_worstIn ∈ tbG := tbG_in (tbl_t (List.mem_of_getElem? (i := 658) (by decide +kernel))) rfl
theorem mlX9_283 : Cond.methodLink RX9 283 yX3_togetherIn ∈ tbG := tbG_in (tbl_t (List.mem_of_getElem? (i := 661) (by decide +kernel))) rfl
theorem mlL_140 : Cond.methodLink RL 140 yX9_gangOf ∈ tbG := tbG_in (tbl_t (List.mem_of_getElem? (i := 664) (by decide +kernel))) rfl
theorem mlX9_286 : Cond.methodLink RX9 286 yX3_wayIn ∈ tbG := tbG_in (tbl_t (List.mem_of_getElem? (i := 668) (by decide +kernel))) rfl
theorem mlX9_289 : Cond.methodLink RX9 289 yX3_gangIn ∈ tbG := tbG_in (tbl_t (List.mem_of_getElem? (i := 671) (by decide +kernel))) rfl
theorem mlL_144 : Cond.methodLink RL 144 yX9_rail ∈ tbG := tbG_in (tbl_t (List.mem_of_getElem? (i := 672) (by decide +kernel))) rfl
theorem mlX9_292 : Cond.methodLink RX9 292 yX4_giveLot ∈ tbG := tbG_in (tbl_t (List.mem_of_getElem? (i := 676) (by decide +kernel))) rfl
theorem mlL_148 : Cond.methodLink RL 148 yX9_heat ∈ tbG := tbG_in (tbl_t (List.mem_of_getElem? (i := 680) (by decide +kernel))) rfl
theorem mlL_152 : Cond.methodLink RL 152 yX9_lot ∈ tbG := tbG_in (tbl_t (List.mem_of_getElem? (i := 684) (by decide +kernel))) rfl
theorem mlX9_298 : Cond.methodLink RX9 298 yX4_milesWith ∈ tbG := tbG_in (tbl_t (List.mem_of_getElem? (i := 688) (by decide +kernel))) rfl
theorem mlL_156 : Cond.methodLink RL 156 yX9_worst ∈ tbG := tbG_in (tbl_t (List.mem_of_getElem? (i := 692) (by decide +kernel))) rfl
theorem mlX9_301 : Cond.methodLink RX9 301 yX4_worstLot ∈ tbG := tbG_in (tbl_t (List.mem_of_getElem? (i := 696) (by decide +kernel))) rfl
theorem mlX4_21 : Cond.methodLink RX4 21 yX4_milesWith ∈ tbG := tbG_in (tbl_t (List.mem_of_getElem? (i := 700) (by decide +kernel))) rfl
theorem mlL_160 : Cond.methodLink RL 160 yX9_sure ∈ tbG := tbG_in (tbl_t (List.mem_of_getElem? (i := 701) (by decide +kernel))) rfl
theorem mlX9_304 : Cond.methodLink RX9 304 yX4_isWorstBeyondDoubt ∈ tbG := tbG_in (tbl_t (List.mem_of_getElem? (i := 705) (by decide +kernel))) rfl
theorem mlX4_25 : Cond.methodLink RX4 25 yX4_worstLot ∈ tbG := tbG_in (tbl_t (List.mem_of_getElem? (i := 709) (by decide +kernel))) rfl
theorem mlL_164 : Cond.methodLink RL 164 yX9_count ∈ tbG := tbG_in (tbl_t (List.mem_of_getElem? (i := 710) (by decide +kernel))) rfl
theorem mlX9_308 : Cond.methodLink RX9 308 yX1_countOpen ∈ tbG := tbG_in (tbl_t (List.mem_of_getElem? (i := 714) (by decide +kernel))) rfl
theorem mlX9_314 : Cond.methodLink RX9 314 yX7_countStanding ∈ tbG := tbG_in (tbl_t (List.mem_of_getElem? (i := 718) (by decide +kernel))) rfl
theorem mlX7_19 : Cond.methodLink RX7 19 yX7_standsOn ∈ tbG := tbG_in (tbl_t (List.mem_of_getElem? (i := 722) (by decide +kernel))) rfl
theorem mlL_12 : Cond.methodLink RL 12 yX10_init ∈ tbG := tbG_in (tbl_t (List.mem_of_getElem? (i := 725) (by decide +kernel))) rfl
theorem mlX10_1 : Cond.methodLink RX10 1 objectInit ∈ tbG := tbG_in (tbl_t (List.mem_of_getElem? (i := 728) (by decide +kernel))) rfl
theorem kcX10_135 : Cond.constant RX10 135 (36864) ∈ tbG := tbG_in (tbl_t (List.mem_of_getElem? (i := 729) (by decide +kernel))) rfl
theorem lkX10_7 : Cond.fieldLink RX10 7 RX10 "refusals" "[I" ∈ tbG := tbG_in (tbl_t (List.mem_of_getElem? (i := 730) (by decide +kernel))) rfl
theorem lkX10_13 : Cond.fieldLink RX10 13 RX10 "tons" "[I" ∈ tbG := tbG_in (tbl_t (List.mem_of_getElem? (i := 731) (by decide +kernel))) rfl
theorem lkX10_16 : Cond.fieldLink RX10 16 RX10 "colds" "[I" ∈ tbG := tbG_in (tbl_t (List.mem_of_getElem? (i := 732) (by decide +kernel))) rfl
theorem lkX10_19 : Cond.fieldLink RX10 19 RX10 "growths" "[I" ∈ tbG := tbG_in (tbl_t (List.mem_of_getElem? (i := 733) (by decide +kernel))) rfl
theorem lkX10_157 : Cond.fieldLink RX10 157 RX10 "day" "I" ∈ tbG := tbG_in (tbl_t (List.mem_of_getElem? (i := 734) (by decide +kernel))) rfl
theorem lkX10_176 : Cond.fieldLink RX10 176 RX10 "defects" "I" ∈ tbG := tbG_in (tbl_t (List.mem_of_getElem? (i := 735) (by decide +kernel))) rfl
theorem lkX10_183 : Cond.fieldLink RX10 183 RX10 "looks" "I" ∈ tbG := tbG_in (tbl_t (List.mem_of_getElem? (i := 736) (by decide +kernel))) rfl
theorem lkX10_197 : Cond.fieldLink RX10 197 RX10 "quarrels" "I" ∈ tbG := tbG_in (tbl_t (List.mem_of_getElem? (i := 737) (by decide +kernel))) rfl
theorem lkX10_203 : Cond.fieldLink RX10 203 RX10 "rules" "I" ∈ tbG := tbG_in (tbl_t (List.mem_of_getElem? (i := 738) (by decide +kernel))) rfl
theorem lkX10_218 : Cond.fieldLink RX10 218 RX10 "lost" "I" ∈ tbG := tbG_in (tbl_t (List.mem_of_getElem? (i := 739) (by decide +kernel))) rfl
theorem lkX10_224 : Cond.fieldLink RX10 224 RX10 "trains" "I" ∈ tbG := tbG_in (tbl_t (List.mem_of_getElem? (i := 740) (by decide +kernel))) rfl
theorem lkX10_239 : Cond.fieldLink RX10 239 RX10 "lines" "I" ∈ tbG := tbG_in (tbl_t (List.mem_of_getElem? (i := 741) (by decide +kernel))) rfl
theorem lkX10_252 : Cond.fieldLink RX10 252 RX10 "jobs" "I" ∈ tbG := tbG_in (tbl_t (List.mem_of_getElem? (i := 742) (by decide +kernel))) rfl
theorem lkX10_22 : Cond.fieldLink RX10 22 RX10 "perDay" "I" ∈ tbG := tbG_in (tbl_t (List.mem_of_getElem? (i := 743) (by decide +kernel))) rfl
theorem lkX10_26 : Cond.fieldLink RX10 26 RX10 "step" "I" ∈ tbG := tbG_in (tbl_t (List.mem_of_getElem? (i := 744) (by decide +kernel))) rfl
theorem lkX10_29 : Cond.fieldLink RX10 29 RX10 "off" "I" ∈ tbG := tbG_in (tbl_t (List.mem_of_getElem? (i := 745) (by decide +kernel))) rfl
theorem lkX10_32 : Cond.fieldLink RX10 32 RX10 "warmth" "I" ∈ tbG := tbG_in (tbl_t (List.mem_of_getElem? (i := 746) (by decide +kernel))) rfl
theorem lkX10_35 : Cond.fieldLink RX10 35 RX10 "mile" "[I" ∈ tbG := tbG_in (tbl_t (List.mem_of_getElem? (i := 747) (by decide +kernel))) rfl
theorem lkX10_38 : Cond.fieldLink RX10 38 RX10 "yard" "[I" ∈ tbG := tbG_in (tbl_t (List.mem_of_getElem? (i := 748) (by decide +kernel))) rfl
theorem lkX10_41 : Cond.fieldLink RX10 41 RX10 "side" "[I" ∈ tbG := tbG_in (tbl_t (List.mem_of_getElem? (i := 749) (by decide +kernel))) rfl
theorem lkX10_44 : Cond.fieldLink RX10 44 RX10 "kind" "[I" ∈ tbG := tbG_in (tbl_t (List.mem_of_getElem? (i := 750) (by decide +kernel))) rfl
theorem lkX10_47 : Cond.fieldLink RX10 47 RX10 "lotThen" "[I" ∈ tbG := tbG_in (tbl_t (List.mem_of_getElem? (i := 751) (by decide +kernel))) rfl
theorem lkX10_50 : Cond.fieldLink RX10 50 RX10 "least" "[I" ∈ tbG := tbG_in (tbl_t (List.mem_of_getElem? (i := 752) (by decide +kernel))) rfl
theorem lkX10_53 : Cond.fieldLink RX10 53 RX10 "most" "[I" ∈ tbG := tbG_in (tbl_t (List.mem_of_getElem? (i := 753) (by decide +kernel))) rfl
theorem lkX10_56 : Cond.fieldLink RX10 56 RX10 "isOpen" "[Z" ∈ tbG := tbG_in (tbl_t (List.mem_of_getElem? (i := 754) (by decide +kernel))) rfl
theorem lkX10_60 : Cond.fieldLink RX10 60 RX10 "lookAt" "[I" ∈ tbG := tbG_in (tbl_t (List.mem_of_getElem? (i := 755) (by decide +kernel))) rfl
theorem lkX10_63 : Cond.fieldLink RX10 63 RX10 "lookDay" "[I" ∈ tbG := tbG_in (tbl_t (List.mem_of_getElem? (i := 756) (by decide +kernel))) rfl
theorem lkX10_66 : Cond.fieldLink RX10 66 RX10 "noted" "[I" ∈ tbG := tbG_in (tbl_t (List.mem_of_getElem? (i := 757) (by decide +kernel))) rfl
theorem lkX10_69 : Cond.fieldLink RX10 69 RX10 "ruleKind" "[I" ∈ tbG := tbG_in (tbl_t (List.mem_of_getElem? (i := 758) (by decide +kernel))) rfl
theorem lkX10_72 : Cond.fieldLink RX10 72 RX10 "ruleSize" "[I" ∈ tbG := tbG_in (tbl_t (List.mem_of_getElem? (i := 759) (by decide +kernel))) rfl
theorem lkX10_75 : Cond.fieldLink RX10 75 RX10 "ruleDay" "[I" ∈ tbG := tbG_in (tbl_t (List.mem_of_getElem? (i := 760) (by decide +kernel))) rfl
theorem lkX10_78 : Cond.fieldLink RX10 78 RX10 "act" "[I" ∈ tbG := tbG_in (tbl_t (List.mem_of_getElem? (i := 761) (by decide +kernel))) rfl
theorem lkX10_81 : Cond.fieldLink RX10 81 RX10 "within" "[I" ∈ tbG := tbG_in (tbl_t (List.mem_of_getElem? (i := 762) (by decide +kernel))) rfl
theorem lkX10_84 : Cond.fieldLink RX10 84 RX10 "slow" "[I" ∈ tbG := tbG_in (tbl_t (List.mem_of_getElem? (i := 763) (by decide +kernel))) rfl
theorem lkX10_87 : Cond.fieldLink RX10 87 RX10 "walked" "[I" ∈ tbG := tbG_in (tbl_t (List.mem_of_getElem? (i := 764) (by decide +kernel))) rfl
theorem lkX10_90 : Cond.fieldLink RX10 90 RX10 "one" "[I" ∈ tbG := tbG_in (tbl_t (List.mem_of_getElem? (i := 765) (by decide +kernel))) rfl
theorem lkX10_93 : Cond.fieldLink RX10 93 RX10 "two" "[I" ∈ tbG := tbG_in (tbl_t (List.mem_of_getElem? (i := 766) (by decide +kernel))) rfl
theorem lkX10_96 : Cond.fieldLink RX10 96 RX10 "both" "[I" ∈ tbG := tbG_in (tbl_t (List.mem_of_getElem? (i := 767) (by decide +kernel))) rfl
theorem lkX10_99 : Cond.fieldLink RX10 99 RX10 "laid" "[I" ∈ tbG := tbG_in (tbl_t (List.mem_of_getElem? (i := 768) (by decide +kernel))) rfl
theorem lkX10_102 : Cond.fieldLink RX10 102 RX10 "lots" "[I" ∈ tbG := tbG_in (tbl_t (List.mem_of_getElem? (i := 769) (by decide +kernel))) rfl
theorem lkX10_105 : Cond.fieldLink RX10 105 RX10 "start" "[I" ∈ tbG := tbG_in (tbl_t (List.mem_of_getElem? (i := 770) (by decide +kernel))) rfl
theorem lkX10_108 : Cond.fieldLink RX10 108 RX10 "pace" "[I" ∈ tbG := tbG_in (tbl_t (List.mem_of_getElem? (i := 771) (by decide +kernel))) rfl
theorem lkX10_111 : Cond.fieldLink RX10 111 RX10 "lineMile" "[I" ∈ tbG := tbG_in (tbl_t (List.mem_of_getElem? (i := 772) (by decide +kernel))) rfl
theorem lkX10_114 : Cond.fieldLink RX10 114 RX10 "lineYard" "[I" ∈ tbG := tbG_in (tbl_t (List.mem_of_getElem? (i := 773) (by decide +kernel))) rfl
theorem lkX10_117 : Cond.fieldLink RX10 117 RX10 "lineSide" "[I" ∈ tbG := tbG_in (tbl_t (List.mem_of_getElem? (i := 774) (by decide +kernel))) rfl
theorem lkX10_120 : Cond.fieldLink RX10 120 RX10 "hours" "[I" ∈ tbG := tbG_in (tbl_t (List.mem_of_getElem? (i := 775) (by decide +kernel))) rfl
theorem lkX10_123 : Cond.fieldLink RX10 123 RX10 "dues" "[I" ∈ tbG := tbG_in (tbl_t (List.mem_of_getElem? (i := 776) (by decide +kernel))) rfl
theorem lkX10_126 : Cond.fieldLink RX10 126 RX10 "tools" "[I" ∈ tbG := tbG_in (tbl_t (List.mem_of_getElem? (i := 777) (by decide +kernel))) rfl
theorem lkX10_129 : Cond.fieldLink RX10 129 RX10 "gangs" "[I" ∈ tbG := tbG_in (tbl_t (List.mem_of_getElem? (i := 778) (by decide +kernel))) rfl
theorem lkX10_132 : Cond.fieldLink RX10 132 RX10 "some" "[I" ∈ tbG := tbG_in (tbl_t (List.mem_of_getElem? (i := 779) (by decide +kernel))) rfl
theorem lkX10_136 : Cond.fieldLink RX10 136 RX10 "yards" "[I" ∈ tbG := tbG_in (tbl_t (List.mem_of_getElem? (i := 780) (by decide +kernel))) rfl
theorem lkX10_139 : Cond.fieldLink RX10 139 RX10 "toWhich" "[I" ∈ tbG := tbG_in (tbl_t (List.mem_of_getElem? (i := 781) (by decide +kernel))) rfl
theorem lkX10_242 : Cond.fieldLink RX10 242 RX10 "many" "I" ∈ tbG := tbG_in (tbl_t (List.mem_of_getElem? (i := 782) (by decide +kernel))) rfl
theorem lkX10_142 : Cond.fieldLink RX10 142 RX10 "order" "[I" ∈ tbG := tbG_in (tbl_t (List.mem_of_getElem? (i := 783) (by decide +kernel))) rfl
theorem lkX10_145 : Cond.fieldLink RX10 145 RX10 "busy" "[I" ∈ tbG := tbG_in (tbl_t (List.mem_of_getElem? (i := 784) (by decide +kernel))) rfl
theorem lkX10_255 : Cond.fieldLink RX10 255 RX10 "bestWay" "I" ∈ tbG := tbG_in (tbl_t (List.mem_of_getElem? (i := 785) (by decide +kernel))) rfl
theorem lkX10_265 : Cond.fieldLink RX10 265 RX10 "bestMost" "I" ∈ tbG := tbG_in (tbl_t (List.mem_of_getElem? (i := 786) (by decide +kernel))) rfl
theorem lkX10_268 : Cond.fieldLink RX10 268 RX10 "bestSum" "I" ∈ tbG := tbG_in (tbl_t (List.mem_of_getElem? (i := 787) (by decide +kernel))) rfl
theorem mlL_17 : Cond.methodLink RL 17 yX10_day ∈ tbG := tbG_in (tbl_t (List.mem_of_getElem? (i := 905) (by decide +kernel))) rfl
theorem mlX10_153 : Cond.methodLink RX10 153 yX10_isIn ∈ tbG := tbG_in (tbl_t (List.mem_of_getElem? (i := 909) (by decide +kernel))) rfl
theorem mlX10_160 : Cond.methodLink RX10 160 yX10_wrong ∈ tbG := tbG_in (tbl_t (List.mem_of_getElem? (i := 912) (by decide +kernel))) rfl
theorem mlX10_164 : Cond.methodLink RX10 164 yX10_refuseFar ∈ tbG := tbG_in (tbl_t (List.mem_of_getElem? (i := 915) (by decide +kernel))) rfl
theorem kcX10_148 : Cond.constant RX10 148 (1000000000) ∈ tbG := tbG_in (tbl_t (List.mem_of_getElem? (i := 919) (by decide +kernel))) rfl
theorem mlX10_149 : Cond.methodLink RX10 149 yX10_refuse ∈ tbG := tbG_in (tbl_t (List.mem_of_getElem? (i := 920) (by decide +kernel))) rfl
theorem mlL_22 : Cond.methodLink RL 22 yX10_dayOf ∈ tbG := tbG_in (tbl_t (List.mem_of_getElem? (i := 924) (by decide +kernel))) rfl
theorem mlX10_173 : Cond.methodLink RX10 173 yX10_counts ∈ tbG := tbG_in (tbl_t (List.mem_of_getElem? (i := 928) (by decide +kernel))) rfl
theorem mlX10_167 : Cond.methodLink RX10 167 Lib.Math.max.name ∈ tbG := tbG_in (tbl_t (List.mem_of_getElem? (i := 932) (by decide +kernel))) rfl
theorem mlL_26 : Cond.methodLink RL 26 yX10_growth ∈ tbG := tbG_in (tbl_t (List.mem_of_getElem? (i := 933) (by decide +kernel))) rfl
theorem mlL_31 : Cond.methodLink RL 31 yX10_defect ∈ tbG := tbG_in (tbl_t (List.mem_of_getElem? (i := 937) (by decide +kernel))) rfl
theorem mlX10_179 : Cond.methodLink RX10 179 yX10_isMile ∈ tbG := tbG_in (tbl_t (List.mem_of_getElem? (i := 941) (by decide +kernel))) rfl
theorem kcX10_186 : Cond.constant RX10 186 (10000000) ∈ tbG := tbG_in (tbl_t (List.mem_of_getElem? (i := 944) (by decide +kernel))) rfl
theorem mlX10_187 : Cond.methodLink RX10 187 yX10_looksAt ∈ tbG := tbG_in (tbl_t (List.mem_of_getElem? (i := 945) (by decide +kernel))) rfl
theorem mlX10_191 : Cond.methodLink RX10 191 Lib.Math.min.name ∈ tbG := tbG_in (tbl_t (List.mem_of_getElem? (i := 949) (by decide +kernel))) rfl
theorem mlX10_194 : Cond.methodLink RX10 194 yX10_forceOf ∈ tbG := tbG_in (tbl_t (List.mem_of_getElem? (i := 950) (by decide +kernel))) rfl
theorem mlL_35 : Cond.methodLink RL 35 yX10_look ∈ tbG := tbG_in (tbl_t (List.mem_of_getElem? (i := 954) (by decide +kernel))) rfl
theorem mlX10_200 : Cond.methodLink RX10 200 yX10_isDefect ∈ tbG := tbG_in (tbl_t (List.mem_of_getElem? (i := 958) (by decide +kernel))) rfl
theorem mlL_39 : Cond.methodLink RL 39 yX10_span ∈ tbG := tbG_in (tbl_t (List.mem_of_getElem? (i := 962) (by decide +kernel))) rfl
theorem mlL_44 : Cond.methodLink RL 44 yX10_rule ∈ tbG := tbG_in (tbl_t (List.mem_of_getElem? (i := 966) (by decide +kernel))) rfl
theorem mlL_49 : Cond.methodLink RL 49 yX10_force ∈ tbG := tbG_in (tbl_t (List.mem_of_getElem? (i := 970) (by decide +kernel))) rfl
theorem mlX10_206 : Cond.methodLink RX10 206 yX10_wrongOpen ∈ tbG := tbG_in (tbl_t (List.mem_of_getElem? (i := 974) (by decide +kernel))) rfl
theorem mlL_53 : Cond.methodLink RL 53 yX10_due ∈ tbG := tbG_in (tbl_t (List.mem_of_getElem? (i := 978) (by decide +kernel))) rfl
theorem mlX10_209 : Cond.methodLink RX10 209 yX10_dueOf ∈ tbG := tbG_in (tbl_t (List.mem_of_getElem? (i := 982) (by decide +kernel))) rfl
theorem mlL_58 : Cond.methodLink RL 58 yX10_overdue ∈ tbG := tbG_in (tbl_t (List.mem_of_getElem? (i := 986) (by decide +kernel))) rfl
theorem mlL_62 : Cond.methodLink RL 62 yX10_close ∈ tbG := tbG_in (tbl_t (List.mem_of_getElem? (i := 990) (by decide +kernel))) rfl
theorem mlL_66 : Cond.methodLink RL 66 yX10_slow ∈ tbG := tbG_in (tbl_t (List.mem_of_getElem? (i := 994) (by decide +kernel))) rfl
theorem mlL_70 : Cond.methodLink RL 70 yX10_lift ∈ tbG := tbG_in (tbl_t (List.mem_of_getElem? (i := 998) (by decide +kernel))) rfl
theorem mlX10_215 : Cond.methodLink RX10 215 yX10_heatOf ∈ tbG := tbG_in (tbl_t (List.mem_of_getElem? (i := 1002) (by decide +kernel))) rfl
theorem mlX10_212 : Cond.methodLink RX10 212 Lib.Math.abs.name ∈ tbG := tbG_in (tbl_t (List.mem_of_getElem? (i := 1006) (by decide +kernel))) rfl
theorem mlL_74 : Cond.methodLink RL 74 yX10_lost ∈ tbG := tbG_in (tbl_t (List.mem_of_getElem? (i := 1007) (by decide +kernel))) rfl
theorem mlL_78 : Cond.methodLink RL 78 yX10_set ∈ tbG := tbG_in (tbl_t (List.mem_of_getElem? (i := 1011) (by decide +kernel))) rfl
theorem mlL_82 : Cond.methodLink RL 82 yX10_days ∈ tbG := tbG_in (tbl_t (List.mem_of_getElem? (i := 1015) (by decide +kernel))) rfl
theorem mlX10_221 : Cond.methodLink RX10 221 yX10_grows ∈ tbG := tbG_in (tbl_t (List.mem_of_getElem? (i := 1019) (by decide +kernel))) rfl
theorem mlL_86 : Cond.methodLink RL 86 yX10_train ∈ tbG := tbG_in (tbl_t (List.mem_of_getElem? (i := 1023) (by decide +kernel))) rfl
theorem mlL_90 : Cond.methodLink RL 90 yX10_safe ∈ tbG := tbG_in (tbl_t (List.mem_of_getElem? (i := 1027) (by decide +kernel))) rfl
theorem mlX10_227 : Cond.methodLink RX10 227 yX10_wrongWalk ∈ tbG := tbG_in (tbl_t (List.mem_of_getElem? (i := 1031) (by decide +kernel))) rfl
theorem mlX10_230 : Cond.methodLink RX10 230 yX10_isSafe ∈ tbG := tbG_in (tbl_t (List.mem_of_getElem? (i := 1034) (by decide +kernel))) rfl
theorem mlL_94 : Cond.methodLink RL 94 yX10_first ∈ tbG := tbG_in (tbl_t (List.mem_of_getElem? (i := 1038) (by decide +kernel))) rfl
theorem mlL_98 : Cond.methodLink RL 98 yX10_walked ∈ tbG := tbG_in (tbl_t (List.mem_of_getElem? (i := 1042) (by decide +kernel))) rfl
theorem mlL_102 : Cond.methodLink RL 102 yX10_risk ∈ tbG := tbG_in (tbl_t (List.mem_of_getElem? (i := 1046) (by decide +kernel))) rfl
theorem mlX10_233 : Cond.methodLink RX10 233 yX10_riskOf ∈ tbG := tbG_in (tbl_t (List.mem_of_getElem? (i := 1050) (by decide +kernel))) rfl
theorem mlL_106 : Cond.methodLink RL 106 yX10_walks ∈ tbG := tbG_in (tbl_t (List.mem_of_getElem? (i := 1054) (by decide +kernel))) rfl
theorem mlX10_236 : Cond.methodLink RX10 236 yX10_riskFrom ∈ tbG := tbG_in (tbl_t (List.mem_of_getElem? (i := 1058) (by decide +kernel))) rfl
theorem mlL_111 : Cond.methodLink RL 111 yX10_doubles ∈ tbG := tbG_in (tbl_t (List.mem_of_getElem? (i := 1062) (by decide +kernel))) rfl
theorem mlL_115 : Cond.methodLink RL 115 yX10_eyes ∈ tbG := tbG_in (tbl_t (List.mem_of_getElem? (i := 1066) (by decide +kernel))) rfl
theorem mlL_119 : Cond.methodLink RL 119 yX10_line ∈ tbG := tbG_in (tbl_t (List.mem_of_getElem? (i := 1070) (by decide +kernel))) rfl
theorem mlL_123 : Cond.methodLink RL 123 yX10_join ∈ tbG := tbG_in (tbl_t (List.mem_of_getElem? (i := 1074) (by decide +kernel))) rfl
theorem mlX10_248 : Cond.methodLink RX10 248 yX10_joins ∈ tbG := tbG_in (tbl_t (List.mem_of_getElem? (i := 1078) (by decide +kernel))) rfl
theorem mlX10_245 : Cond.methodLink RX10 245 yX10_worth ∈ tbG := tbG_in (tbl_t (List.mem_of_getElem? (i := 1082) (by decide +kernel))) rfl
theorem mlL_127 : Cond.methodLink RL 127 yX10_joined ∈ tbG := tbG_in (tbl_t (List.mem_of_getElem? (i := 1086) (by decide +kernel))) rfl
theorem mlL_131 : Cond.methodLink RL 131 yX10_job ∈ tbG := tbG_in (tbl_t (List.mem_of_getElem? (i := 1090) (by decide +kernel))) rfl
theorem mlL_135 : Cond.methodLink RL 135 yX10_gang ∈ tbG := tbG_in (tbl_t (List.mem_of_getElem? (i := 1094) (by decide +kernel))) rfl
theorem mlL_139 : Cond.methodLink RL 139 yX10_plan ∈ tbG := tbG_in (tbl_t (List.mem_of_getElem? (i := 1098) (by decide +kernel))) rfl
theorem mlX10_271 : Cond.methodLink RX10 271 yX10_plans ∈ tbG := tbG_in (tbl_t (List.mem_of_getElem? (i := 1102) (by decide +kernel))) rfl
theorem mlX10_258 : Cond.methodLink RX10 258 yX10_tries ∈ tbG := tbG_in (tbl_t (List.mem_of_getElem? (i := 1106) (by decide +kernel))) rfl
theorem mlX10_262 : Cond.methodLink RX10 262 yX10_gangIn ∈ tbG := tbG_in (tbl_t (List.mem_of_getElem? (i := 1110) (by decide +kernel))) rfl
theorem mlL_143 : Cond.methodLink RL 143 yX10_gangOf ∈ tbG := tbG_in (tbl_t (List.mem_of_getElem? (i := 1114) (by decide +kernel))) rfl
theorem mlL_147 : Cond.methodLink RL 147 yX10_rail ∈ tbG := tbG_in (tbl_t (List.mem_of_getElem? (i := 1118) (by decide +kernel))) rfl
theorem mlL_151 : Cond.methodLink RL 151 yX10_heat ∈ tbG := tbG_in (tbl_t (List.mem_of_getElem? (i := 1122) (by decide +kernel))) rfl
theorem mlL_155 : Cond.methodLink RL 155 yX10_lot ∈ tbG := tbG_in (tbl_t (List.mem_of_getElem? (i := 1126) (by decide +kernel))) rfl
theorem mlX10_274 : Cond.methodLink RX10 274 yX10_cracks ∈ tbG := tbG_in (tbl_t (List.mem_of_getElem? (i := 1130) (by decide +kernel))) rfl
theorem mlX10_277 : Cond.methodLink RX10 277 yX10_milesOf ∈ tbG := tbG_in (tbl_t (List.mem_of_getElem? (i := 1134) (by decide +kernel))) rfl
theorem mlL_159 : Cond.methodLink RL 159 yX10_worst ∈ tbG := tbG_in (tbl_t (List.mem_of_getElem? (i := 1138) (by decide +kernel))) rfl
theorem mlX10_280 : Cond.methodLink RX10 280 yX10_worstOf ∈ tbG := tbG_in (tbl_t (List.mem_of_getElem? (i := 1142) (by decide +kernel))) rfl
theorem mlL_163 : Cond.methodLink RL 163 yX10_sure ∈ tbG := tbG_in (tbl_t (List.mem_of_getElem? (i := 1146) (by decide +kernel))) rfl
theorem mlL_167 : Cond.methodLink RL 167 yX10_count ∈ tbG := tbG_in (tbl_t (List.mem_of_getElem? (i := 1150) (by decide +kernel))) rfl

set_option maxRecDepth 100000 in
theorem w1 : (Cond.selects "LoggedStore" yS_countingHeader yS_countingHeader) ∈ wsA := List.mem_filter.mpr ⟨List.mem_of_getElem? (i := 1) rfl, rfl⟩
set_option maxRecDepth 100000 in
theorem w2 : (Cond.selects "LoggedStore" yS_isHeader yS_isHeader) ∈ wsA := List.mem_filter.mpr ⟨List.mem_of_getElem? (i := 2) rfl, rfl⟩
set_option maxRecDepth 100000 in
theorem w3 : (Cond.selects "LoggedStore" yS_readCheckpoint yS_readCheckpoint) ∈ wsA := List.mem_filter.mpr ⟨List.mem_of_getElem? (i := 3) rfl, rfl⟩
set_option maxRecDepth 100000 in
theorem w4 : (Cond.selects "LoggedStore" yS_readArea yS_readArea) ∈ wsA := List.mem_filter.mpr ⟨List.mem_of_getElem? (i := 4) rfl, rfl⟩
set_option maxRecDepth 100000 in
theorem w5 : (Cond.selects "LoggedStore" yS_redoLog yS_redoLog) ∈ wsA := List.mem_filter.mpr ⟨List.mem_of_getElem? (i := 5) rfl, rfl⟩
set_option maxRecDepth 100000 in
theorem w6 : (Cond.selects "LoggedStore" yS_isOfThisLog yS_isOfThisLog) ∈ wsA := List.mem_filter.mpr ⟨List.mem_of_getElem? (i := 6) rfl, rfl⟩
set_option maxRecDepth 100000 in
theorem w54 : (Cond.initialized "java/util/Arrays") ∈ wsA := List.mem_filter.mpr ⟨List.mem_of_getElem? (i := 54) rfl, rfl⟩
set_option maxRecDepth 100000 in
theorem w122 : (Cond.fieldLink "LoggedStore" 57 "LoggedStore$Transaction" "open" "Z") ∈ wsA := List.mem_filter.mpr ⟨List.mem_of_getElem? (i := 122) rfl, rfl⟩
set_option maxRecDepth 100000 in
theorem w200 : (Cond.code yS_recover cS_recover 2 (some .int)) ∈ wsA := List.mem_filter.mpr ⟨List.mem_of_getElem? (i := 200) rfl, rfl⟩
set_option maxRecDepth 100000 in
theorem w201 : (Cond.methodLink "LoggedStore" 153 yD_powerUp) ∈ wsA := List.mem_filter.mpr ⟨List.mem_of_getElem? (i := 201) rfl, rfl⟩
set_option maxRecDepth 100000 in
theorem w202 : (Cond.instanceMethod yD_powerUp) ∈ wsA := List.mem_filter.mpr ⟨List.mem_of_getElem? (i := 202) rfl, rfl⟩
set_option maxRecDepth 100000 in
theorem w203 : (Cond.selects "LoggedStore$Disk" yD_powerUp yD_powerUp) ∈ wsA := List.mem_filter.mpr ⟨List.mem_of_getElem? (i := 203) rfl, rfl⟩
set_option maxRecDepth 100000 in
theorem w204 : (Cond.code yD_powerUp cD_powerUp 1 none) ∈ wsA := List.mem_filter.mpr ⟨List.mem_of_getElem? (i := 204) rfl, rfl⟩
set_option maxRecDepth 100000 in
theorem w205 : (Cond.methodLink "LoggedStore" 156 yY_fill) ∈ wsA := List.mem_filter.mpr ⟨List.mem_of_getElem? (i := 205) rfl, rfl⟩
set_option maxRecDepth 100000 in
theorem w206 : (Cond.static yY_fill) ∈ wsA := List.mem_filter.mpr ⟨List.mem_of_getElem? (i := 206) rfl, rfl⟩
set_option maxRecDepth 100000 in
theorem w207 : (Cond.code yY_fill cY_fill 4 none) ∈ wsA := List.mem_filter.mpr ⟨List.mem_of_getElem? (i := 207) rfl, rfl⟩
set_option maxRecDepth 100000 in
theorem w208 : (Cond.methodLink "LoggedStore" 162 yS_countingHeader) ∈ wsA := List.mem_filter.mpr ⟨List.mem_of_getElem? (i := 208) rfl, rfl⟩
set_option maxRecDepth 100000 in
theorem w210 : (Cond.instanceMethod yS_countingHeader) ∈ wsA := List.mem_filter.mpr ⟨List.mem_of_getElem? (i := 210) rfl, rfl⟩
set_option maxRecDepth 100000 in
theorem w211 : (Cond.code yS_countingHeader cS_countingHeader 1 (some .int)) ∈ wsA := List.mem_filter.mpr ⟨List.mem_of_getElem? (i := 211) rfl, rfl⟩
set_option maxRecDepth 100000 in
theorem w212 : (Cond.methodLink "LoggedStore" 226 yS_isHeader) ∈ wsA := List.mem_filter.mpr ⟨List.mem_of_getElem? (i := 212) rfl, rfl⟩
set_option maxRecDepth 100000 in
theorem w214 : (Cond.instanceMethod yS_isHeader) ∈ wsA := List.mem_filter.mpr ⟨List.mem_of_getElem? (i := 214) rfl, rfl⟩
set_option maxRecDepth 100000 in
theorem w215 : (Cond.code yS_isHeader cS_isHeader 2 (some .boolean)) ∈ wsA := List.mem_filter.mpr ⟨List.mem_of_getElem? (i := 215) rfl, rfl⟩
set_option maxRecDepth 100000 in
theorem w216 : (Cond.methodLink "LoggedStore" 229 yD_isGood) ∈ wsA := List.mem_filter.mpr ⟨List.mem_of_getElem? (i := 216) rfl, rfl⟩
set_option maxRecDepth 100000 in
theorem w217 : (Cond.instanceMethod yD_isGood) ∈ wsA := List.mem_filter.mpr ⟨List.mem_of_getElem? (i := 217) rfl, rfl⟩
set_option maxRecDepth 100000 in
theorem w218 : (Cond.selects "LoggedStore$Disk" yD_isGood yD_isGood) ∈ wsA := List.mem_filter.mpr ⟨List.mem_of_getElem? (i := 218) rfl, rfl⟩
set_option maxRecDepth 100000 in
theorem w219 : (Cond.code yD_isGood cD_isGood 2 (some .boolean)) ∈ wsA := List.mem_filter.mpr ⟨List.mem_of_getElem? (i := 219) rfl, rfl⟩
set_option maxRecDepth 100000 in
theorem w220 : (Cond.methodLink "LoggedStore$Disk" 47 yD_wordOf) ∈ wsA := List.mem_filter.mpr ⟨List.mem_of_getElem? (i := 220) rfl, rfl⟩
set_option maxRecDepth 100000 in
theorem w221 : (Cond.instanceMethod yD_wordOf) ∈ wsA := List.mem_filter.mpr ⟨List.mem_of_getElem? (i := 221) rfl, rfl⟩
set_option maxRecDepth 100000 in
theorem w222 : (Cond.selects "LoggedStore$Disk" yD_wordOf yD_wordOf) ∈ wsA := List.mem_filter.mpr ⟨List.mem_of_getElem? (i := 222) rfl, rfl⟩
set_option maxRecDepth 100000 in
theorem w223 : (Cond.code yD_wordOf cD_wordOf 3 (some .int)) ∈ wsA := List.mem_filter.mpr ⟨List.mem_of_getElem? (i := 223) rfl, rfl⟩
set_option maxRecDepth 100000 in
theorem w224 : (Cond.methodLink "LoggedStore" 171 yD_wordOf) ∈ wsA := List.mem_filter.mpr ⟨List.mem_of_getElem? (i := 224) rfl, rfl⟩
set_option maxRecDepth 100000 in
theorem w226 : (Cond.methodLink "LoggedStore" 165 yS_readCheckpoint) ∈ wsA := List.mem_filter.mpr ⟨List.mem_of_getElem? (i := 226) rfl, rfl⟩
set_option maxRecDepth 100000 in
theorem w228 : (Cond.instanceMethod yS_readCheckpoint) ∈ wsA := List.mem_filter.mpr ⟨List.mem_of_getElem? (i := 228) rfl, rfl⟩
set_option maxRecDepth 100000 in
theorem w229 : (Cond.code yS_readCheckpoint cS_readCheckpoint 3 none) ∈ wsA := List.mem_filter.mpr ⟨List.mem_of_getElem? (i := 229) rfl, rfl⟩
set_option maxRecDepth 100000 in
theorem w230 : (Cond.methodLink "LoggedStore" 232 yS_readArea) ∈ wsA := List.mem_filter.mpr ⟨List.mem_of_getElem? (i := 230) rfl, rfl⟩
set_option maxRecDepth 100000 in
theorem w232 : (Cond.instanceMethod yS_readArea) ∈ wsA := List.mem_filter.mpr ⟨List.mem_of_getElem? (i := 232) rfl, rfl⟩
set_option maxRecDepth 100000 in
theorem w233 : (Cond.code yS_readArea cS_readArea 6 none) ∈ wsA := List.mem_filter.mpr ⟨List.mem_of_getElem? (i := 233) rfl, rfl⟩
set_option maxRecDepth 100000 in
theorem w234 : (Cond.methodLink "LoggedStore" 214 yS_areaBegin) ∈ wsA := List.mem_filter.mpr ⟨List.mem_of_getElem? (i := 234) rfl, rfl⟩
set_option maxRecDepth 100000 in
theorem w235 : (Cond.static yS_areaBegin) ∈ wsA := List.mem_filter.mpr ⟨List.mem_of_getElem? (i := 235) rfl, rfl⟩
set_option maxRecDepth 100000 in
theorem w236 : (Cond.code yS_areaBegin cS_areaBegin 1 (some .int)) ∈ wsA := List.mem_filter.mpr ⟨List.mem_of_getElem? (i := 236) rfl, rfl⟩
set_option maxRecDepth 100000 in
theorem w237 : (Cond.methodLink "LoggedStore" 235 yT_makeEmpty) ∈ wsA := List.mem_filter.mpr ⟨List.mem_of_getElem? (i := 237) rfl, rfl⟩
set_option maxRecDepth 100000 in
theorem w238 : (Cond.instanceMethod yT_makeEmpty) ∈ wsA := List.mem_filter.mpr ⟨List.mem_of_getElem? (i := 238) rfl, rfl⟩
set_option maxRecDepth 100000 in
theorem w239 : (Cond.selects "LoggedStore$Table" yT_makeEmpty yT_makeEmpty) ∈ wsA := List.mem_filter.mpr ⟨List.mem_of_getElem? (i := 239) rfl, rfl⟩
set_option maxRecDepth 100000 in
theorem w240 : (Cond.code yT_makeEmpty cT_makeEmpty 2 none) ∈ wsA := List.mem_filter.mpr ⟨List.mem_of_getElem? (i := 240) rfl, rfl⟩
set_option maxRecDepth 100000 in
theorem w248 : (Cond.methodLink "LoggedStore" 168 yS_redoLog) ∈ wsA := List.mem_filter.mpr ⟨List.mem_of_getElem? (i := 248) rfl, rfl⟩
set_option maxRecDepth 100000 in
theorem w250 : (Cond.instanceMethod yS_redoLog) ∈ wsA := List.mem_filter.mpr ⟨List.mem_of_getElem? (i := 250) rfl, rfl⟩
set_option maxRecDepth 100000 in
theorem w251 : (Cond.code yS_redoLog cS_redoLog 2 none) ∈ wsA := List.mem_filter.mpr ⟨List.mem_of_getElem? (i := 251) rfl, rfl⟩
set_option maxRecDepth 100000 in
theorem w252 : (Cond.methodLink "LoggedStore" 241 yS_isOfThisLog) ∈ wsA := List.mem_filter.mpr ⟨List.mem_of_getElem? (i := 252) rfl, rfl⟩
set_option maxRecDepth 100000 in
theorem w254 : (Cond.instanceMethod yS_isOfThisLog) ∈ wsA := List.mem_filter.mpr ⟨List.mem_of_getElem? (i := 254) rfl, rfl⟩
set_option maxRecDepth 100000 in
theorem w255 : (Cond.code yS_isOfThisLog cS_isOfThisLog 2 (some .boolean)) ∈ wsA := List.mem_filter.mpr ⟨List.mem_of_getElem? (i := 255) rfl, rfl⟩
set_option maxRecDepth 100000 in
theorem w278 : (Cond.code yS_word cS_word 3 (some .int)) ∈ wsA := List.mem_filter.mpr ⟨List.mem_of_getElem? (i := 278) rfl, rfl⟩
theorem dD_wordOf_0 : decode cD_wordOf 0 = .ok (.aload_n 0, 1) := by decide +kernel
theorem dD_wordOf_1 : decode cD_wordOf 1 = .ok (.getfield 11, 3) := by decide +kernel
theorem dD_wordOf_4 : decode cD_wordOf 4 = .ok (.iconst 4, 1) := by decide +kernel
theorem dD_wordOf_5 : decode cD_wordOf 5 = .ok (.iload_n 1, 1) := by decide +kernel
theorem dD_wordOf_6 : decode cD_wordOf 6 = .ok (.imul, 1) := by decide +kernel
theorem dD_wordOf_7 : decode cD_wordOf 7 = .ok (.iload_n 2, 1) := by decide +kernel
theorem dD_wordOf_8 : decode cD_wordOf 8 = .ok (.iadd, 1) := by decide +kernel
theorem dD_wordOf_9 : decode cD_wordOf 9 = .ok (.iaload, 1) := by decide +kernel
theorem dD_wordOf_10 : decode cD_wordOf 10 = .ok (.ireturn, 1) := by decide +kernel
theorem dD_isGood_0 : decode cD_isGood 0 = .ok (.aload_n 0, 1) := by decide +kernel
theorem dD_isGood_1 : decode cD_isGood 1 = .ok (.iload_n 1, 1) := by decide +kernel
theorem dD_isGood_2 : decode cD_isGood 2 = .ok (.iconst 3, 1) := by decide +kernel
theorem dD_isGood_3 : decode cD_isGood 3 = .ok (.invokevirtual 47, 3) := by decide +kernel
theorem dD_isGood_6 : decode cD_isGood 6 = .ok (.iload_n 1, 1) := by decide +kernel
theorem dD_isGood_7 : decode cD_isGood 7 = .ok (.aload_n 0, 1) := by decide +kernel
theorem dD_isGood_8 : decode cD_isGood 8 = .ok (.iload_n 1, 1) := by decide +kernel
theorem dD_isGood_9 : decode cD_isGood 9 = .ok (.iconst 0, 1) := by decide +kernel
theorem dD_isGood_10 : decode cD_isGood 10 = .ok (.invokevirtual 47, 3) := by decide +kernel
theorem dD_isGood_13 : decode cD_isGood 13 = .ok (.aload_n 0, 1) := by decide +kernel
theorem dD_isGood_14 : decode cD_isGood 14 = .ok (.iload_n 1, 1) := by decide +kernel
theorem dD_isGood_15 : decode cD_isGood 15 = .ok (.iconst 1, 1) := by decide +kernel
theorem dD_isGood_16 : decode cD_isGood 16 = .ok (.invokevirtual 47, 3) := by decide +kernel
theorem dD_isGood_19 : decode cD_isGood 19 = .ok (.aload_n 0, 1) := by decide +kernel
theorem dD_isGood_20 : decode cD_isGood 20 = .ok (.iload_n 1, 1) := by decide +kernel
theorem dD_isGood_21 : decode cD_isGood 21 = .ok (.iconst 2, 1) := by decide +kernel
theorem dD_isGood_22 : decode cD_isGood 22 = .ok (.invokevirtual 47, 3) := by decide +kernel
theorem dD_isGood_25 : decode cD_isGood 25 = .ok (.invokestatic 30, 3) := by decide +kernel
theorem dD_isGood_28 : decode cD_isGood 28 = .ok (.if_icmp .ne 7, 3) := by decide +kernel
theorem dD_isGood_35 : decode cD_isGood 35 = .ok (.iconst 0, 1) := by decide +kernel
theorem dD_isGood_36 : decode cD_isGood 36 = .ok (.ireturn, 1) := by decide +kernel
theorem dS_isHeader_0 : decode cS_isHeader 0 = .ok (.aload_n 0, 1) := by decide +kernel
theorem dS_isHeader_1 : decode cS_isHeader 1 = .ok (.getfield 10, 3) := by decide +kernel
theorem dS_isHeader_4 : decode cS_isHeader 4 = .ok (.iload_n 1, 1) := by decide +kernel
theorem dS_isHeader_5 : decode cS_isHeader 5 = .ok (.invokevirtual 229, 3) := by decide +kernel
theorem dS_isHeader_8 : decode cS_isHeader 8 = .ok (.ifCond .eq 23, 3) := by decide +kernel
theorem dS_isHeader_31 : decode cS_isHeader 31 = .ok (.iconst 0, 1) := by decide +kernel
theorem dS_isHeader_32 : decode cS_isHeader 32 = .ok (.ireturn, 1) := by decide +kernel
theorem dS_countingHeader_0 : decode cS_countingHeader 0 = .ok (.aload_n 0, 1) := by decide +kernel
theorem dS_countingHeader_1 : decode cS_countingHeader 1 = .ok (.iconst 1, 1) := by decide +kernel
theorem dS_countingHeader_2 : decode cS_countingHeader 2 = .ok (.invokevirtual 226, 3) := by decide +kernel
theorem dS_countingHeader_5 : decode cS_countingHeader 5 = .ok (.ifCond .ne 5, 3) := by decide +kernel
theorem dS_countingHeader_8 : decode cS_countingHeader 8 = .ok (.iconst 0, 1) := by decide +kernel
theorem dS_countingHeader_9 : decode cS_countingHeader 9 = .ok (.ireturn, 1) := by decide +kernel
theorem dS_isOfThisLog_0 : decode cS_isOfThisLog 0 = .ok (.aload_n 0, 1) := by decide +kernel
theorem dS_isOfThisLog_1 : decode cS_isOfThisLog 1 = .ok (.getfield 10, 3) := by decide +kernel
theorem dS_isOfThisLog_4 : decode cS_isOfThisLog 4 = .ok (.iload_n 1, 1) := by decide +kernel
theorem dS_isOfThisLog_5 : decode cS_isOfThisLog 5 = .ok (.invokevirtual 229, 3) := by decide +kernel
theorem dS_isOfThisLog_8 : decode cS_isOfThisLog 8 = .ok (.ifCond .eq 27, 3) := by decide +kernel
theorem dS_isOfThisLog_35 : decode cS_isOfThisLog 35 = .ok (.iconst 0, 1) := by decide +kernel
theorem dS_isOfThisLog_36 : decode cS_isOfThisLog 36 = .ok (.ireturn, 1) := by decide +kernel
theorem dS_areaBegin_0 : decode cS_areaBegin 0 = .ok (.iconst 2, 1) := by decide +kernel
theorem dS_areaBegin_1 : decode cS_areaBegin 1 = .ok (.bipush 10, 2) := by decide +kernel
theorem dS_areaBegin_3 : decode cS_areaBegin 3 = .ok (.iload_n 0, 1) := by decide +kernel
theorem dS_areaBegin_4 : decode cS_areaBegin 4 = .ok (.imul, 1) := by decide +kernel
theorem dS_areaBegin_5 : decode cS_areaBegin 5 = .ok (.iadd, 1) := by decide +kernel
theorem dS_areaBegin_6 : decode cS_areaBegin 6 = .ok (.ireturn, 1) := by decide +kernel
theorem dS_word_0 : decode cS_word 0 = .ok (.iload_n 1, 1) := by decide +kernel
theorem dS_word_1 : decode cS_word 1 = .ok (.ifCond .lt 18, 3) := by decide +kernel
theorem dS_word_4 : decode cS_word 4 = .ok (.iload_n 1, 1) := by decide +kernel
theorem dS_word_5 : decode cS_word 5 = .ok (.bipush 96, 2) := by decide +kernel
theorem dS_word_7 : decode cS_word 7 = .ok (.if_icmp .ge 12, 3) := by decide +kernel
theorem dS_word_10 : decode cS_word 10 = .ok (.iload_n 2, 1) := by decide +kernel
theorem dS_word_11 : decode cS_word 11 = .ok (.ifCond .lt 8, 3) := by decide +kernel
theorem dS_word_14 : decode cS_word 14 = .ok (.iload_n 2, 1) := by decide +kernel
theorem dS_word_15 : decode cS_word 15 = .ok (.iconst 4, 1) := by decide +kernel
theorem dS_word_16 : decode cS_word 16 = .ok (.if_icmp .lt 5, 3) := by decide +kernel
theorem dS_word_19 : decode cS_word 19 = .ok (.iconst 0, 1) := by decide +kernel
theorem dS_word_20 : decode cS_word 20 = .ok (.ireturn, 1) := by decide +kernel
theorem dS_word_21 : decode cS_word 21 = .ok (.aload_n 0, 1) := by decide +kernel
theorem dS_word_22 : decode cS_word 22 = .ok (.getfield 10, 3) := by decide +kernel
theorem dS_word_25 : decode cS_word 25 = .ok (.iload_n 1, 1) := by decide +kernel
theorem dS_word_26 : decode cS_word 26 = .ok (.iload_n 2, 1) := by decide +kernel
theorem dS_word_27 : decode cS_word 27 = .ok (.invokevirtual 171, 3) := by decide +kernel
theorem dS_word_30 : decode cS_word 30 = .ok (.ireturn, 1) := by decide +kernel
theorem dD_powerUp_0 : decode cD_powerUp 0 = .ok (.aload_n 0, 1) := by decide +kernel
theorem dD_powerUp_1 : decode cD_powerUp 1 = .ok (.iconst 0, 1) := by decide +kernel
theorem dD_powerUp_2 : decode cD_powerUp 2 = .ok (.putfield 22, 3) := by decide +kernel
theorem dD_powerUp_5 : decode cD_powerUp 5 = .ok (.aload_n 0, 1) := by decide +kernel
theorem dD_powerUp_6 : decode cD_powerUp 6 = .ok (.iconst (-1), 1) := by decide +kernel
theorem dD_powerUp_7 : decode cD_powerUp 7 = .ok (.putfield 15, 3) := by decide +kernel
theorem dD_powerUp_10 : decode cD_powerUp 10 = .ok (.return_, 1) := by decide +kernel
theorem dY_fill_0 : decode cY_fill 0 = .ok (.iconst 0, 1) := by decide +kernel
theorem dY_fill_1 : decode cY_fill 1 = .ok (.istore_n 2, 1) := by decide +kernel
theorem dY_fill_2 : decode cY_fill 2 = .ok (.aload_n 0, 1) := by decide +kernel
theorem dY_fill_3 : decode cY_fill 3 = .ok (.arraylength, 1) := by decide +kernel
theorem dY_fill_4 : decode cY_fill 4 = .ok (.istore_n 3, 1) := by decide +kernel
theorem dY_fill_5 : decode cY_fill 5 = .ok (.iload_n 2, 1) := by decide +kernel
theorem dY_fill_6 : decode cY_fill 6 = .ok (.iload_n 3, 1) := by decide +kernel
theorem dY_fill_7 : decode cY_fill 7 = .ok (.if_icmp .ge 13, 3) := by decide +kernel
theorem dY_fill_10 : decode cY_fill 10 = .ok (.aload_n 0, 1) := by decide +kernel
theorem dY_fill_11 : decode cY_fill 11 = .ok (.iload_n 2, 1) := by decide +kernel
theorem dY_fill_12 : decode cY_fill 12 = .ok (.iload_n 1, 1) := by decide +kernel
theorem dY_fill_13 : decode cY_fill 13 = .ok (.iastore, 1) := by decide +kernel
theorem dY_fill_14 : decode cY_fill 14 = .ok (.iinc 2 1, 3) := by decide +kernel
theorem dY_fill_17 : decode cY_fill 17 = .ok (.goto (-12), 3) := by decide +kernel
theorem dY_fill_20 : decode cY_fill 20 = .ok (.return_, 1) := by decide +kernel
theorem dT_makeEmpty_0 : decode cT_makeEmpty 0 = .ok (.iconst 0, 1) := by decide +kernel
theorem dT_makeEmpty_1 : decode cT_makeEmpty 1 = .ok (.istore_n 1, 1) := by decide +kernel
theorem dT_makeEmpty_2 : decode cT_makeEmpty 2 = .ok (.iload_n 1, 1) := by decide +kernel
theorem dT_makeEmpty_3 : decode cT_makeEmpty 3 = .ok (.bipush 64, 2) := by decide +kernel
theorem dT_makeEmpty_5 : decode cT_makeEmpty 5 = .ok (.if_icmp .ge 16, 3) := by decide +kernel
theorem dT_makeEmpty_8 : decode cT_makeEmpty 8 = .ok (.aload_n 0, 1) := by decide +kernel
theorem dT_makeEmpty_9 : decode cT_makeEmpty 9 = .ok (.getfield 9, 3) := by decide +kernel
theorem dT_makeEmpty_12 : decode cT_makeEmpty 12 = .ok (.iload_n 1, 1) := by decide +kernel
theorem dT_makeEmpty_13 : decode cT_makeEmpty 13 = .ok (.iconst 0, 1) := by decide +kernel
theorem dT_makeEmpty_14 : decode cT_makeEmpty 14 = .ok (.bastore, 1) := by decide +kernel
theorem dT_makeEmpty_15 : decode cT_makeEmpty 15 = .ok (.iinc 1 1, 3) := by decide +kernel
theorem dT_makeEmpty_18 : decode cT_makeEmpty 18 = .ok (.goto (-16), 3) := by decide +kernel
theorem dT_makeEmpty_21 : decode cT_makeEmpty 21 = .ok (.aload_n 0, 1) := by decide +kernel
theorem dT_makeEmpty_22 : decode cT_makeEmpty 22 = .ok (.iconst 0, 1) := by decide +kernel
theorem dT_makeEmpty_23 : decode cT_makeEmpty 23 = .ok (.putfield 19, 3) := by decide +kernel
theorem dT_makeEmpty_26 : decode cT_makeEmpty 26 = .ok (.return_, 1) := by decide +kernel
theorem dS_readArea_0 : decode cS_readArea 0 = .ok (.aload_n 0, 1) := by decide +kernel
theorem dS_readArea_1 : decode cS_readArea 1 = .ok (.getfield 40, 3) := by decide +kernel
theorem dS_readArea_4 : decode cS_readArea 4 = .ok (.invokestatic 214, 3) := by decide +kernel
theorem dS_readArea_7 : decode cS_readArea 7 = .ok (.istore_n 2, 1) := by decide +kernel
theorem dS_readArea_8 : decode cS_readArea 8 = .ok (.aload_n 0, 1) := by decide +kernel
theorem dS_readArea_9 : decode cS_readArea 9 = .ok (.getfield 19, 3) := by decide +kernel
theorem dS_readArea_12 : decode cS_readArea 12 = .ok (.invokevirtual 235, 3) := by decide +kernel
theorem dS_readArea_15 : decode cS_readArea 15 = .ok (.iconst 0, 1) := by decide +kernel
theorem dS_readArea_16 : decode cS_readArea 16 = .ok (.istore_n 3, 1) := by decide +kernel
theorem dS_readArea_17 : decode cS_readArea 17 = .ok (.iload_n 3, 1) := by decide +kernel
theorem dS_readArea_18 : decode cS_readArea 18 = .ok (.iload_n 1, 1) := by decide +kernel
theorem dS_readArea_19 : decode cS_readArea 19 = .ok (.if_icmp .ge 60, 3) := by decide +kernel
theorem dS_readArea_79 : decode cS_readArea 79 = .ok (.return_, 1) := by decide +kernel
theorem dS_readCheckpoint_0 : decode cS_readCheckpoint 0 = .ok (.aload_n 0, 1) := by decide +kernel
theorem dS_readCheckpoint_1 : decode cS_readCheckpoint 1 = .ok (.getfield 10, 3) := by decide +kernel
theorem dS_readCheckpoint_4 : decode cS_readCheckpoint 4 = .ok (.iload_n 1, 1) := by decide +kernel
theorem dS_readCheckpoint_5 : decode cS_readCheckpoint 5 = .ok (.iconst 1, 1) := by decide +kernel
theorem dS_readCheckpoint_6 : decode cS_readCheckpoint 6 = .ok (.invokevirtual 171, 3) := by decide +kernel
theorem dS_readCheckpoint_9 : decode cS_readCheckpoint 9 = .ok (.istore_n 2, 1) := by decide +kernel
theorem dS_readCheckpoint_10 : decode cS_readCheckpoint 10 = .ok (.aload_n 0, 1) := by decide +kernel
theorem dS_readCheckpoint_11 : decode cS_readCheckpoint 11 = .ok (.aload_n 0, 1) := by decide +kernel
theorem dS_readCheckpoint_12 : decode cS_readCheckpoint 12 = .ok (.getfield 10, 3) := by decide +kernel
theorem dS_readCheckpoint_15 : decode cS_readCheckpoint 15 = .ok (.iload_n 1, 1) := by decide +kernel
theorem dS_readCheckpoint_16 : decode cS_readCheckpoint 16 = .ok (.iconst 0, 1) := by decide +kernel
theorem dS_readCheckpoint_17 : decode cS_readCheckpoint 17 = .ok (.invokevirtual 171, 3) := by decide +kernel
theorem dS_readCheckpoint_20 : decode cS_readCheckpoint 20 = .ok (.putfield 37, 3) := by decide +kernel
theorem dS_readCheckpoint_23 : decode cS_readCheckpoint 23 = .ok (.aload_n 0, 1) := by decide +kernel
theorem dS_readCheckpoint_24 : decode cS_readCheckpoint 24 = .ok (.iload_n 2, 1) := by decide +kernel
theorem dS_readCheckpoint_25 : decode cS_readCheckpoint 25 = .ok (.bipush 64, 2) := by decide +kernel
theorem dS_readCheckpoint_27 : decode cS_readCheckpoint 27 = .ok (.if_icmp .lt 7, 3) := by decide +kernel
theorem dS_readCheckpoint_34 : decode cS_readCheckpoint 34 = .ok (.iconst 0, 1) := by decide +kernel
theorem dS_readCheckpoint_35 : decode cS_readCheckpoint 35 = .ok (.putfield 40, 3) := by decide +kernel
theorem dS_readCheckpoint_38 : decode cS_readCheckpoint 38 = .ok (.aload_n 0, 1) := by decide +kernel
theorem dS_readCheckpoint_39 : decode cS_readCheckpoint 39 = .ok (.aload_n 0, 1) := by decide +kernel
theorem dS_readCheckpoint_40 : decode cS_readCheckpoint 40 = .ok (.getfield 10, 3) := by decide +kernel
theorem dS_readCheckpoint_43 : decode cS_readCheckpoint 43 = .ok (.iload_n 1, 1) := by decide +kernel
theorem dS_readCheckpoint_44 : decode cS_readCheckpoint 44 = .ok (.iconst 2, 1) := by decide +kernel
theorem dS_readCheckpoint_45 : decode cS_readCheckpoint 45 = .ok (.invokevirtual 171, 3) := by decide +kernel
theorem dS_readCheckpoint_48 : decode cS_readCheckpoint 48 = .ok (.putfield 33, 3) := by decide +kernel
theorem dS_readCheckpoint_51 : decode cS_readCheckpoint 51 = .ok (.aload_n 0, 1) := by decide +kernel
theorem dS_readCheckpoint_52 : decode cS_readCheckpoint 52 = .ok (.iload_n 2, 1) := by decide +kernel
theorem dS_readCheckpoint_53 : decode cS_readCheckpoint 53 = .ok (.bipush 64, 2) := by decide +kernel
theorem dS_readCheckpoint_55 : decode cS_readCheckpoint 55 = .ok (.aload_n 0, 1) := by decide +kernel
theorem dS_readCheckpoint_56 : decode cS_readCheckpoint 56 = .ok (.getfield 40, 3) := by decide +kernel
theorem dS_readCheckpoint_59 : decode cS_readCheckpoint 59 = .ok (.imul, 1) := by decide +kernel
theorem dS_readCheckpoint_60 : decode cS_readCheckpoint 60 = .ok (.isub, 1) := by decide +kernel
theorem dS_readCheckpoint_61 : decode cS_readCheckpoint 61 = .ok (.invokevirtual 232, 3) := by decide +kernel
theorem dS_readCheckpoint_64 : decode cS_readCheckpoint 64 = .ok (.return_, 1) := by decide +kernel
theorem dS_redoLog_0 : decode cS_redoLog 0 = .ok (.aload_n 0, 1) := by decide +kernel
theorem dS_redoLog_1 : decode cS_redoLog 1 = .ok (.bipush 22, 2) := by decide +kernel
theorem dS_redoLog_3 : decode cS_redoLog 3 = .ok (.putfield 43, 3) := by decide +kernel
theorem dS_redoLog_6 : decode cS_redoLog 6 = .ok (.bipush 22, 2) := by decide +kernel
theorem dS_redoLog_8 : decode cS_redoLog 8 = .ok (.istore_n 1, 1) := by decide +kernel
theorem dS_redoLog_9 : decode cS_redoLog 9 = .ok (.iload_n 1, 1) := by decide +kernel
theorem dS_redoLog_10 : decode cS_redoLog 10 = .ok (.bipush 96, 2) := by decide +kernel
theorem dS_redoLog_12 : decode cS_redoLog 12 = .ok (.if_icmp .ge 61, 3) := by decide +kernel
theorem dS_redoLog_15 : decode cS_redoLog 15 = .ok (.aload_n 0, 1) := by decide +kernel
theorem dS_redoLog_16 : decode cS_redoLog 16 = .ok (.iload_n 1, 1) := by decide +kernel
theorem dS_redoLog_17 : decode cS_redoLog 17 = .ok (.invokevirtual 241, 3) := by decide +kernel
theorem dS_redoLog_20 : decode cS_redoLog 20 = .ok (.ifCond .eq 53, 3) := by decide +kernel
theorem dS_redoLog_73 : decode cS_redoLog 73 = .ok (.return_, 1) := by decide +kernel
theorem dS_recover_0 : decode cS_recover 0 = .ok (.aload_n 0, 1) := by decide +kernel
theorem dS_recover_1 : decode cS_recover 1 = .ok (.getfield 10, 3) := by decide +kernel
theorem dS_recover_4 : decode cS_recover 4 = .ok (.invokevirtual 153, 3) := by decide +kernel
theorem dS_recover_7 : decode cS_recover 7 = .ok (.iconst 0, 1) := by decide +kernel
theorem dS_recover_8 : decode cS_recover 8 = .ok (.istore_n 1, 1) := by decide +kernel
theorem dS_recover_9 : decode cS_recover 9 = .ok (.iload_n 1, 1) := by decide +kernel
theorem dS_recover_10 : decode cS_recover 10 = .ok (.iconst 3, 1) := by decide +kernel
theorem dS_recover_11 : decode cS_recover 11 = .ok (.if_icmp .ge 19, 3) := by decide +kernel
theorem dS_recover_14 : decode cS_recover 14 = .ok (.aload_n 0, 1) := by decide +kernel
theorem dS_recover_15 : decode cS_recover 15 = .ok (.getfield 29, 3) := by decide +kernel
theorem dS_recover_18 : decode cS_recover 18 = .ok (.iload_n 1, 1) := by decide +kernel
theorem dS_recover_19 : decode cS_recover 19 = .ok (.aaload, 1) := by decide +kernel
theorem dS_recover_20 : decode cS_recover 20 = .ok (.iconst 0, 1) := by decide +kernel
theorem dS_recover_21 : decode cS_recover 21 = .ok (.putfield 57, 3) := by decide +kernel
theorem dS_recover_24 : decode cS_recover 24 = .ok (.iinc 1 1, 3) := by decide +kernel
theorem dS_recover_27 : decode cS_recover 27 = .ok (.goto (-18), 3) := by decide +kernel
theorem dS_recover_30 : decode cS_recover 30 = .ok (.aload_n 0, 1) := by decide +kernel
theorem dS_recover_31 : decode cS_recover 31 = .ok (.getfield 23, 3) := by decide +kernel
theorem dS_recover_34 : decode cS_recover 34 = .ok (.iconst 0, 1) := by decide +kernel
theorem dS_recover_35 : decode cS_recover 35 = .ok (.invokestatic 156, 3) := by decide +kernel
theorem dS_recover_38 : decode cS_recover 38 = .ok (.aload_n 0, 1) := by decide +kernel
theorem dS_recover_39 : decode cS_recover 39 = .ok (.aload_n 0, 1) := by decide +kernel
theorem dS_recover_40 : decode cS_recover 40 = .ok (.invokevirtual 162, 3) := by decide +kernel
theorem dS_recover_43 : decode cS_recover 43 = .ok (.invokevirtual 165, 3) := by decide +kernel
theorem dS_recover_46 : decode cS_recover 46 = .ok (.aload_n 0, 1) := by decide +kernel
theorem dS_recover_47 : decode cS_recover 47 = .ok (.invokevirtual 168, 3) := by decide +kernel
theorem dS_recover_50 : decode cS_recover 50 = .ok (.aload_n 0, 1) := by decide +kernel
theorem dS_recover_51 : decode cS_recover 51 = .ok (.getfield 33, 3) := by decide +kernel
theorem dS_recover_54 : decode cS_recover 54 = .ok (.ireturn, 1) := by decide +kernel
set_option maxHeartbeats 4000000 in
set_option maxRecDepth 100000 in
theorem c_wordOf (l : Launch) (dC : Nat → ClassId) (dI : Nat → Nat → Nat) (cI cZ cJ cT : ClassId) (d w : Nat) (f : Nat → Int32) (b9 i9 : Int32) (hin : vp_in ((4 * b9) + i9) 384) : Met l yD_wordOf (Cond.code yD_wordOf cD_wordOf 3 (some .int) :: wsA) ({ frames := 0, cells := 0, slots := 0, locals := 0 }) (va_Pc [.ref d, .int b9, .int i9] (fun U => va_P (dC, dI) vwC [(d, .inr (0, [.ref w, .int (-1), .int 0, .int 0])), (w, .inl (cI, 384, .inl f))] U.heap ∧ KK dC dI cI cZ cJ cT U)) (vp_Si (fun r => r = f (((4 * b9) + i9) : Int32).toNatClampNeg)) 0 0 (fun _ => False) := by
  refine Met.ofW (cc := cD_wordOf) (maxL := 3) (ret := (some .int)) (by decide) rfl ?_
  intro p e s m args below meth c s₁ B hml hv
  obtain ⟨rfl, hP, hKK⟩ := hv
  have hK := hKK.1
  have hx := B.exec
  have hb := B.bytes
  have hr := B.returns
  have hw : ∀ w ∈ wsA, w.before _ s = true := fun w h => atoms_spec (ws := (Cond.code yD_wordOf cD_wordOf 3 (some .int) :: wsA)) B.pre w (List.mem_cons_of_mem _ h)
  have hown : s.vm.findClass "LoggedStore$Disk" = some m.cls := findClass_of_methodNamed B.named
  have hlocks := B.notSynchronized
  have hl := lv_entry ([.ref d, .int b9, .int i9]) (n := 3) (Nat.le_of_ble_eq_true rfl)
  rw [lg_entry_eq]
  generalize (lg_sl ([.ref d, .int b9, .int i9]) ++ List.replicate (3 - (lg_sl ([.ref d, .int b9, .int i9])).length) Slot.unset).toArray = ls at hl ⊢
  have hl : lv_has ls 3 [(0, .ref d), (1, .int b9), (2, .int i9)] := hl
  refine lv_aload_n hx hb dD_wordOf_0 rfl (lv_at hl 0 rfl) ?_
  refine va_get (D := (dC, dI)) (ci := 0) (v := .ref w) (C := "LoggedStore$Disk") (T := uD) (N := 4) hx hb hw inD hown hK hP 0 rfl rfl 0 (by decide) (hw _ w69) (fun _ h9 => h9) rfl dD_wordOf_1 ?_
  refine lv_iconst (v := 4) hx hb dD_wordOf_4 (by decide) ?_
  refine lv_iload_n hx hb dD_wordOf_5 rfl (lv_at hl 1 rfl) ?_
  refine lv_imul hx hb dD_wordOf_6 ?_
  refine lv_iload_n hx hb dD_wordOf_7 rfl (lv_at hl 2 rfl) ?_
  refine lv_iadd hx hb dD_wordOf_8 ?_
  refine va_iald hx hb hK hP 1 0 rfl rfl (hin) dD_wordOf_9 ?_
  exact W.iret (v := f (((4 * b9) + i9) : Int32).toNatClampNeg) hx hb hr (fun t ht hW => ⟨f (((4 * b9) + i9) : Int32).toNatClampNeg, rfl, rfl, ht⟩) (fun q h => by cases h) dD_wordOf_10

set_option maxHeartbeats 4000000 in
set_option maxRecDepth 100000 in
theorem c_isGood1 (l : Launch) (dC : Nat → ClassId) (dI : Nat → Nat → Nat) (cI cZ cJ cT : ClassId) (d w : Nat) : Met l yD_isGood (Cond.code yD_isGood cD_isGood 2 (some .boolean) :: wsA) ({ frames := 1, cells := 0, slots := 0, locals := 23 }) (va_Pc [.ref d, .int 1] (fun U => va_P (dC, dI) vwC [(d, .inr (0, [.ref w, .int (-1), .int 0, .int 0])), (w, .inl (cI, 384, .inl W0))] U.heap ∧ KK dC dI cI cZ cJ cT U)) (vp_Si (fun r => r = 0)) 0 0 (fun _ => False) := by
  refine Met.ofW (cc := cD_isGood) (maxL := 2) (ret := (some .boolean)) (by decide) rfl ?_
  intro p e s m args below meth c s₁ B hml hv
  obtain ⟨rfl, hP, hKK⟩ := hv
  have hK := hKK.1
  have hx := B.exec
  have hb := B.bytes
  have hr := B.returns
  have hw : ∀ w ∈ wsA, w.before _ s = true := fun w h => atoms_spec (ws := (Cond.code yD_isGood cD_isGood 2 (some .boolean) :: wsA)) B.pre w (List.mem_cons_of_mem _ h)
  have hown : s.vm.findClass "LoggedStore$Disk" = some m.cls := findClass_of_methodNamed B.named
  have hlocks := B.notSynchronized
  have hl := lv_entry ([.ref d, .int 1]) (n := 2) (Nat.le_of_ble_eq_true rfl)
  rw [lg_entry_eq]
  generalize (lg_sl ([.ref d, .int 1]) ++ List.replicate (2 - (lg_sl ([.ref d, .int 1])).length) Slot.unset).toArray = ls at hl ⊢
  have hl : lv_has ls 2 [(0, .ref d), (1, .int 1)] := hl
  refine lv_aload_n hx hb dD_isGood_0 rfl (lv_at hl 0 rfl) ?_
  refine lv_iload_n hx hb dD_isGood_1 rfl (lv_at hl 1 rfl) ?_
  refine lv_iconst (v := 3) hx hb dD_isGood_2 (by decide) ?_
  have hPc := hP.sub (ws' := [(d, .inr (0, [.ref w, .int (-1), .int 0, .int 0])), (w, .inl (cI, 384, .inl W0))]) [0, 1] rfl
  refine vp_callSi (W.runV (C := "LoggedStore$Disk") (b := d) (As := [.int 1, .int 3]) (rest := []) ⟨hx, hb, hml, hown, hw⟩ (c_wordOf l dC dI cI cZ cJ cT d w W0 1 3 (tv_in (by decide +kernel))) ⟨callB_of 2 hw (gA0 w223) rfl rfl rfl (hw _ w41) (hw _ w220) (by decide +kernel) ⟨Nat.le_of_ble_eq_true rfl, Nat.le_of_ble_eq_true rfl⟩, (hw _ w221), (hw _ w222)⟩ ⟨kb_S, va_recv (ci := 0) (q0 := 0) hK hP rfl rfl, fun U hU hW => ⟨rfl, by rw [hU]; exact hPc, hKK.moved hW⟩⟩ rfl rfl hl.1 rfl (lv_room (Nat.le_of_ble_eq_true rfl)) dD_isGood_3 ⟨Nat.le_of_ble_eq_true rfl, Nat.le_of_ble_eq_true rfl⟩) (fun r1 e2 => ?_)
  obtain rfl : r1 = 0 := e2.trans (by decide +kernel)
  refine lv_iload_n hx hb dD_isGood_6 rfl (lv_at hl 1 rfl) ?_
  refine lv_aload_n hx hb dD_isGood_7 rfl (lv_at hl 0 rfl) ?_
  refine lv_iload_n hx hb dD_isGood_8 rfl (lv_at hl 1 rfl) ?_
  refine lv_iconst (v := 0) hx hb dD_isGood_9 (by decide) ?_
  have hPc := hP.sub (ws' := [(d, .inr (0, [.ref w, .int (-1), .int 0, .int 0])), (w, .inl (cI, 384, .inl W0))]) [0, 1] rfl
  refine vp_callSi (W.runV (C := "LoggedStore$Disk") (b := d) (As := [.int 1, .int 0]) (rest := [.int 1, .int 0]) ⟨hx, hb, hml, hown, hw⟩ (c_wordOf l dC dI cI cZ cJ cT d w W0 1 0 (tv_in (by decide +kernel))) ⟨callB_of 2 hw (gA0 w223) rfl rfl rfl (hw _ w41) (hw _ w220) (by decide +kernel) ⟨Nat.le_of_ble_eq_true rfl, Nat.le_of_ble_eq_true rfl⟩, (hw _ w221), (hw _ w222)⟩ ⟨kb_S, va_recv (ci := 0) (q0 := 0) hK hP rfl rfl, fun U hU hW => ⟨rfl, by rw [hU]; exact hPc, hKK.moved hW⟩⟩ rfl rfl hl.1 rfl (lv_room (Nat.le_of_ble_eq_true rfl)) dD_isGood_10 ⟨Nat.le_of_ble_eq_true rfl, Nat.le_of_ble_eq_true rfl⟩) (fun r3 e4 => ?_)
  obtain rfl : r3 = 0 := e4.trans (by decide +kernel)
  refine lv_aload_n hx hb dD_isGood_13 rfl (lv_at hl 0 rfl) ?_
  refine lv_iload_n hx hb dD_isGood_14 rfl (lv_at hl 1 rfl) ?_
  refine lv_iconst (v := 1) hx hb dD_isGood_15 (by decide) ?_
  have hPc := hP.sub (ws' := [(d, .inr (0, [.ref w, .int (-1), .int 0, .int 0])), (w, .inl (cI, 384, .inl W0))]) [0, 1] rfl
  refine vp_callSi (W.runV (C := "LoggedStore$Disk") (b := d) (As := [.int 1, .int 1]) (rest := [.int 0, .int 1, .int 0]) ⟨hx, hb, hml, hown, hw⟩ (c_wordOf l dC dI cI cZ cJ cT d w W0 1 1 (tv_in (by decide +kernel))) ⟨callB_of 2 hw (gA0 w223) rfl rfl rfl (hw _ w41) (hw _ w220) (by decide +kernel) ⟨Nat.le_of_ble_eq_true rfl, Nat.le_of_ble_eq_true rfl⟩, (hw _ w221), (hw _ w222)⟩ ⟨kb_S, va_recv (ci := 0) (q0 := 0) hK hP rfl rfl, fun U hU hW => ⟨rfl, by rw [hU]; exact hPc, hKK.moved hW⟩⟩ rfl rfl hl.1 rfl (lv_room (Nat.le_of_ble_eq_true rfl)) dD_isGood_16 ⟨Nat.le_of_ble_eq_true rfl, Nat.le_of_ble_eq_true rfl⟩) (fun r5 e6 => ?_)
  obtain rfl : r5 = 0 := e6.trans (by decide +kernel)
  refine lv_aload_n hx hb dD_isGood_19 rfl (lv_at hl 0 rfl) ?_
  refine lv_iload_n hx hb dD_isGood_20 rfl (lv_at hl 1 rfl) ?_
  refine lv_iconst (v := 2) hx hb dD_isGood_21 (by decide) ?_
  have hPc := hP.sub (ws' := [(d, .inr (0, [.ref w, .int (-1), .int 0, .int 0])), (w, .inl (cI, 384, .inl W0))]) [0, 1] rfl
  refine vp_callSi (W.runV (C := "LoggedStore$Disk") (b := d) (As := [.int 1, .int 2]) (rest := [.int 0, .int 0, .int 1, .int 0]) ⟨hx, hb, hml, hown, hw⟩ (c_wordOf l dC dI cI cZ cJ cT d w W0 1 2 (tv_in (by decide +kernel))) ⟨callB_of 2 hw (gA0 w223) rfl rfl rfl (hw _ w41) (hw _ w220) (by decide +kernel) ⟨Nat.le_of_ble_eq_true rfl, Nat.le_of_ble_eq_true rfl⟩, (hw _ w221), (hw _ w222)⟩ ⟨kb_S, va_recv (ci := 0) (q0 := 0) hK hP rfl rfl, fun U hU hW => ⟨rfl, by rw [hU]; exact hPc, hKK.moved hW⟩⟩ rfl rfl hl.1 rfl (lv_room (Nat.le_of_ble_eq_true rfl)) dD_isGood_22 ⟨Nat.le_of_ble_eq_true rfl, Nat.le_of_ble_eq_true rfl⟩) (fun r7 e8 => ?_)
  obtain rfl : r7 = 0 := e8.trans (by decide +kernel)
  have hPc := hP.sub (ws' := []) [] rfl
  refine vp_callSi (W.runS (As := [.int 1, .int 0, .int 0, .int 0]) (rest := [.int 0]) ⟨hx, hb, hml, hown, hw⟩ (c_chk l dC dI cI cZ cJ cT 1 0 0 0) ⟨callB_of 4 hw (gA0 w146) rfl rfl rfl (hw _ w41) (hw _ w144) (by decide +kernel) ⟨Nat.le_of_ble_eq_true rfl, Nat.le_of_ble_eq_true rfl⟩, (hw _ w145)⟩ ⟨kb_S, fun U hU hW => ⟨rfl, by rw [hU]; exact hPc, hKK.moved hW⟩⟩ rfl rfl hl.1 rfl (lv_room (Nat.le_of_ble_eq_true rfl)) dD_isGood_25 ⟨Nat.le_of_ble_eq_true rfl, Nat.le_of_ble_eq_true rfl⟩) (fun r9 e10 => ?_)
  obtain rfl : r9 = 1013904320 := e10.trans (by decide +kernel)
  refine lv_icmp_ne (tgt := 35) hx hb dD_isGood_28 (by decide) (fun _ => ?_) (fun h9 => absurd h9 (by decide))
  refine lv_iconst (v := 0) hx hb dD_isGood_35 (by decide) ?_
  exact W.zret (v := 0) (ty := .boolean) hx hb hr (by decide) (fun t ht hW => ⟨0, rfl, rfl, ht⟩) (fun q h => by cases h) dD_isGood_36

set_option maxHeartbeats 4000000 in
set_option maxRecDepth 100000 in
theorem c_isGood22 (l : Launch) (dC : Nat → ClassId) (dI : Nat → Nat → Nat) (cI cZ cJ cT : ClassId) (d w : Nat) : Met l yD_isGood (Cond.code yD_isGood cD_isGood 2 (some .boolean) :: wsA) ({ frames := 1, cells := 0, slots := 0, locals := 23 }) (va_Pc [.ref d, .int 22] (fun U => va_P (dC, dI) vwC [(d, .inr (0, [.ref w, .int (-1), .int 0, .int 0])), (w, .inl (cI, 384, .inl W0))] U.heap ∧ KK dC dI cI cZ cJ cT U)) (vp_Si (fun r => r = 0)) 0 0 (fun _ => False) := by
  refine Met.ofW (cc := cD_isGood) (maxL := 2) (ret := (some .boolean)) (by decide) rfl ?_
  intro p e s m args below meth c s₁ B hml hv
  obtain ⟨rfl, hP, hKK⟩ := hv
  have hK := hKK.1
  have hx := B.exec
  have hb := B.bytes
  have hr := B.returns
  have hw : ∀ w ∈ wsA, w.before _ s = true := fun w h => atoms_spec (ws := (Cond.code yD_isGood cD_isGood 2 (some .boolean) :: wsA)) B.pre w (List.mem_cons_of_mem _ h)
  have hown : s.vm.findClass "LoggedStore$Disk" = some m.cls := findClass_of_methodNamed B.named
  have hlocks := B.notSynchronized
  have hl := lv_entry ([.ref d, .int 22]) (n := 2) (Nat.le_of_ble_eq_true rfl)
  rw [lg_entry_eq]
  generalize (lg_sl ([.ref d, .int 22]) ++ List.replicate (2 - (lg_sl ([.ref d, .int 22])).length) Slot.unset).toArray = ls at hl ⊢
  have hl : lv_has ls 2 [(0, .ref d), (1, .int 22)] := hl
  refine lv_aload_n hx hb dD_isGood_0 rfl (lv_at hl 0 rfl) ?_
  refine lv_iload_n hx hb dD_isGood_1 rfl (lv_at hl 1 rfl) ?_
  refine lv_iconst (v := 3) hx hb dD_isGood_2 (by decide) ?_
  have hPc := hP.sub (ws' := [(d, .inr (0, [.ref w, .int (-1), .int 0, .int 0])), (w, .inl (cI, 384, .inl W0))]) [0, 1] rfl
  refine vp_callSi (W.runV (C := "LoggedStore$Disk") (b := d) (As := [.int 22, .int 3]) (rest := []) ⟨hx, hb, hml, hown, hw⟩ (c_wordOf l dC dI cI cZ cJ cT d w W0 22 3 (tv_in (by decide +kernel))) ⟨callB_of 2 hw (gA0 w223) rfl rfl rfl (hw _ w41) (hw _ w220) (by decide +kernel) ⟨Nat.le_of_ble_eq_true rfl, Nat.le_of_ble_eq_true rfl⟩, (hw _ w221), (hw _ w222)⟩ ⟨kb_S, va_recv (ci := 0) (q0 := 0) hK hP rfl rfl, fun U hU hW => ⟨rfl, by rw [hU]; exact hPc, hKK.moved hW⟩⟩ rfl rfl hl.1 rfl (lv_room (Nat.le_of_ble_eq_true rfl)) dD_isGood_3 ⟨Nat.le_of_ble_eq_true rfl, Nat.le_of_ble_eq_true rfl⟩) (fun r1 e2 => ?_)
  obtain rfl : r1 = 0 := e2.trans (by decide +kernel)
  refine lv_iload_n hx hb dD_isGood_6 rfl (lv_at hl 1 rfl) ?_
  refine lv_aload_n hx hb dD_isGood_7 rfl (lv_at hl 0 rfl) ?_
  refine lv_iload_n hx hb dD_isGood_8 rfl (lv_at hl 1 rfl) ?_
  refine lv_iconst (v := 0) hx hb dD_isGood_9 (by decide) ?_
  have hPc := hP.sub (ws' := [(d, .inr (0, [.ref w, .int (-1), .int 0, .int 0])), (w, .inl (cI, 384, .inl W0))]) [0, 1] rfl
  refine vp_callSi (W.runV (C := "LoggedStore$Disk") (b := d) (As := [.int 22, .int 0]) (rest := [.int 22, .int 0]) ⟨hx, hb, hml, hown, hw⟩ (c_wordOf l dC dI cI cZ cJ cT d w W0 22 0 (tv_in (by decide +kernel))) ⟨callB_of 2 hw (gA0 w223) rfl rfl rfl (hw _ w41) (hw _ w220) (by decide +kernel) ⟨Nat.le_of_ble_eq_true rfl, Nat.le_of_ble_eq_true rfl⟩, (hw _ w221), (hw _ w222)⟩ ⟨kb_S, va_recv (ci := 0) (q0 := 0) hK hP rfl rfl, fun U hU hW => ⟨rfl, by rw [hU]; exact hPc, hKK.moved hW⟩⟩ rfl rfl hl.1 rfl (lv_room (Nat.le_of_ble_eq_true rfl)) dD_isGood_10 ⟨Nat.le_of_ble_eq_true rfl, Nat.le_of_ble_eq_true rfl⟩) (fun r3 e4 => ?_)
  obtain rfl : r3 = 0 := e4.trans (by decide +kernel)
  refine lv_aload_n hx hb dD_isGood_13 rfl (lv_at hl 0 rfl) ?_
  refine lv_iload_n hx hb dD_isGood_14 rfl (lv_at hl 1 rfl) ?_
  refine lv_iconst (v := 1) hx hb dD_isGood_15 (by decide) ?_
  have hPc := hP.sub (ws' := [(d, .inr (0, [.ref w, .int (-1), .int 0, .int 0])), (w, .inl (cI, 384, .inl W0))]) [0, 1] rfl
  refine vp_callSi (W.runV (C := "LoggedStore$Disk") (b := d) (As := [.int 22, .int 1]) (rest := [.int 0, .int 22, .int 0]) ⟨hx, hb, hml, hown, hw⟩ (c_wordOf l dC dI cI cZ cJ cT d w W0 22 1 (tv_in (by decide +kernel))) ⟨callB_of 2 hw (gA0 w223) rfl rfl rfl (hw _ w41) (hw _ w220) (by decide +kernel) ⟨Nat.le_of_ble_eq_true rfl, Nat.le_of_ble_eq_true rfl⟩, (hw _ w221), (hw _ w222)⟩ ⟨kb_S, va_recv (ci := 0) (q0 := 0) hK hP rfl rfl, fun U hU hW => ⟨rfl, by rw [hU]; exact hPc, hKK.moved hW⟩⟩ rfl rfl hl.1 rfl (lv_room (Nat.le_of_ble_eq_true rfl)) dD_isGood_16 ⟨Nat.le_of_ble_eq_true rfl, Nat.le_of_ble_eq_true rfl⟩) (fun r5 e6 => ?_)
  obtain rfl : r5 = 0 := e6.trans (by decide +kernel)
  refine lv_aload_n hx hb dD_isGood_19 rfl (lv_at hl 0 rfl) ?_
  refine lv_iload_n hx hb dD_isGood_20 rfl (lv_at hl 1 rfl) ?_
  refine lv_iconst (v := 2) hx hb dD_isGood_21 (by decide) ?_
  have hPc := hP.sub (ws' := [(d, .inr (0, [.ref w, .int (-1), .int 0, .int 0])), (w, .inl (cI, 384, .inl W0))]) [0, 1] rfl
  refine vp_callSi (W.runV (C := "LoggedStore$Disk") (b := d) (As := [.int 22, .int 2]) (rest := [.int 0, .int 0, .int 22, .int 0]) ⟨hx, hb, hml, hown, hw⟩ (c_wordOf l dC dI cI cZ cJ cT d w W0 22 2 (tv_in (by decide +kernel))) ⟨callB_of 2 hw (gA0 w223) rfl rfl rfl (hw _ w41) (hw _ w220) (by decide +kernel) ⟨Nat.le_of_ble_eq_true rfl, Nat.le_of_ble_eq_true rfl⟩, (hw _ w221), (hw _ w222)⟩ ⟨kb_S, va_recv (ci := 0) (q0 := 0) hK hP rfl rfl, fun U hU hW => ⟨rfl, by rw [hU]; exact hPc, hKK.moved hW⟩⟩ rfl rfl hl.1 rfl (lv_room (Nat.le_of_ble_eq_true rfl)) dD_isGood_22 ⟨Nat.le_of_ble_eq_true rfl, Nat.le_of_ble_eq_true rfl⟩) (fun r7 e8 => ?_)
  obtain rfl : r7 = 0 := e8.trans (by decide +kernel)
  have hPc := hP.sub (ws' := []) [] rfl
  refine vp_callSi (W.runS (As := [.int 22, .int 0, .int 0, .int 0]) (rest := [.int 0]) ⟨hx, hb, hml, hown, hw⟩ (c_chk l dC dI cI cZ cJ cT 22 0 0 0) ⟨callB_of 4 hw (gA0 w146) rfl rfl rfl (hw _ w41) (hw _ w144) (by decide +kernel) ⟨Nat.le_of_ble_eq_true rfl, Nat.le_of_ble_eq_true rfl⟩, (hw _ w145)⟩ ⟨kb_S, fun U hU hW => ⟨rfl, by rw [hU]; exact hPc, hKK.moved hW⟩⟩ rfl rfl hl.1 rfl (lv_room (Nat.le_of_ble_eq_true rfl)) dD_isGood_25 ⟨Nat.le_of_ble_eq_true rfl, Nat.le_of_ble_eq_true rfl⟩) (fun r9 e10 => ?_)
  obtain rfl : r9 = 1013906357 := e10.trans (by decide +kernel)
  refine lv_icmp_ne (tgt := 35) hx hb dD_isGood_28 (by decide) (fun _ => ?_) (fun h9 => absurd h9 (by decide))
  refine lv_iconst (v := 0) hx hb dD_isGood_35 (by decide) ?_
  exact W.zret (v := 0) (ty := .boolean) hx hb hr (by decide) (fun t ht hW => ⟨0, rfl, rfl, ht⟩) (fun q h => by cases h) dD_isGood_36

set_option maxHeartbeats 4000000 in
set_option maxRecDepth 100000 in
theorem c_isHeader1 (l : Launch) (dC : Nat → ClassId) (dI : Nat → Nat → Nat) (cI cZ cJ cT : ClassId) (x d w tb wa ts : Nat) : Met l yS_isHeader (Cond.code yS_isHeader cS_isHeader 2 (some .boolean) :: wsA) ({ frames := 2, cells := 0, slots := 0, locals := 44 }) (va_Pc [.ref x, .int 1] (fun U => va_P (dC, dI) vwC [(x, .inr (3, [.ref d, .ref tb, .ref wa, .ref ts, .int 0, .int 1, .int 0, .int 22])), (d, .inr (0, [.ref w, .int (-1), .int 0, .int 0])), (w, .inl (cI, 384, .inl W0))] U.heap ∧ KK dC dI cI cZ cJ cT U)) (vp_Si (fun r => r = 0)) 0 0 (fun _ => False) := by
  refine Met.ofW (cc := cS_isHeader) (maxL := 2) (ret := (some .boolean)) (by decide) rfl ?_
  intro p e s m args below meth c s₁ B hml hv
  obtain ⟨rfl, hP, hKK⟩ := hv
  have hK := hKK.1
  have hx := B.exec
  have hb := B.bytes
  have hr := B.returns
  have hw : ∀ w ∈ wsA, w.before _ s = true := fun w h => atoms_spec (ws := (Cond.code yS_isHeader cS_isHeader 2 (some .boolean) :: wsA)) B.pre w (List.mem_cons_of_mem _ h)
  have hown : s.vm.findClass "LoggedStore" = some m.cls := findClass_of_methodNamed B.named
  have hlocks := B.notSynchronized
  have hl := lv_entry ([.ref x, .int 1]) (n := 2) (Nat.le_of_ble_eq_true rfl)
  rw [lg_entry_eq]
  generalize (lg_sl ([.ref x, .int 1]) ++ List.replicate (2 - (lg_sl ([.ref x, .int 1])).length) Slot.unset).toArray = ls at hl ⊢
  have hl : lv_has ls 2 [(0, .ref x), (1, .int 1)] := hl
  refine lv_aload_n hx hb dS_isHeader_0 rfl (lv_at hl 0 rfl) ?_
  refine va_get (D := (dC, dI)) (ci := 3) (v := .ref d) (C := "LoggedStore") (T := uS) (N := 8) hx hb hw inS hown hK hP 0 rfl rfl 0 (by decide) (hw _ w154) (fun _ h9 => h9) rfl dS_isHeader_1 ?_
  refine lv_iload_n hx hb dS_isHeader_4 rfl (lv_at hl 1 rfl) ?_
  have hPc := hP.sub (ws' := [(d, .inr (0, [.ref w, .int (-1), .int 0, .int 0])), (w, .inl (cI, 384, .inl W0))]) [1, 2] rfl
  refine vp_callSi (W.runV (C := "LoggedStore$Disk") (b := d) (As := [.int 1]) (rest := []) ⟨hx, hb, hml, hown, hw⟩ (c_isGood1 l dC dI cI cZ cJ cT d w) ⟨callB_of 1 hw (gA0 w219) rfl rfl rfl (hw _ w41) (hw _ w216) (by decide +kernel) ⟨Nat.le_of_ble_eq_true rfl, Nat.le_of_ble_eq_true rfl⟩, (hw _ w217), (hw _ w218)⟩ ⟨kb_S, va_recv (ci := 0) (q0 := 1) hK hP rfl rfl, fun U hU hW => ⟨rfl, by rw [hU]; exact hPc, hKK.moved hW⟩⟩ rfl rfl hl.1 rfl (lv_room (Nat.le_of_ble_eq_true rfl)) dS_isHeader_5 ⟨Nat.le_of_ble_eq_true rfl, Nat.le_of_ble_eq_true rfl⟩) (fun r1 e2 => ?_)
  obtain rfl : r1 = 0 := e2
  refine lv_if_eq (tgt := 31) hx hb dS_isHeader_8 (by decide) (fun _ => ?_) (fun h9 => absurd (by decide) h9)
  refine lv_iconst (v := 0) hx hb dS_isHeader_31 (by decide) ?_
  exact W.zret (v := 0) (ty := .boolean) hx hb hr (by decide) (fun t ht hW => ⟨0, rfl, rfl, ht⟩) (fun q h => by cases h) dS_isHeader_32

set_option maxHeartbeats 4000000 in
set_option maxRecDepth 100000 in
theorem c_countingHeader (l : Launch) (dC : Nat → ClassId) (dI : Nat → Nat → Nat) (cI cZ cJ cT : ClassId) (x d w tb wa ts : Nat) : Met l yS_countingHeader (Cond.code yS_countingHeader cS_countingHeader 1 (some .int) :: wsA) ({ frames := 3, cells := 0, slots := 0, locals := 65 }) (va_Pc [.ref x] (fun U => va_P (dC, dI) vwC [(x, .inr (3, [.ref d, .ref tb, .ref wa, .ref ts, .int 0, .int 1, .int 0, .int 22])), (d, .inr (0, [.ref w, .int (-1), .int 0, .int 0])), (w, .inl (cI, 384, .inl W0))] U.heap ∧ KK dC dI cI cZ cJ cT U)) (vp_Si (fun r => r = 0)) 0 0 (fun _ => False) := by
  refine Met.ofW (cc := cS_countingHeader) (maxL := 1) (ret := (some .int)) (by decide) rfl ?_
  intro p e s m args below meth c s₁ B hml hv
  obtain ⟨rfl, hP, hKK⟩ := hv
  have hK := hKK.1
  have hx := B.exec
  have hb := B.bytes
  have hr := B.returns
  have hw : ∀ w ∈ wsA, w.before _ s = true := fun w h => atoms_spec (ws := (Cond.code yS_countingHeader cS_countingHeader 1 (some .int) :: wsA)) B.pre w (List.mem_cons_of_mem _ h)
  have hown : s.vm.findClass "LoggedStore" = some m.cls := findClass_of_methodNamed B.named
  have hlocks := B.notSynchronized
  have hl := lv_entry ([.ref x]) (n := 1) (Nat.le_of_ble_eq_true rfl)
  rw [lg_entry_eq]
  generalize (lg_sl ([.ref x]) ++ List.replicate (1 - (lg_sl ([.ref x])).length) Slot.unset).toArray = ls at hl ⊢
  have hl : lv_has ls 1 [(0, .ref x)] := hl
  refine lv_aload_n hx hb dS_countingHeader_0 rfl (lv_at hl 0 rfl) ?_
  refine lv_iconst (v := 1) hx hb dS_countingHeader_1 (by decide) ?_
  have hPc := hP.sub (ws' := [(x, .inr (3, [.ref d, .ref tb, .ref wa, .ref ts, .int 0, .int 1, .int 0, .int 22])), (d, .inr (0, [.ref w, .int (-1), .int 0, .int 0])), (w, .inl (cI, 384, .inl W0))]) [0, 1, 2] rfl
  refine vp_callSi (W.runV (C := "LoggedStore") (b := x) (As := [.int 1]) (rest := []) ⟨hx, hb, hml, hown, hw⟩ (c_isHeader1 l dC dI cI cZ cJ cT x d w tb wa ts) ⟨callB_of 1 hw (gA0 w215) rfl rfl rfl (hw _ w40) (hw _ w212) (by decide +kernel) ⟨Nat.le_of_ble_eq_true rfl, Nat.le_of_ble_eq_true rfl⟩, (hw _ w214), (hw _ w2)⟩ ⟨kb_S, va_recv (ci := 3) (q0 := 0) hK hP rfl rfl, fun U hU hW => ⟨rfl, by rw [hU]; exact hPc, hKK.moved hW⟩⟩ rfl rfl hl.1 rfl (lv_room (Nat.le_of_ble_eq_true rfl)) dS_countingHeader_2 ⟨Nat.le_of_ble_eq_true rfl, Nat.le_of_ble_eq_true rfl⟩) (fun r1 e2 => ?_)
  obtain rfl : r1 = 0 := e2
  refine lv_if_ne (tgt := 10) hx hb dS_countingHeader_5 (by decide) (fun h9 => absurd (by decide) h9) (fun _ => ?_)
  refine lv_iconst (v := 0) hx hb dS_countingHeader_8 (by decide) ?_
  exact W.iret (v := 0) hx hb hr (fun t ht hW => ⟨0, rfl, rfl, ht⟩) (fun q h => by cases h) dS_countingHeader_9

set_option maxHeartbeats 4000000 in
set_option maxRecDepth 100000 in
theorem c_isOfThisLog (l : Launch) (dC : Nat → ClassId) (dI : Nat → Nat → Nat) (cI cZ cJ cT : ClassId) (x d w tb wa ts : Nat) : Met l yS_isOfThisLog (Cond.code yS_isOfThisLog cS_isOfThisLog 2 (some .boolean) :: wsA) ({ frames := 2, cells := 0, slots := 0, locals := 44 }) (va_Pc [.ref x, .int 22] (fun U => va_P (dC, dI) vwC [(x, .inr (3, [.ref d, .ref tb, .ref wa, .ref ts, .int 0, .int 1, .int 0, .int 22])), (d, .inr (0, [.ref w, .int (-1), .int 0, .int 0])), (w, .inl (cI, 384, .inl W0))] U.heap ∧ KK dC dI cI cZ cJ cT U)) (vp_Si (fun r => r = 0)) 0 0 (fun _ => False) := by
  refine Met.ofW (cc := cS_isOfThisLog) (maxL := 2) (ret := (some .boolean)) (by decide) rfl ?_
  intro p e s m args below meth c s₁ B hml hv
  obtain ⟨rfl, hP, hKK⟩ := hv
  have hK := hKK.1
  have hx := B.exec
  have hb := B.bytes
  have hr := B.returns
  have hw : ∀ w ∈ wsA, w.before _ s = true := fun w h => atoms_spec (ws := (Cond.code yS_isOfThisLog cS_isOfThisLog 2 (some .boolean) :: wsA)) B.pre w (List.mem_cons_of_mem _ h)
  have hown : s.vm.findClass "LoggedStore" = some m.cls := findClass_of_methodNamed B.named
  have hlocks := B.notSynchronized
  have hl := lv_entry ([.ref x, .int 22]) (n := 2) (Nat.le_of_ble_eq_true rfl)
  rw [lg_entry_eq]
  generalize (lg_sl ([.ref x, .int 22]) ++ List.replicate (2 - (lg_sl ([.ref x, .int 22])).length) Slot.unset).toArray = ls at hl ⊢
  have hl : lv_has ls 2 [(0, .ref x), (1, .int 22)] := hl
  refine lv_aload_n hx hb dS_isOfThisLog_0 rfl (lv_at hl 0 rfl) ?_
  refine va_get (D := (dC, dI)) (ci := 3) (v := .ref d) (C := "LoggedStore") (T := uS) (N := 8) hx hb hw inS hown hK hP 0 rfl rfl 0 (by decide) (hw _ w154) (fun _ h9 => h9) rfl dS_isOfThisLog_1 ?_
  refine lv_iload_n hx hb dS_isOfThisLog_4 rfl (lv_at hl 1 rfl) ?_
  have hPc := hP.sub (ws' := [(d, .inr (0, [.ref w, .int (-1), .int 0, .int 0])), (w, .inl (cI, 384, .inl W0))]) [1, 2] rfl
  refine vp_callSi (W.runV (C := "LoggedStore$Disk") (b := d) (As := [.int 22]) (rest := []) ⟨hx, hb, hml, hown, hw⟩ (c_isGood22 l dC dI cI cZ cJ cT d w) ⟨callB_of 1 hw (gA0 w219) rfl rfl rfl (hw _ w41) (hw _ w216) (by decide +kernel) ⟨Nat.le_of_ble_eq_true rfl, Nat.le_of_ble_eq_true rfl⟩, (hw _ w217), (hw _ w218)⟩ ⟨kb_S, va_recv (ci := 0) (q0 := 1) hK hP rfl rfl, fun U hU hW => ⟨rfl, by rw [hU]; exact hPc, hKK.moved hW⟩⟩ rfl rfl hl.1 rfl (lv_room (Nat.le_of_ble_eq_true rfl)) dS_isOfThisLog_5 ⟨Nat.le_of_ble_eq_true rfl, Nat.le_of_ble_eq_true rfl⟩) (fun r1 e2 => ?_)
  obtain rfl : r1 = 0 := e2
  refine lv_if_eq (tgt := 35) hx hb dS_isOfThisLog_8 (by decide) (fun _ => ?_) (fun h9 => absurd (by decide) h9)
  refine lv_iconst (v := 0) hx hb dS_isOfThisLog_35 (by decide) ?_
  exact W.zret (v := 0) (ty := .boolean) hx hb hr (by decide) (fun t ht hW => ⟨0, rfl, rfl, ht⟩) (fun q h => by cases h) dS_isOfThisLog_36

set_option maxHeartbeats 4000000 in
set_option maxRecDepth 100000 in
theorem c_areaBegin0 (l : Launch) (dC : Nat → ClassId) (dI : Nat → Nat → Nat) (cI cZ cJ cT : ClassId) : Met l yS_areaBegin (Cond.code yS_areaBegin cS_areaBegin 1 (some .int) :: wsA) ({ frames := 0, cells := 0, slots := 0, locals := 0 }) (va_Pc [.int 0] (fun U => va_P (dC, dI) vwC [] U.heap ∧ KK dC dI cI cZ cJ cT U)) (vp_Si (fun r => r = 2)) 0 0 (fun _ => False) := by
  refine Met.ofW (cc := cS_areaBegin) (maxL := 1) (ret := (some .int)) (by decide) rfl ?_
  intro p e s m args below meth c s₁ B hml hv
  obtain ⟨rfl, hP, hKK⟩ := hv
  have hK := hKK.1
  have hx := B.exec
  have hb := B.bytes
  have hr := B.returns
  have hw : ∀ w ∈ wsA, w.before _ s = true := fun w h => atoms_spec (ws := (Cond.code yS_areaBegin cS_areaBegin 1 (some .int) :: wsA)) B.pre w (List.mem_cons_of_mem _ h)
  have hown : s.vm.findClass "LoggedStore" = some m.cls := findClass_of_methodNamed B.named
  have hlocks := B.notSynchronized
  have hl := lv_entry ([.int 0]) (n := 1) (Nat.le_of_ble_eq_true rfl)
  rw [lg_entry_eq]
  generalize (lg_sl ([.int 0]) ++ List.replicate (1 - (lg_sl ([.int 0])).length) Slot.unset).toArray = ls at hl ⊢
  have hl : lv_has ls 1 [(0, .int 0)] := hl
  refine lv_iconst (v := 2) hx hb dS_areaBegin_0 (by decide) ?_
  refine lv_bipush (v := 10) hx hb dS_areaBegin_1 (by decide) ?_
  refine lv_iload_n hx hb dS_areaBegin_3 rfl (lv_at hl 0 rfl) ?_
  refine lv_imul hx hb dS_areaBegin_4 ?_
  refine lv_topi (nm_r (e' := 0) (by decide +kernel) ?_)
  refine lv_iadd hx hb dS_areaBegin_5 ?_
  refine lv_topi (nm_r (e' := 2) (by decide +kernel) ?_)
  exact W.iret (v := 2) hx hb hr (fun t ht hW => ⟨2, rfl, rfl, ht⟩) (fun q h => by cases h) dS_areaBegin_6

set_option maxHeartbeats 4000000 in
set_option maxRecDepth 100000 in
theorem c_areaBegin1 (l : Launch) (dC : Nat → ClassId) (dI : Nat → Nat → Nat) (cI cZ cJ cT : ClassId) : Met l yS_areaBegin (Cond.code yS_areaBegin cS_areaBegin 1 (some .int) :: wsA) ({ frames := 0, cells := 0, slots := 0, locals := 0 }) (va_Pc [.int 1] (fun U => va_P (dC, dI) vwC [] U.heap ∧ KK dC dI cI cZ cJ cT U)) (vp_Si (fun r => r = 12)) 0 0 (fun _ => False) := by
  refine Met.ofW (cc := cS_areaBegin) (maxL := 1) (ret := (some .int)) (by decide) rfl ?_
  intro p e s m args below meth c s₁ B hml hv
  obtain ⟨rfl, hP, hKK⟩ := hv
  have hK := hKK.1
  have hx := B.exec
  have hb := B.bytes
  have hr := B.returns
  have hw : ∀ w ∈ wsA, w.before _ s = true := fun w h => atoms_spec (ws := (Cond.code yS_areaBegin cS_areaBegin 1 (some .int) :: wsA)) B.pre w (List.mem_cons_of_mem _ h)
  have hown : s.vm.findClass "LoggedStore" = some m.cls := findClass_of_methodNamed B.named
  have hlocks := B.notSynchronized
  have hl := lv_entry ([.int 1]) (n := 1) (Nat.le_of_ble_eq_true rfl)
  rw [lg_entry_eq]
  generalize (lg_sl ([.int 1]) ++ List.replicate (1 - (lg_sl ([.int 1])).length) Slot.unset).toArray = ls at hl ⊢
  have hl : lv_has ls 1 [(0, .int 1)] := hl
  refine lv_iconst (v := 2) hx hb dS_areaBegin_0 (by decide) ?_
  refine lv_bipush (v := 10) hx hb dS_areaBegin_1 (by decide) ?_
  refine lv_iload_n hx hb dS_areaBegin_3 rfl (lv_at hl 0 rfl) ?_
  refine lv_imul hx hb dS_areaBegin_4 ?_
  refine lv_topi (nm_r (e' := 10) (by decide +kernel) ?_)
  refine lv_iadd hx hb dS_areaBegin_5 ?_
  refine lv_topi (nm_r (e' := 12) (by decide +kernel) ?_)
  exact W.iret (v := 12) hx hb hr (fun t ht hW => ⟨12, rfl, rfl, ht⟩) (fun q h => by cases h) dS_areaBegin_6

set_option maxHeartbeats 4000000 in
set_option maxRecDepth 100000 in
theorem c_word_x (l : Launch) (dC : Nat → ClassId) (dI : Nat → Nat → Nat) (cI cZ cJ cT : ClassId) (x d w tb wa ts : Nat) (b9 i9 : Int32) (hb9 : b9 < 0 ∨ (¬ b9 < 0 ∧ ¬ b9 < 96 ∧ 95 < b9) ∨ (∃ j : Nat, j < 96 ∧ b9 = nI j) ∧ (i9 < 0 ∨ (¬ i9 < 0 ∧ ¬ i9 < 4 ∧ 3 < i9))) : Met l yS_word (Cond.code yS_word cS_word 3 (some .int) :: wsA) ({ frames := 0, cells := 0, slots := 0, locals := 0 }) (va_Pc [.ref x, .int b9, .int i9] (fun U => va_P (dC, dI) vwC [(x, .inr (3, [.ref d, .ref tb, .ref wa, .ref ts, .int 0, .int 1, .int 0, .int 22]))] U.heap ∧ KK dC dI cI cZ cJ cT U)) (vp_Si (fun r => r = 0)) 0 0 (fun _ => False) := by
  refine Met.ofW (cc := cS_word) (maxL := 3) (ret := (some .int)) (by decide) rfl ?_
  intro p e s m args below meth c s₁ B hml hv
  obtain ⟨rfl, hP, hKK⟩ := hv
  rcases hb9 with h1 | ⟨h1, h2, h3⟩ | ⟨⟨j, hj, rfl⟩, h4 | ⟨h4, h5, h6⟩⟩
  · have hK := hKK.1
    have hx := B.exec
    have hb := B.bytes
    have hr := B.returns
    have hw : ∀ w ∈ wsA, w.before _ s = true := fun w h => atoms_spec (ws := (Cond.code yS_word cS_word 3 (some .int) :: wsA)) B.pre w (List.mem_cons_of_mem _ h)
    have hown : s.vm.findClass "LoggedStore" = some m.cls := findClass_of_methodNamed B.named
    have hlocks := B.notSynchronized
    have hl := lv_entry ([.ref x, .int b9, .int i9]) (n := 3) (Nat.le_of_ble_eq_true rfl)
    rw [lg_entry_eq]
    generalize (lg_sl ([.ref x, .int b9, .int i9]) ++ List.replicate (3 - (lg_sl ([.ref x, .int b9, .int i9])).length) Slot.unset).toArray = ls at hl ⊢
    have hl : lv_has ls 3 [(0, .ref x), (1, .int b9), (2, .int i9)] := hl
    refine lv_iload_n hx hb dS_word_0 rfl (lv_at hl 1 rfl) ?_
    refine lv_if_lt (tgt := 19) hx hb dS_word_1 (by decide) (fun _ => ?_) (fun h9 => absurd (h1) h9)
    refine lv_iconst (v := 0) hx hb dS_word_19 (by decide) ?_
    exact W.iret (v := 0) hx hb hr (fun t ht hW => ⟨0, rfl, rfl, ht⟩) (fun q h => by cases h) dS_word_20
  · have hK := hKK.1
    have hx := B.exec
    have hb := B.bytes
    have hr := B.returns
    have hw : ∀ w ∈ wsA, w.before _ s = true := fun w h => atoms_spec (ws := (Cond.code yS_word cS_word 3 (some .int) :: wsA)) B.pre w (List.mem_cons_of_mem _ h)
    have hown : s.vm.findClass "LoggedStore" = some m.cls := findClass_of_methodNamed B.named
    have hlocks := B.notSynchronized
    have hl := lv_entry ([.ref x, .int b9, .int i9]) (n := 3) (Nat.le_of_ble_eq_true rfl)
    rw [lg_entry_eq]
    generalize (lg_sl ([.ref x, .int b9, .int i9]) ++ List.replicate (3 - (lg_sl ([.ref x, .int b9, .int i9])).length) Slot.unset).toArray = ls at hl ⊢
    have hl : lv_has ls 3 [(0, .ref x), (1, .int b9), (2, .int i9)] := hl
    refine lv_iload_n hx hb dS_word_0 rfl (lv_at hl 1 rfl) ?_
    refine lv_if_lt (tgt := 19) hx hb dS_word_1 (by decide) (fun h9 => absurd h9 (h1)) (fun _ => ?_)
    refine lv_iload_n hx hb dS_word_4 rfl (lv_at hl 1 rfl) ?_
    refine lv_bipush (v := 96) hx hb dS_word_5 (by decide) ?_
    refine lv_icmp_ge (tgt := 19) hx hb dS_word_7 (by decide) (fun _ => ?_) (fun h9 => absurd (Int32.not_lt.mp h2) h9)
    refine lv_iconst (v := 0) hx hb dS_word_19 (by decide) ?_
    exact W.iret (v := 0) hx hb hr (fun t ht hW => ⟨0, rfl, rfl, ht⟩) (fun q h => by cases h) dS_word_20
  · have hK := hKK.1
    have hx := B.exec
    have hb := B.bytes
    have hr := B.returns
    have hw : ∀ w ∈ wsA, w.before _ s = true := fun w h => atoms_spec (ws := (Cond.code yS_word cS_word 3 (some .int) :: wsA)) B.pre w (List.mem_cons_of_mem _ h)
    have hown : s.vm.findClass "LoggedStore" = some m.cls := findClass_of_methodNamed B.named
    have hlocks := B.notSynchronized
    have hl := lv_entry ([.ref x, .int (nI j), .int i9]) (n := 3) (Nat.le_of_ble_eq_true rfl)
    rw [lg_entry_eq]
    generalize (lg_sl ([.ref x, .int (nI j), .int i9]) ++ List.replicate (3 - (lg_sl ([.ref x, .int (nI j), .int i9])).length) Slot.unset).toArray = ls at hl ⊢
    have hl : lv_has ls 3 [(0, .ref x), (1, .int (nI j)), (2, .int i9)] := hl
    refine lv_iload_n hx hb dS_word_0 rfl (lv_at hl 1 rfl) ?_
    refine lv_if_lt (tgt := 19) hx hb dS_word_1 (by decide) (fun h9 => absurd h9 (nI_pos (by omega))) (fun _ => ?_)
    refine lv_iload_n hx hb dS_word_4 rfl (lv_at hl 1 rfl) ?_
    refine lv_bipush (v := 96) hx hb dS_word_5 (by decide) ?_
    refine lv_icmp_ge (tgt := 19) hx hb dS_word_7 (by decide) (fun h9 => absurd h9 (nI_ge hj (by decide))) (fun _ => ?_)
    refine lv_iload_n hx hb dS_word_10 rfl (lv_at hl 2 rfl) ?_
    refine lv_if_lt (tgt := 19) hx hb dS_word_11 (by decide) (fun _ => ?_) (fun h9 => absurd (h4) h9)
    refine lv_iconst (v := 0) hx hb dS_word_19 (by decide) ?_
    exact W.iret (v := 0) hx hb hr (fun t ht hW => ⟨0, rfl, rfl, ht⟩) (fun q h => by cases h) dS_word_20
  · have hK := hKK.1
    have hx := B.exec
    have hb := B.bytes
    have hr := B.returns
    have hw : ∀ w ∈ wsA, w.before _ s = true := fun w h => atoms_spec (ws := (Cond.code yS_word cS_word 3 (some .int) :: wsA)) B.pre w (List.mem_cons_of_mem _ h)
    have hown : s.vm.findClass "LoggedStore" = some m.cls := findClass_of_methodNamed B.named
    have hlocks := B.notSynchronized
    have hl := lv_entry ([.ref x, .int (nI j), .int i9]) (n := 3) (Nat.le_of_ble_eq_true rfl)
    rw [lg_entry_eq]
    generalize (lg_sl ([.ref x, .int (nI j), .int i9]) ++ List.replicate (3 - (lg_sl ([.ref x, .int (nI j), .int i9])).length) Slot.unset).toArray = ls at hl ⊢
    have hl : lv_has ls 3 [(0, .ref x), (1, .int (nI j)), (2, .int i9)] := hl
    refine lv_iload_n hx hb dS_word_0 rfl (lv_at hl 1 rfl) ?_
    refine lv_if_lt (tgt := 19) hx hb dS_word_1 (by decide) (fun h9 => absurd h9 (nI_pos (by omega))) (fun _ => ?_)
    refine lv_iload_n hx hb dS_word_4 rfl (lv_at hl 1 rfl) ?_
    refine lv_bipush (v := 96) hx hb dS_word_5 (by decide) ?_
    refine lv_icmp_ge (tgt := 19) hx hb dS_word_7 (by decide) (fun h9 => absurd h9 (nI_ge hj (by decide))) (fun _ => ?_)
    refine lv_iload_n hx hb dS_word_10 rfl (lv_at hl 2 rfl) ?_
    refine lv_if_lt (tgt := 19) hx hb dS_word_11 (by decide) (fun h9 => absurd h9 (h4)) (fun _ => ?_)
    refine lv_iload_n hx hb dS_word_14 rfl (lv_at hl 2 rfl) ?_
    refine lv_iconst (v := 4) hx hb dS_word_15 (by decide) ?_
    refine lv_icmp_lt (tgt := 21) hx hb dS_word_16 (by decide) (fun h9 => absurd h9 (h5)) (fun _ => ?_)
    refine lv_iconst (v := 0) hx hb dS_word_19 (by decide) ?_
    exact W.iret (v := 0) hx hb hr (fun t ht hW => ⟨0, rfl, rfl, ht⟩) (fun q h => by cases h) dS_word_20

set_option maxHeartbeats 4000000 in
set_option maxRecDepth 100000 in
theorem c_word_y (l : Launch) (dC : Nat → ClassId) (dI : Nat → Nat → Nat) (cI cZ cJ cT : ClassId) (x d w tb wa ts : Nat) (j i : Nat) (hj : j < 96) (hi : i < 4) : Met l yS_word (Cond.code yS_word cS_word 3 (some .int) :: wsA) ({ frames := 1, cells := 0, slots := 0, locals := 22 }) (va_Pc [.ref x, .int (nI j), .int (nI i)] (fun U => va_P (dC, dI) vwC [(x, .inr (3, [.ref d, .ref tb, .ref wa, .ref ts, .int 0, .int 1, .int 0, .int 22])), (d, .inr (0, [.ref w, .int (-1), .int 0, .int 0])), (w, .inl (cI, 384, .inl W0))] U.heap ∧ KK dC dI cI cZ cJ cT U)) (vp_Si (fun r => r = W0 ((4 * (nI j)) + (nI i)).toNatClampNeg)) 0 0 (fun _ => False) := by
  refine Met.ofW (cc := cS_word) (maxL := 3) (ret := (some .int)) (by decide) rfl ?_
  intro p e s m args below meth c s₁ B hml hv
  obtain ⟨rfl, hP, hKK⟩ := hv
  have hK := hKK.1
  have hx := B.exec
  have hb := B.bytes
  have hr := B.returns
  have hw : ∀ w ∈ wsA, w.before _ s = true := fun w h => atoms_spec (ws := (Cond.code yS_word cS_word 3 (some .int) :: wsA)) B.pre w (List.mem_cons_of_mem _ h)
  have hown : s.vm.findClass "LoggedStore" = some m.cls := findClass_of_methodNamed B.named
  have hlocks := B.notSynchronized
  have hl := lv_entry ([.ref x, .int (nI j), .int (nI i)]) (n := 3) (Nat.le_of_ble_eq_true rfl)
  rw [lg_entry_eq]
  generalize (lg_sl ([.ref x, .int (nI j), .int (nI i)]) ++ List.replicate (3 - (lg_sl ([.ref x, .int (nI j), .int (nI i)])).length) Slot.unset).toArray = ls at hl ⊢
  have hl : lv_has ls 3 [(0, .ref x), (1, .int (nI j)), (2, .int (nI i))] := hl
  refine lv_iload_n hx hb dS_word_0 rfl (lv_at hl 1 rfl) ?_
  refine lv_if_lt (tgt := 19) hx hb dS_word_1 (by decide) (fun h9 => absurd h9 (nI_pos (by omega))) (fun _ => ?_)
  refine lv_iload_n hx hb dS_word_4 rfl (lv_at hl 1 rfl) ?_
  refine lv_bipush (v := 96) hx hb dS_word_5 (by decide) ?_
  refine lv_icmp_ge (tgt := 19) hx hb dS_word_7 (by decide) (fun h9 => absurd h9 (nI_ge hj (by decide))) (fun _ => ?_)
  refine lv_iload_n hx hb dS_word_10 rfl (lv_at hl 2 rfl) ?_
  refine lv_if_lt (tgt := 19) hx hb dS_word_11 (by decide) (fun h9 => absurd h9 (nI_pos (by omega))) (fun _ => ?_)
  refine lv_iload_n hx hb dS_word_14 rfl (lv_at hl 2 rfl) ?_
  refine lv_iconst (v := 4) hx hb dS_word_15 (by decide) ?_
  refine lv_icmp_lt (tgt := 21) hx hb dS_word_16 (by decide) (fun _ => ?_) (fun h9 => absurd (nI_lt hi (by decide)) h9)
  refine lv_aload_n hx hb dS_word_21 rfl (lv_at hl 0 rfl) ?_
  refine va_get (D := (dC, dI)) (ci := 3) (v := .ref d) (C := "LoggedStore") (T := uS) (N := 8) hx hb hw inS hown hK hP 0 rfl rfl 0 (by decide) (hw _ w154) (fun _ h9 => h9) rfl dS_word_22 ?_
  refine lv_iload_n hx hb dS_word_25 rfl (lv_at hl 1 rfl) ?_
  refine lv_iload_n hx hb dS_word_26 rfl (lv_at hl 2 rfl) ?_
  have hPc := hP.sub (ws' := [(d, .inr (0, [.ref w, .int (-1), .int 0, .int 0])), (w, .inl (cI, 384, .inl W0))]) [1, 2] rfl
  refine vp_callSi (W.runV (C := "LoggedStore$Disk") (b := d) (As := [.int (nI j), .int (nI i)]) (rest := []) ⟨hx, hb, hml, hown, hw⟩ (c_wordOf l dC dI cI cZ cJ cT d w W0 (nI j) (nI i) (by rw [tk_w]; exact vp_in_nI (by omega) (by decide))) ⟨callB_of 2 hw (gA0 w223) rfl rfl rfl (hw _ w41) (hw _ w224) (by decide +kernel) ⟨Nat.le_of_ble_eq_true rfl, Nat.le_of_ble_eq_true rfl⟩, (hw _ w221), (hw _ w222)⟩ ⟨kb_S, va_recv (ci := 0) (q0 := 1) hK hP rfl rfl, fun U hU hW => ⟨rfl, by rw [hU]; exact hPc, hKK.moved hW⟩⟩ rfl rfl hl.1 rfl (lv_room (Nat.le_of_ble_eq_true rfl)) dS_word_27 ⟨Nat.le_of_ble_eq_true rfl, Nat.le_of_ble_eq_true rfl⟩) (fun r1 e2 => ?_)
  obtain rfl : r1 = W0 ((4 * (nI j)) + (nI i)).toNatClampNeg := e2
  exact W.iret (v := W0 ((4 * (nI j)) + (nI i)).toNatClampNeg) hx hb hr (fun t ht hW => ⟨W0 ((4 * (nI j)) + (nI i)).toNatClampNeg, rfl, rfl, ht⟩) (fun q h => by cases h) dS_word_30

set_option maxHeartbeats 4000000 in
set_option maxRecDepth 100000 in
theorem c_powerUp (l : Launch) (dC : Nat → ClassId) (dI : Nat → Nat → Nat) (cI cZ cJ cT : ClassId) (d w : Nat) (sz : Nat) : Met l yD_powerUp (Cond.code yD_powerUp cD_powerUp 1 none :: wsA) ({ frames := 0, cells := 0, slots := 0, locals := 0 }) (va_Pc [.ref d] (fun U => U.heap.size = sz ∧ va_P (dC, dI) vwC [(d, .inr (0, [.ref w, .int (-1), .int 0, .int 0]))] U.heap ∧ KK dC dI cI cZ cJ cT U ∧ va_D (fun _ => True) [(d, .inr (0, [.ref w, .int (-1), .int 0, .int 0]))])) (va_Qv (S := Nat → Nat) (fun _ => True) (fun u t => va_P (dC, dI) vwC [(d, .inr (0, [.ref w, .int (-1), .int 0, .int 0]))] t.heap ∧ va_D (va_A [(d, .inr (0, [.ref w, .int (-1), .int 0, .int 0]))] sz) [(d, .inr (0, [.ref w, .int (-1), .int 0, .int 0]))]) (va_A [(d, .inr (0, [.ref w, .int (-1), .int 0, .int 0]))] sz)) 0 0 (va_A [(d, .inr (0, [.ref w, .int (-1), .int 0, .int 0]))] sz) := by
  refine Met.ofW (cc := cD_powerUp) (maxL := 1) (ret := none) (by decide) rfl ?_
  intro p e s m args below meth c s₁ B hml hv
  obtain ⟨rfl, hsz, hP, hKK, hD0⟩ := hv
  have hK := hKK.1
  have hx := B.exec
  have hb := B.bytes
  have hr := B.returns
  have hw : ∀ w ∈ wsA, w.before _ s = true := fun w h => atoms_spec (ws := (Cond.code yD_powerUp cD_powerUp 1 none :: wsA)) B.pre w (List.mem_cons_of_mem _ h)
  have hown : s.vm.findClass "LoggedStore$Disk" = some m.cls := findClass_of_methodNamed B.named
  have hlocks := B.notSynchronized
  subst hsz
  have hD := hD0.self (sz := s.heap.size)
  generalize hAe : va_A [(d, .inr (0, [.ref w, .int (-1), .int 0, .int 0]))] s.heap.size = A at hD ⊢
  have hA : ∀ q : Nat, s.heap.size ≤ q → A q := fun q h => by rw [← hAe]; exact Or.inr h
  have hS : va_S A s.heap s.heap [] := va_S.rf
  have hl := lv_entry ([.ref d]) (n := 1) (Nat.le_of_ble_eq_true rfl)
  rw [lg_entry_eq]
  generalize (lg_sl ([.ref d]) ++ List.replicate (1 - (lg_sl ([.ref d])).length) Slot.unset).toArray = ls at hl ⊢
  have hl : lv_has ls 1 [(0, .ref d)] := hl
  refine lv_aload_n hx hb dD_powerUp_0 rfl (lv_at hl 0 rfl) ?_
  refine lv_iconst (v := 0) hx hb dD_powerUp_1 (by decide) ?_
  refine va_put (D := (dC, dI)) (ci := 0) (v := .int 0) (ty := .boolean) (C := "LoggedStore$Disk") (T := uD) (N := 4) hx hb hw inD tyD tyD_ok nmD hown hK hP hD hS 0 rfl rfl 3 (by decide) (hw _ w72) (fun _ h9 => h9) rfl (by decide +kernel) rfl rfl (Nat.le_of_ble_eq_true rfl) dD_powerUp_2 (fun H locs hP hD hS => ?_)
  have hP : va_P (dC, dI) vwC [(d, .inr (0, [.ref w, .int (-1), .int 0, .int 0]))] H := hP
  have hD : va_D A [(d, .inr (0, [.ref w, .int (-1), .int 0, .int 0]))] := hD
  refine lv_aload_n hx hb dD_powerUp_5 rfl (lv_at hl 0 rfl) ?_
  refine lv_iconst (v := (-1)) hx hb dD_powerUp_6 (by decide) ?_
  refine va_put (D := (dC, dI)) (ci := 0) (v := .int (-1)) (ty := .int) (C := "LoggedStore$Disk") (T := uD) (N := 4) hx hb hw inD tyD tyD_ok nmD hown hK hP hD hS 0 rfl rfl 1 (by decide) (hw _ w70) (fun _ h9 => h9) rfl (by decide +kernel) rfl rfl (Nat.le_of_ble_eq_true rfl) dD_powerUp_7 (fun H locs hP hD hS => ?_)
  have hP : va_P (dC, dI) vwC [(d, .inr (0, [.ref w, .int (-1), .int 0, .int 0]))] H := hP
  have hD : va_D A [(d, .inr (0, [.ref w, .int (-1), .int 0, .int 0]))] := hD
  have hP9 := hP.sub (ws' := [(d, .inr (0, [.ref w, .int (-1), .int 0, .int 0]))]) [0] rfl
  have hD9 := hD.sub (ws' := [(d, .inr (0, [.ref w, .int (-1), .int 0, .int 0]))]) [0] (by decide) rfl
  refine W.widen (k := 0) (n := 0) (by decide) (by decide) ?_
  exact W.vret hx hb hr (fun t ht hW => ⟨⟨fun _ => 0, rfl, trivial, by rw [ht]; exact hP9, hD9⟩, hS.F ht⟩) hS.2.2 dD_powerUp_10

set_option maxHeartbeats 4000000 in
set_option maxRecDepth 100000 in
theorem c_fill (l : Launch) (dC : Nat → ClassId) (dI : Nat → Nat → Nat) (cI cZ cJ cT : ClassId) (wa : Nat) (sz : Nat) : Met l yY_fill (Cond.code yY_fill cY_fill 4 none :: wsA) ({ frames := 0, cells := 0, slots := 0, locals := 0 }) (va_Pc [.ref wa, .int 0] (fun U => U.heap.size = sz ∧ va_P (dC, dI) vwC [(wa, .inl (cI, 64, .inl (fun _ => 0)))] U.heap ∧ KK dC dI cI cZ cJ cT U ∧ va_D (fun _ => True) [(wa, .inl (cI, 64, .inl (fun _ => 0)))])) (va_Qv (S := Nat → Nat) (fun _ => True) (fun _ _ => True) (va_A [(wa, .inl (cI, 64, .inl (fun _ => 0)))] sz)) 0 0 (va_A [(wa, .inl (cI, 64, .inl (fun _ => 0)))] sz) := by
  refine va_MetF (cc := cY_fill) (maxL := 4) (ret := none) (by decide +kernel) rfl ?_
  intro p e s m args below meth c s₁ B hml hv
  obtain ⟨rfl, hsz, hP, hKK, hD0⟩ := hv
  have hK := hKK.1
  have hx := B.exec
  have hb := B.bytes
  have hr := B.returns
  have hw : ∀ w ∈ wsA, w.before _ s = true := fun w h => atoms_spec (ws := (Cond.code yY_fill cY_fill 4 none :: wsA)) B.pre w (List.mem_cons_of_mem _ h)
  have hown : s.vm.findClass "java/util/Arrays" = some m.cls := findClass_of_methodNamed B.named
  have hlocks := B.notSynchronized
  subst hsz
  have hD := hD0.self (sz := s.heap.size)
  generalize hAe : va_A [(wa, .inl (cI, 64, .inl (fun _ => 0)))] s.heap.size = A at hD ⊢
  have hA : ∀ q : Nat, s.heap.size ≤ q → A q := fun q h => by rw [← hAe]; exact Or.inr h
  have hS : va_S A s.heap s.heap [] := va_S.rf
  have hl := lv_entry ([.ref wa, .int 0]) (n := 4) (Nat.le_of_ble_eq_true rfl)
  rw [lg_entry_eq]
  generalize (lg_sl ([.ref wa, .int 0]) ++ List.replicate (4 - (lg_sl ([.ref wa, .int 0])).length) Slot.unset).toArray = ls at hl ⊢
  have hl : lv_has ls 4 [(0, .ref wa), (1, .int 0)] := hl
  refine lv_iconst (v := 0) hx hb dY_fill_0 (by decide) ?_
  refine lv_istore_n hx hb dY_fill_1 rfl hl (by decide) rfl (fun ls hl => ?_)
  have hl : lv_has ls 4 [(2, .int 0), (0, .ref wa), (1, .int 0)] := hl
  refine lv_aload_n hx hb dY_fill_2 rfl (lv_at hl 1 rfl) ?_
  refine va_alen (v := 64) hx hb hK hP 0 0 rfl rfl (by decide) dY_fill_3 ?_
  refine lv_istore_n hx hb dY_fill_4 rfl hl (by decide) rfl (fun ls hl => ?_)
  have hl : lv_has ls 4 [(3, .int 64), (2, .int 0), (0, .ref wa), (1, .int 0)] := hl
  refine tk_forW (nL := 4) (D := (dC, dI)) (cl := vwC) (A := A) (H0 := s.heap) (σ := (Nat → Int32)) (G := fun ls H locs => W p l e _ s m _ below meth c H locs _ _ _ (F0 m 5 ls [])) (fun i => [(3, .int 64), (2, .int (nI i)), (0, .ref wa), (1, .int 0)]) (fun z => [(wa, .inl (cI, 64, .inl z))]) 64 ?_ ?_ (fun _ => 0) ls s.heap [] hl hP hD hS
  · intro z ls H locs hl hP hD hS
    have hl : lv_has ls 4 [(3, .int 64), (2, .int (nI 64)), (0, .ref wa), (1, .int 0)] := hl
    have hP : va_P (dC, dI) vwC [(wa, .inl (cI, 64, .inl z))] H := hP
    have hD : va_D A [(wa, .inl (cI, 64, .inl z))] := hD
    refine lv_iload_n hx hb dY_fill_5 rfl (lv_at hl 1 rfl) ?_
    refine lv_iload_n hx hb dY_fill_6 rfl (lv_at hl 0 rfl) ?_
    refine lv_icmp_ge (tgt := 20) hx hb dY_fill_7 (by decide) (fun _ => ?_) (fun h9 => absurd (by decide +kernel) h9)
    refine W.widen (k := 0) (n := 0) (by decide) (by decide) ?_
    exact W.vret hx hb hr (fun t ht hW => ⟨⟨fun _ => 0, rfl, trivial, trivial⟩, hS.F ht⟩) hS.2.2 dY_fill_20
  · intro i hi z ls H locs hl hP hD hS ih
    have hl : lv_has ls 4 [(3, .int 64), (2, .int (nI i)), (0, .ref wa), (1, .int 0)] := hl
    have hP : va_P (dC, dI) vwC [(wa, .inl (cI, 64, .inl z))] H := hP
    have hD : va_D A [(wa, .inl (cI, 64, .inl z))] := hD
    refine lv_iload_n hx hb dY_fill_5 rfl (lv_at hl 1 rfl) ?_
    refine lv_iload_n hx hb dY_fill_6 rfl (lv_at hl 0 rfl) ?_
    refine lv_icmp_ge (tgt := 20) hx hb dY_fill_7 (by decide) (fun h9 => absurd h9 (nI_ge hi (by decide))) (fun _ => ?_)
    refine lv_aload_n hx hb dY_fill_10 rfl (lv_at hl 2 rfl) ?_
    refine lv_iload_n hx hb dY_fill_11 rfl (lv_at hl 1 rfl) ?_
    refine lv_iload_n hx hb dY_fill_12 rfl (lv_at hl 3 rfl) ?_
    refine va_iast hx hb hK hP hD hS 0 0 rfl rfl (vp_in_nI hi (by decide)) dY_fill_13 (fun H locs hP hD hS => ?_)
    have hP : va_P (dC, dI) vwC [(wa, .inl (cI, 64, .inl (upd z (nI i : Int32).toNatClampNeg 0)))] H := hP
    have hD : va_D A [(wa, .inl (cI, 64, .inl (upd z (nI i : Int32).toNatClampNeg 0)))] := hD
    refine lv_iinc (k := 1) (v := nI (i + 1)) hx hb dY_fill_14 hl rfl (nI_1 i) (by decide) rfl (fun ls hl => ?_)
    have hl : lv_has ls 4 [(2, .int (nI (i + 1))), (3, .int 64), (0, .ref wa), (1, .int 0)] := hl
    refine lv_goto (tgt := 5) hx hb dY_fill_17 (by decide) ?_
    have hl := lv_sub (l' := [(3, .int 64), (2, .int (nI (i + 1))), (0, .ref wa), (1, .int 0)]) hl [1, 0, 2, 3] rfl
    exact ih (upd z (nI i : Int32).toNatClampNeg 0) ls H locs hl hP hD hS

set_option maxHeartbeats 4000000 in
set_option maxRecDepth 100000 in
theorem c_makeEmpty (l : Launch) (dC : Nat → ClassId) (dI : Nat → Nat → Nat) (cI cZ cJ cT : ClassId) (tb hs ns : Nat) (sz : Nat) : Met l yT_makeEmpty (Cond.code yT_makeEmpty cT_makeEmpty 2 none :: wsA) ({ frames := 0, cells := 0, slots := 0, locals := 0 }) (va_Pc [.ref tb] (fun U => U.heap.size = sz ∧ va_P (dC, dI) vwC [(tb, .inr (1, [.ref hs, .ref ns, .int 0])), (hs, .inl (cZ, 64, .inl (fun _ => 0)))] U.heap ∧ KK dC dI cI cZ cJ cT U ∧ va_D (fun _ => True) [(tb, .inr (1, [.ref hs, .ref ns, .int 0])), (hs, .inl (cZ, 64, .inl (fun _ => 0)))])) (va_Qv (S := Nat → Nat) (fun _ => True) (fun u t => va_P (dC, dI) vwC [(tb, .inr (1, [.ref hs, .ref ns, .int 0]))] t.heap ∧ va_D (va_A [(tb, .inr (1, [.ref hs, .ref ns, .int 0])), (hs, .inl (cZ, 64, .inl (fun _ => 0)))] sz) [(tb, .inr (1, [.ref hs, .ref ns, .int 0]))]) (va_A [(tb, .inr (1, [.ref hs, .ref ns, .int 0])), (hs, .inl (cZ, 64, .inl (fun _ => 0)))] sz)) 0 0 (va_A [(tb, .inr (1, [.ref hs, .ref ns, .int 0])), (hs, .inl (cZ, 64, .inl (fun _ => 0)))] sz) := by
  refine Met.ofW (cc := cT_makeEmpty) (maxL := 2) (ret := none) (by decide) rfl ?_
  intro p e s m args below meth c s₁ B hml hv
  obtain ⟨rfl, hsz, hP, hKK, hD0⟩ := hv
  have hK := hKK.1
  have hx := B.exec
  have hb := B.bytes
  have hr := B.returns
  have hw : ∀ w ∈ wsA, w.before _ s = true := fun w h => atoms_spec (ws := (Cond.code yT_makeEmpty cT_makeEmpty 2 none :: wsA)) B.pre w (List.mem_cons_of_mem _ h)
  have hown : s.vm.findClass "LoggedStore$Table" = some m.cls := findClass_of_methodNamed B.named
  have hlocks := B.notSynchronized
  subst hsz
  have hD := hD0.self (sz := s.heap.size)
  generalize hAe : va_A [(tb, .inr (1, [.ref hs, .ref ns, .int 0])), (hs, .inl (cZ, 64, .inl (fun _ => 0)))] s.heap.size = A at hD ⊢
  have hA : ∀ q : Nat, s.heap.size ≤ q → A q := fun q h => by rw [← hAe]; exact Or.inr h
  have hS : va_S A s.heap s.heap [] := va_S.rf
  have hl := lv_entry ([.ref tb]) (n := 2) (Nat.le_of_ble_eq_true rfl)
  rw [lg_entry_eq]
  generalize (lg_sl ([.ref tb]) ++ List.replicate (2 - (lg_sl ([.ref tb])).length) Slot.unset).toArray = ls at hl ⊢
  have hl : lv_has ls 2 [(0, .ref tb)] := hl
  refine lv_iconst (v := 0) hx hb dT_makeEmpty_0 (by decide) ?_
  refine lv_istore_n hx hb dT_makeEmpty_1 rfl hl (by decide) rfl (fun ls hl => ?_)
  have hl : lv_has ls 2 [(1, .int 0), (0, .ref tb)] := hl
  refine tk_forW (nL := 2) (D := (dC, dI)) (cl := vwC) (A := A) (H0 := s.heap) (σ := (Nat → Int32)) (G := fun ls H locs => W p l e _ s m _ below meth c H locs _ _ _ (F0 m 2 ls [])) (fun i => [(1, .int (nI i)), (0, .ref tb)]) (fun z => [(tb, .inr (1, [.ref hs, .ref ns, .int 0])), (hs, .inl (cZ, 64, .inl z))]) 64 ?_ ?_ (fun _ => 0) ls s.heap [] hl hP hD hS
  · intro z ls H locs hl hP hD hS
    have hl : lv_has ls 2 [(1, .int (nI 64)), (0, .ref tb)] := hl
    have hP : va_P (dC, dI) vwC [(tb, .inr (1, [.ref hs, .ref ns, .int 0])), (hs, .inl (cZ, 64, .inl z))] H := hP
    have hD : va_D A [(tb, .inr (1, [.ref hs, .ref ns, .int 0])), (hs, .inl (cZ, 64, .inl z))] := hD
    refine lv_iload_n hx hb dT_makeEmpty_2 rfl (lv_at hl 0 rfl) ?_
    refine lv_bipush (v := 64) hx hb dT_makeEmpty_3 (by decide) ?_
    refine lv_icmp_ge (tgt := 21) hx hb dT_makeEmpty_5 (by decide) (fun _ => ?_) (fun h9 => absurd (by decide +kernel) h9)
    refine lv_aload_n hx hb dT_makeEmpty_21 rfl (lv_at hl 1 rfl) ?_
    refine lv_iconst (v := 0) hx hb dT_makeEmpty_22 (by decide) ?_
    refine va_put (D := (dC, dI)) (ci := 1) (v := .int 0) (ty := .int) (C := "LoggedStore$Table") (T := uT) (N := 3) hx hb hw inT tyT tyT_ok nmT hown hK hP hD hS 0 rfl rfl 2 (by decide) (hw _ w94) (fun _ h9 => h9) rfl (by decide +kernel) rfl rfl (Nat.le_of_ble_eq_true rfl) dT_makeEmpty_23 (fun H locs hP hD hS => ?_)
    have hP : va_P (dC, dI) vwC [(tb, .inr (1, [.ref hs, .ref ns, .int 0])), (hs, .inl (cZ, 64, .inl z))] H := hP
    have hD : va_D A [(tb, .inr (1, [.ref hs, .ref ns, .int 0])), (hs, .inl (cZ, 64, .inl z))] := hD
    have hP9 := hP.sub (ws' := [(tb, .inr (1, [.ref hs, .ref ns, .int 0]))]) [0] rfl
    have hD9 := hD.sub (ws' := [(tb, .inr (1, [.ref hs, .ref ns, .int 0]))]) [0] (by decide) rfl
    refine W.widen (k := 0) (n := 0) (by decide) (by decide) ?_
    exact W.vret hx hb hr (fun t ht hW => ⟨⟨fun _ => 0, rfl, trivial, by rw [ht]; exact hP9, hD9⟩, hS.F ht⟩) hS.2.2 dT_makeEmpty_26
  · intro i hi z ls H locs hl hP hD hS ih
    have hl : lv_has ls 2 [(1, .int (nI i)), (0, .ref tb)] := hl
    have hP : va_P (dC, dI) vwC [(tb, .inr (1, [.ref hs, .ref ns, .int 0])), (hs, .inl (cZ, 64, .inl z))] H := hP
    have hD : va_D A [(tb, .inr (1, [.ref hs, .ref ns, .int 0])), (hs, .inl (cZ, 64, .inl z))] := hD
    refine lv_iload_n hx hb dT_makeEmpty_2 rfl (lv_at hl 0 rfl) ?_
    refine lv_bipush (v := 64) hx hb dT_makeEmpty_3 (by decide) ?_
    refine lv_icmp_ge (tgt := 21) hx hb dT_makeEmpty_5 (by decide) (fun h9 => absurd h9 (nI_ge hi (by decide))) (fun _ => ?_)
    refine lv_aload_n hx hb dT_makeEmpty_8 rfl (lv_at hl 1 rfl) ?_
    refine va_get (D := (dC, dI)) (ci := 1) (v := .ref hs) (C := "LoggedStore$Table") (T := uT) (N := 3) hx hb hw inT hown hK hP 0 rfl rfl 0 (by decide) (hw _ w90) (fun _ h9 => h9) rfl dT_makeEmpty_9 ?_
    refine lv_iload_n hx hb dT_makeEmpty_12 rfl (lv_at hl 0 rfl) ?_
    refine lv_iconst (v := 0) hx hb dT_makeEmpty_13 (by decide) ?_
    refine va_zast hx hb hK hP hD hS 1 1 rfl rfl (vp_in_nI hi (by decide)) dT_makeEmpty_14 (fun H locs hP hD hS => ?_)
    have hP : va_P (dC, dI) vwC [(tb, .inr (1, [.ref hs, .ref ns, .int 0])), (hs, .inl (cZ, 64, .inl (upd z (nI i : Int32).toNatClampNeg (vp_nar .boolean 0))))] H := hP
    have hD : va_D A [(tb, .inr (1, [.ref hs, .ref ns, .int 0])), (hs, .inl (cZ, 64, .inl (upd z (nI i : Int32).toNatClampNeg (vp_nar .boolean 0))))] := hD
    refine lv_iinc (k := 0) (v := nI (i + 1)) hx hb dT_makeEmpty_15 hl rfl (nI_1 i) (by decide) rfl (fun ls hl => ?_)
    have hl : lv_has ls 2 [(1, .int (nI (i + 1))), (0, .ref tb)] := hl
    refine lv_goto (tgt := 2) hx hb dT_makeEmpty_18 (by decide) ?_
    exact ih (upd z (nI i : Int32).toNatClampNeg (vp_nar .boolean 0)) ls H locs hl hP hD hS

set_option maxHeartbeats 4000000 in
set_option maxRecDepth 100000 in
theorem c_readArea (l : Launch) (dC : Nat → ClassId) (dI : Nat → Nat → Nat) (cI cZ cJ cT : ClassId) (x d w tb wa ts : Nat) (hs ns : Nat) (sz : Nat) : Met l yS_readArea (Cond.code yS_readArea cS_readArea 6 none :: wsA) ({ frames := 1, cells := 0, slots := 0, locals := 21 }) (va_Pc [.ref x, .int 0] (fun U => U.heap.size = sz ∧ va_P (dC, dI) vwC [(x, .inr (3, [.ref d, .ref tb, .ref wa, .ref ts, .int 0, .int 1, .int 0, .int 22])), (tb, .inr (1, [.ref hs, .ref ns, .int 0])), (hs, .inl (cZ, 64, .inl (fun _ => 0)))] U.heap ∧ KK dC dI cI cZ cJ cT U ∧ va_D (fun _ => True) [(x, .inr (3, [.ref d, .ref tb, .ref wa, .ref ts, .int 0, .int 1, .int 0, .int 22])), (tb, .inr (1, [.ref hs, .ref ns, .int 0])), (hs, .inl (cZ, 64, .inl (fun _ => 0)))])) (va_Qv (S := Nat → Nat) (fun _ => True) (fun u t => va_P (dC, dI) vwC [(x, .inr (3, [.ref d, .ref tb, .ref wa, .ref ts, .int 0, .int 1, .int 0, .int 22]))] t.heap ∧ va_D (va_A [(x, .inr (3, [.ref d, .ref tb, .ref wa, .ref ts, .int 0, .int 1, .int 0, .int 22])), (tb, .inr (1, [.ref hs, .ref ns, .int 0])), (hs, .inl (cZ, 64, .inl (fun _ => 0)))] sz) [(x, .inr (3, [.ref d, .ref tb, .ref wa, .ref ts, .int 0, .int 1, .int 0, .int 22]))]) (va_A [(x, .inr (3, [.ref d, .ref tb, .ref wa, .ref ts, .int 0, .int 1, .int 0, .int 22])), (tb, .inr (1, [.ref hs, .ref ns, .int 0])), (hs, .inl (cZ, 64, .inl (fun _ => 0)))] sz)) 0 0 (va_A [(x, .inr (3, [.ref d, .ref tb, .ref wa, .ref ts, .int 0, .int 1, .int 0, .int 22])), (tb, .inr (1, [.ref hs, .ref ns, .int 0])), (hs, .inl (cZ, 64, .inl (fun _ => 0)))] sz) := by
  refine Met.ofW (cc := cS_readArea) (maxL := 6) (ret := none) (by decide) rfl ?_
  intro p e s m args below meth c s₁ B hml hv
  obtain ⟨rfl, hsz, hP, hKK, hD0⟩ := hv
  have hK := hKK.1
  have hx := B.exec
  have hb := B.bytes
  have hr := B.returns
  have hw : ∀ w ∈ wsA, w.before _ s = true := fun w h => atoms_spec (ws := (Cond.code yS_readArea cS_readArea 6 none :: wsA)) B.pre w (List.mem_cons_of_mem _ h)
  have hown : s.vm.findClass "LoggedStore" = some m.cls := findClass_of_methodNamed B.named
  have hlocks := B.notSynchronized
  subst hsz
  have hD := hD0.self (sz := s.heap.size)
  generalize hAe : va_A [(x, .inr (3, [.ref d, .ref tb, .ref wa, .ref ts, .int 0, .int 1, .int 0, .int 22])), (tb, .inr (1, [.ref hs, .ref ns, .int 0])), (hs, .inl (cZ, 64, .inl (fun _ => 0)))] s.heap.size = A at hD ⊢
  have hA : ∀ q : Nat, s.heap.size ≤ q → A q := fun q h => by rw [← hAe]; exact Or.inr h
  have hS : va_S A s.heap s.heap [] := va_S.rf
  have hl := lv_entry ([.ref x, .int 0]) (n := 6) (Nat.le_of_ble_eq_true rfl)
  rw [lg_entry_eq]
  generalize (lg_sl ([.ref x, .int 0]) ++ List.replicate (6 - (lg_sl ([.ref x, .int 0])).length) Slot.unset).toArray = ls at hl ⊢
  have hl : lv_has ls 6 [(0, .ref x), (1, .int 0)] := hl
  refine lv_aload_n hx hb dS_readArea_0 rfl (lv_at hl 0 rfl) ?_
  refine va_get (D := (dC, dI)) (ci := 3) (v := .int 0) (C := "LoggedStore") (T := uS) (N := 8) hx hb hw inS hown hK hP 0 rfl rfl 6 (by decide) (hw _ w160) (fun _ h9 => h9) rfl dS_readArea_1 ?_
  have hPc := hP.sub (ws' := []) [] rfl
  refine vp_callSi (W.runS (As := [.int 0]) (rest := []) ⟨hx, hb, hml, hown, hw⟩ (c_areaBegin0 l dC dI cI cZ cJ cT) ⟨callB_of 1 hw (gA0 w236) rfl rfl rfl (hw _ w40) (hw _ w234) (by decide +kernel) ⟨Nat.le_of_ble_eq_true rfl, Nat.le_of_ble_eq_true rfl⟩, (hw _ w235)⟩ ⟨kb_S, fun U hU hW => ⟨rfl, by rw [hU]; exact hPc, hKK.moved hW⟩⟩ rfl rfl hl.1 rfl (lv_room (Nat.le_of_ble_eq_true rfl)) dS_readArea_4 ⟨Nat.le_of_ble_eq_true rfl, Nat.le_of_ble_eq_true rfl⟩) (fun r1 e2 => ?_)
  obtain rfl : r1 = 2 := e2
  refine lv_istore_n hx hb dS_readArea_7 rfl hl (by decide) rfl (fun ls hl => ?_)
  have hl : lv_has ls 6 [(2, .int 2), (0, .ref x), (1, .int 0)] := hl
  refine lv_aload_n hx hb dS_readArea_8 rfl (lv_at hl 1 rfl) ?_
  refine va_get (D := (dC, dI)) (ci := 3) (v := .ref tb) (C := "LoggedStore") (T := uS) (N := 8) hx hb hw inS hown hK hP 0 rfl rfl 1 (by decide) (hw _ w155) (fun _ h9 => h9) rfl dS_readArea_9 ?_
  have hPc := hP.sub (ws' := [(tb, .inr (1, [.ref hs, .ref ns, .int 0])), (hs, .inl (cZ, 64, .inl (fun _ => 0)))]) [1, 2] rfl
  have hDc := hD.sub (ws' := [(tb, .inr (1, [.ref hs, .ref ns, .int 0])), (hs, .inl (cZ, 64, .inl (fun _ => 0)))]) [1, 2] (by decide) rfl
  have hFc := va_free (wc := [(tb, .inr (1, [.ref hs, .ref ns, .int 0])), (hs, .inl (cZ, 64, .inl (fun _ => 0)))]) hD hS hA [1, 2] rfl
  refine va_callv (va_runV (C := "LoggedStore$Table") (b := tb) (As := []) (rest := []) ⟨hx, hb, hml, hown, hw⟩ (c_makeEmpty l dC dI cI cZ cJ cT tb hs ns s.heap.size) ⟨callB_of 0 hw (gA0 w240) rfl rfl rfl (hw _ w42) (hw _ w237) (by decide +kernel) ⟨Nat.le_of_ble_eq_true rfl, Nat.le_of_ble_eq_true rfl⟩, (hw _ w238), (hw _ w239)⟩ ⟨kb_Q, va_recv (ci := 1) (q0 := 1) hK hP rfl rfl, fun U hU hW => ⟨rfl, by rw [hU], by rw [hU]; exact hPc, hKK.moved hW, hDc.weaken (fun _ _ _ _ => trivial)⟩⟩ rfl rfl hl.1 rfl (lv_room (Nat.le_of_ble_eq_true rfl)) dS_readArea_12 ⟨Nat.le_of_ble_eq_true rfl, Nat.le_of_ble_eq_true rfl⟩) hS (fun q _ h => hFc q h) hFc (fun u4 t H1 locs ht hvm he9 hB hz1 hk1 hS => ?_)
  obtain ⟨hP1, hD1⟩ := hB
  rw [ht] at hP1
  obtain ⟨hP, hD⟩ := va_join (wr := [(x, .inr (3, [.ref d, .ref tb, .ref wa, .ref ts, .int 0, .int 1, .int 0, .int 22]))]) (w1 := [(tb, .inr (1, [.ref hs, .ref ns, .int 0]))]) hP hD [1, 2] [0] rfl rfl (by decide) (by decide) hk1 hFc hP1 hD1
  generalize H1 = H at hP hS ⊢
  have hP : va_P (dC, dI) vwC [(x, .inr (3, [.ref d, .ref tb, .ref wa, .ref ts, .int 0, .int 1, .int 0, .int 22])), (tb, .inr (1, [.ref hs, .ref ns, .int 0]))] H := hP
  have hD : va_D A [(x, .inr (3, [.ref d, .ref tb, .ref wa, .ref ts, .int 0, .int 1, .int 0, .int 22])), (tb, .inr (1, [.ref hs, .ref ns, .int 0]))] := hD
  refine lv_iconst (v := 0) hx hb dS_readArea_15 (by decide) ?_
  refine lv_istore_n hx hb dS_readArea_16 rfl hl (by decide) rfl (fun ls hl => ?_)
  have hl : lv_has ls 6 [(3, .int 0), (2, .int 2), (0, .ref x), (1, .int 0)] := hl
  refine lv_iload_n hx hb dS_readArea_17 rfl (lv_at hl 0 rfl) ?_
  refine lv_iload_n hx hb dS_readArea_18 rfl (lv_at hl 3 rfl) ?_
  refine lv_icmp_ge (tgt := 79) hx hb dS_readArea_19 (by decide) (fun _ => ?_) (fun h9 => absurd (by decide) h9)
  have hP9 := hP.sub (ws' := [(x, .inr (3, [.ref d, .ref tb, .ref wa, .ref ts, .int 0, .int 1, .int 0, .int 22]))]) [0] rfl
  have hD9 := hD.sub (ws' := [(x, .inr (3, [.ref d, .ref tb, .ref wa, .ref ts, .int 0, .int 1, .int 0, .int 22]))]) [0] (by decide) rfl
  refine W.widen (k := 0) (n := 0) (by decide) (by decide) ?_
  exact W.vret hx hb hr (fun t ht hW => ⟨⟨fun _ => 0, rfl, trivial, by rw [ht]; exact hP9, hD9⟩, hS.F ht⟩) hS.2.2 dS_readArea_79

set_option maxHeartbeats 4000000 in
set_option maxRecDepth 100000 in
theorem c_readCheckpoint (l : Launch) (dC : Nat → ClassId) (dI : Nat → Nat → Nat) (cI cZ cJ cT : ClassId) (x d w tb wa ts : Nat) (hs ns : Nat) (sz : Nat) : Met l yS_readCheckpoint (Cond.code yS_readCheckpoint cS_readCheckpoint 3 none :: wsA) ({ frames := 2, cells := 0, slots := 0, locals := 46 }) (va_Pc [.ref x, .int 0] (fun U => U.heap.size = sz ∧ va_P (dC, dI) vwC [(x, .inr (3, [.ref d, .ref tb, .ref wa, .ref ts, .int 0, .int 1, .int 0, .int 22])), (d, .inr (0, [.ref w, .int (-1), .int 0, .int 0])), (w, .inl (cI, 384, .inl W0)), (tb, .inr (1, [.ref hs, .ref ns, .int 0])), (hs, .inl (cZ, 64, .inl (fun _ => 0)))] U.heap ∧ KK dC dI cI cZ cJ cT U ∧ va_D (fun _ => True) [(x, .inr (3, [.ref d, .ref tb, .ref wa, .ref ts, .int 0, .int 1, .int 0, .int 22])), (d, .inr (0, [.ref w, .int (-1), .int 0, .int 0])), (w, .inl (cI, 384, .inl W0)), (tb, .inr (1, [.ref hs, .ref ns, .int 0])), (hs, .inl (cZ, 64, .inl (fun _ => 0)))])) (va_Qv (S := Nat → Nat) (fun _ => True) (fun u t => va_P (dC, dI) vwC [(x, .inr (3, [.ref d, .ref tb, .ref wa, .ref ts, .int 0, .int 1, .int 0, .int 22])), (d, .inr (0, [.ref w, .int (-1), .int 0, .int 0])), (w, .inl (cI, 384, .inl W0))] t.heap ∧ va_D (va_A [(x, .inr (3, [.ref d, .ref tb, .ref wa, .ref ts, .int 0, .int 1, .int 0, .int 22])), (d, .inr (0, [.ref w, .int (-1), .int 0, .int 0])), (w, .inl (cI, 384, .inl W0)), (tb, .inr (1, [.ref hs, .ref ns, .int 0])), (hs, .inl (cZ, 64, .inl (fun _ => 0)))] sz) [(x, .inr (3, [.ref d, .ref tb, .ref wa, .ref ts, .int 0, .int 1, .int 0, .int 22])), (d, .inr (0, [.ref w, .int (-1), .int 0, .int 0])), (w, .inl (cI, 384, .inl W0))]) (va_A [(x, .inr (3, [.ref d, .ref tb, .ref wa, .ref ts, .int 0, .int 1, .int 0, .int 22])), (d, .inr (0, [.ref w, .int (-1), .int 0, .int 0])), (w, .inl (cI, 384, .inl W0)), (tb, .inr (1, [.ref hs, .ref ns, .int 0])), (hs, .inl (cZ, 64, .inl (fun _ => 0)))] sz)) 0 0 (va_A [(x, .inr (3, [.ref d, .ref tb, .ref wa, .ref ts, .int 0, .int 1, .int 0, .int 22])), (d, .inr (0, [.ref w, .int (-1), .int 0, .int 0])), (w, .inl (cI, 384, .inl W0)), (tb, .inr (1, [.ref hs, .ref ns, .int 0])), (hs, .inl (cZ, 64, .inl (fun _ => 0)))] sz) := by
  refine Met.ofW (cc := cS_readCheckpoint) (maxL := 3) (ret := none) (by decide) rfl ?_
  intro p e s m args below meth c s₁ B hml hv
  obtain ⟨rfl, hsz, hP, hKK, hD0⟩ := hv
  have hK := hKK.1
  have hx := B.exec
  have hb := B.bytes
  have hr := B.returns
  have hw : ∀ w ∈ wsA, w.before _ s = true := fun w h => atoms_spec (ws := (Cond.code yS_readCheckpoint cS_readCheckpoint 3 none :: wsA)) B.pre w (List.mem_cons_of_mem _ h)
  have hown : s.vm.findClass "LoggedStore" = some m.cls := findClass_of_methodNamed B.named
  have hlocks := B.notSynchronized
  subst hsz
  have hD := hD0.self (sz := s.heap.size)
  generalize hAe : va_A [(x, .inr (3, [.ref d, .ref tb, .ref wa, .ref ts, .int 0, .int 1, .int 0, .int 22])), (d, .inr (0, [.ref w, .int (-1), .int 0, .int 0])), (w, .inl (cI, 384, .inl W0)), (tb, .inr (1, [.ref hs, .ref ns, .int 0])), (hs, .inl (cZ, 64, .inl (fun _ => 0)))] s.heap.size = A at hD ⊢
  have hA : ∀ q : Nat, s.heap.size ≤ q → A q := fun q h => by rw [← hAe]; exact Or.inr h
  have hS : va_S A s.heap s.heap [] := va_S.rf
  have hl := lv_entry ([.ref x, .int 0]) (n := 3) (Nat.le_of_ble_eq_true rfl)
  rw [lg_entry_eq]
  generalize (lg_sl ([.ref x, .int 0]) ++ List.replicate (3 - (lg_sl ([.ref x, .int 0])).length) Slot.unset).toArray = ls at hl ⊢
  have hl : lv_has ls 3 [(0, .ref x), (1, .int 0)] := hl
  refine lv_aload_n hx hb dS_readCheckpoint_0 rfl (lv_at hl 0 rfl) ?_
  refine va_get (D := (dC, dI)) (ci := 3) (v := .ref d) (C := "LoggedStore") (T := uS) (N := 8) hx hb hw inS hown hK hP 0 rfl rfl 0 (by decide) (hw _ w154) (fun _ h9 => h9) rfl dS_readCheckpoint_1 ?_
  refine lv_iload_n hx hb dS_readCheckpoint_4 rfl (lv_at hl 1 rfl) ?_
  refine lv_iconst (v := 1) hx hb dS_readCheckpoint_5 (by decide) ?_
  have hPc := hP.sub (ws' := [(d, .inr (0, [.ref w, .int (-1), .int 0, .int 0])), (w, .inl (cI, 384, .inl W0))]) [1, 2] rfl
  refine vp_callSi (W.runV (C := "LoggedStore$Disk") (b := d) (As := [.int 0, .int 1]) (rest := []) ⟨hx, hb, hml, hown, hw⟩ (c_wordOf l dC dI cI cZ cJ cT d w W0 0 1 (tv_in (by decide +kernel))) ⟨callB_of 2 hw (gA0 w223) rfl rfl rfl (hw _ w41) (hw _ w224) (by decide +kernel) ⟨Nat.le_of_ble_eq_true rfl, Nat.le_of_ble_eq_true rfl⟩, (hw _ w221), (hw _ w222)⟩ ⟨kb_S, va_recv (ci := 0) (q0 := 1) hK hP rfl rfl, fun U hU hW => ⟨rfl, by rw [hU]; exact hPc, hKK.moved hW⟩⟩ rfl rfl hl.1 rfl (lv_room (Nat.le_of_ble_eq_true rfl)) dS_readCheckpoint_6 ⟨Nat.le_of_ble_eq_true rfl, Nat.le_of_ble_eq_true rfl⟩) (fun r1 e2 => ?_)
  obtain rfl : r1 = 0 := e2.trans (by decide +kernel)
  refine lv_istore_n hx hb dS_readCheckpoint_9 rfl hl (by decide) rfl (fun ls hl => ?_)
  have hl : lv_has ls 3 [(2, .int 0), (0, .ref x), (1, .int 0)] := hl
  refine lv_aload_n hx hb dS_readCheckpoint_10 rfl (lv_at hl 1 rfl) ?_
  refine lv_aload_n hx hb dS_readCheckpoint_11 rfl (lv_at hl 1 rfl) ?_
  refine va_get (D := (dC, dI)) (ci := 3) (v := .ref d) (C := "LoggedStore") (T := uS) (N := 8) hx hb hw inS hown hK hP 0 rfl rfl 0 (by decide) (hw _ w154) (fun _ h9 => h9) rfl dS_readCheckpoint_12 ?_
  refine lv_iload_n hx hb dS_readCheckpoint_15 rfl (lv_at hl 2 rfl) ?_
  refine lv_iconst (v := 0) hx hb dS_readCheckpoint_16 (by decide) ?_
  have hPc := hP.sub (ws' := [(d, .inr (0, [.ref w, .int (-1), .int 0, .int 0])), (w, .inl (cI, 384, .inl W0))]) [1, 2] rfl
  refine vp_callSi (W.runV (C := "LoggedStore$Disk") (b := d) (As := [.int 0, .int 0]) (rest := [.ref x]) ⟨hx, hb, hml, hown, hw⟩ (c_wordOf l dC dI cI cZ cJ cT d w W0 0 0 (tv_in (by decide +kernel))) ⟨callB_of 2 hw (gA0 w223) rfl rfl rfl (hw _ w41) (hw _ w224) (by decide +kernel) ⟨Nat.le_of_ble_eq_true rfl, Nat.le_of_ble_eq_true rfl⟩, (hw _ w221), (hw _ w222)⟩ ⟨kb_S, va_recv (ci := 0) (q0 := 1) hK hP rfl rfl, fun U hU hW => ⟨rfl, by rw [hU]; exact hPc, hKK.moved hW⟩⟩ rfl rfl hl.1 rfl (lv_room (Nat.le_of_ble_eq_true rfl)) dS_readCheckpoint_17 ⟨Nat.le_of_ble_eq_true rfl, Nat.le_of_ble_eq_true rfl⟩) (fun r3 e4 => ?_)
  obtain rfl : r3 = 1 := e4.trans (by decide +kernel)
  refine va_put (D := (dC, dI)) (ci := 3) (v := .int 1) (ty := .int) (C := "LoggedStore") (T := uS) (N := 8) hx hb hw inS tyS tyS_ok nmS hown hK hP hD hS 0 rfl rfl 5 (by decide) (hw _ w159) (fun _ h9 => h9) rfl (by decide +kernel) rfl rfl (Nat.le_of_ble_eq_true rfl) dS_readCheckpoint_20 (fun H locs hP hD hS => ?_)
  have hP : va_P (dC, dI) vwC [(x, .inr (3, [.ref d, .ref tb, .ref wa, .ref ts, .int 0, .int 1, .int 0, .int 22])), (d, .inr (0, [.ref w, .int (-1), .int 0, .int 0])), (w, .inl (cI, 384, .inl W0)), (tb, .inr (1, [.ref hs, .ref ns, .int 0])), (hs, .inl (cZ, 64, .inl (fun _ => 0)))] H := hP
  have hD : va_D A [(x, .inr (3, [.ref d, .ref tb, .ref wa, .ref ts, .int 0, .int 1, .int 0, .int 22])), (d, .inr (0, [.ref w, .int (-1), .int 0, .int 0])), (w, .inl (cI, 384, .inl W0)), (tb, .inr (1, [.ref hs, .ref ns, .int 0])), (hs, .inl (cZ, 64, .inl (fun _ => 0)))] := hD
  refine lv_aload_n hx hb dS_readCheckpoint_23 rfl (lv_at hl 1 rfl) ?_
  refine lv_iload_n hx hb dS_readCheckpoint_24 rfl (lv_at hl 0 rfl) ?_
  refine lv_bipush (v := 64) hx hb dS_readCheckpoint_25 (by decide) ?_
  refine lv_icmp_lt (tgt := 34) hx hb dS_readCheckpoint_27 (by decide) (fun _ => ?_) (fun h9 => absurd (by decide) h9)
  refine lv_iconst (v := 0) hx hb dS_readCheckpoint_34 (by decide) ?_
  refine va_put (D := (dC, dI)) (ci := 3) (v := .int 0) (ty := .int) (C := "LoggedStore") (T := uS) (N := 8) hx hb hw inS tyS tyS_ok nmS hown hK hP hD hS 0 rfl rfl 6 (by decide) (hw _ w160) (fun _ h9 => h9) rfl (by decide +kernel) rfl rfl (Nat.le_of_ble_eq_true rfl) dS_readCheckpoint_35 (fun H locs hP hD hS => ?_)
  have hP : va_P (dC, dI) vwC [(x, .inr (3, [.ref d, .ref tb, .ref wa, .ref ts, .int 0, .int 1, .int 0, .int 22])), (d, .inr (0, [.ref w, .int (-1), .int 0, .int 0])), (w, .inl (cI, 384, .inl W0)), (tb, .inr (1, [.ref hs, .ref ns, .int 0])), (hs, .inl (cZ, 64, .inl (fun _ => 0)))] H := hP
  have hD : va_D A [(x, .inr (3, [.ref d, .ref tb, .ref wa, .ref ts, .int 0, .int 1, .int 0, .int 22])), (d, .inr (0, [.ref w, .int (-1), .int 0, .int 0])), (w, .inl (cI, 384, .inl W0)), (tb, .inr (1, [.ref hs, .ref ns, .int 0])), (hs, .inl (cZ, 64, .inl (fun _ => 0)))] := hD
  refine lv_aload_n hx hb dS_readCheckpoint_38 rfl (lv_at hl 1 rfl) ?_
  refine lv_aload_n hx hb dS_readCheckpoint_39 rfl (lv_at hl 1 rfl) ?_
  refine va_get (D := (dC, dI)) (ci := 3) (v := .ref d) (C := "LoggedStore") (T := uS) (N := 8) hx hb hw inS hown hK hP 0 rfl rfl 0 (by decide) (hw _ w154) (fun _ h9 => h9) rfl dS_readCheckpoint_40 ?_
  refine lv_iload_n hx hb dS_readCheckpoint_43 rfl (lv_at hl 2 rfl) ?_
  refine lv_iconst (v := 2) hx hb dS_readCheckpoint_44 (by decide) ?_
  have hPc := hP.sub (ws' := [(d, .inr (0, [.ref w, .int (-1), .int 0, .int 0])), (w, .inl (cI, 384, .inl W0))]) [1, 2] rfl
  refine vp_callSi (W.runV (C := "LoggedStore$Disk") (b := d) (As := [.int 0, .int 2]) (rest := [.ref x]) ⟨hx, hb, hml, hown, hw⟩ (c_wordOf l dC dI cI cZ cJ cT d w W0 0 2 (tv_in (by decide +kernel))) ⟨callB_of 2 hw (gA0 w223) rfl rfl rfl (hw _ w41) (hw _ w224) (by decide +kernel) ⟨Nat.le_of_ble_eq_true rfl, Nat.le_of_ble_eq_true rfl⟩, (hw _ w221), (hw _ w222)⟩ ⟨kb_S, va_recv (ci := 0) (q0 := 1) hK hP rfl rfl, fun U hU hW => ⟨rfl, by rw [hU]; exact hPc, hKK.moved hW⟩⟩ rfl rfl hl.1 rfl (lv_room (Nat.le_of_ble_eq_true rfl)) dS_readCheckpoint_45 ⟨Nat.le_of_ble_eq_true rfl, Nat.le_of_ble_eq_true rfl⟩) (fun r5 e6 => ?_)
  obtain rfl : r5 = 0 := e6.trans (by decide +kernel)
  refine va_put (D := (dC, dI)) (ci := 3) (v := .int 0) (ty := .int) (C := "LoggedStore") (T := uS) (N := 8) hx hb hw inS tyS tyS_ok nmS hown hK hP hD hS 0 rfl rfl 4 (by decide) (hw _ w158) (fun _ h9 => h9) rfl (by decide +kernel) rfl rfl (Nat.le_of_ble_eq_true rfl) dS_readCheckpoint_48 (fun H locs hP hD hS => ?_)
  have hP : va_P (dC, dI) vwC [(x, .inr (3, [.ref d, .ref tb, .ref wa, .ref ts, .int 0, .int 1, .int 0, .int 22])), (d, .inr (0, [.ref w, .int (-1), .int 0, .int 0])), (w, .inl (cI, 384, .inl W0)), (tb, .inr (1, [.ref hs, .ref ns, .int 0])), (hs, .inl (cZ, 64, .inl (fun _ => 0)))] H := hP
  have hD : va_D A [(x, .inr (3, [.ref d, .ref tb, .ref wa, .ref ts, .int 0, .int 1, .int 0, .int 22])), (d, .inr (0, [.ref w, .int (-1), .int 0, .int 0])), (w, .inl (cI, 384, .inl W0)), (tb, .inr (1, [.ref hs, .ref ns, .int 0])), (hs, .inl (cZ, 64, .inl (fun _ => 0)))] := hD
  refine lv_aload_n hx hb dS_readCheckpoint_51 rfl (lv_at hl 1 rfl) ?_
  refine lv_iload_n hx hb dS_readCheckpoint_52 rfl (lv_at hl 0 rfl) ?_
  refine lv_bipush (v := 64) hx hb dS_readCheckpoint_53 (by decide) ?_
  refine lv_aload_n hx hb dS_readCheckpoint_55 rfl (lv_at hl 1 rfl) ?_
  refine va_get (D := (dC, dI)) (ci := 3) (v := .int 0) (C := "LoggedStore") (T := uS) (N := 8) hx hb hw inS hown hK hP 0 rfl rfl 6 (by decide) (hw _ w160) (fun _ h9 => h9) rfl dS_readCheckpoint_56 ?_
  refine lv_imul hx hb dS_readCheckpoint_59 ?_
  refine lv_topi (nm_r (e' := 0) (by decide +kernel) ?_)
  refine lv_isub hx hb dS_readCheckpoint_60 ?_
  refine lv_topi (nm_r (e' := 0) (by decide +kernel) ?_)
  have hPc := hP.sub (ws' := [(x, .inr (3, [.ref d, .ref tb, .ref wa, .ref ts, .int 0, .int 1, .int 0, .int 22])), (tb, .inr (1, [.ref hs, .ref ns, .int 0])), (hs, .inl (cZ, 64, .inl (fun _ => 0)))]) [0, 3, 4] rfl
  have hDc := hD.sub (ws' := [(x, .inr (3, [.ref d, .ref tb, .ref wa, .ref ts, .int 0, .int 1, .int 0, .int 22])), (tb, .inr (1, [.ref hs, .ref ns, .int 0])), (hs, .inl (cZ, 64, .inl (fun _ => 0)))]) [0, 3, 4] (by decide) rfl
  have hFc := va_free (wc := [(x, .inr (3, [.ref d, .ref tb, .ref wa, .ref ts, .int 0, .int 1, .int 0, .int 22])), (tb, .inr (1, [.ref hs, .ref ns, .int 0])), (hs, .inl (cZ, 64, .inl (fun _ => 0)))]) hD hS hA [0, 3, 4] rfl
  refine va_callv (va_runV (C := "LoggedStore") (b := x) (As := [.int 0]) (rest := []) ⟨hx, hb, hml, hown, hw⟩ (c_readArea l dC dI cI cZ cJ cT x d w tb wa ts hs ns H.size) ⟨callB_of 1 hw (gA0 w233) rfl rfl rfl (hw _ w40) (hw _ w230) (by decide +kernel) ⟨Nat.le_of_ble_eq_true rfl, Nat.le_of_ble_eq_true rfl⟩, (hw _ w232), (hw _ w4)⟩ ⟨kb_Q, va_recv (ci := 3) (q0 := 0) hK hP rfl rfl, fun U hU hW => ⟨rfl, by rw [hU], by rw [hU]; exact hPc, hKK.moved hW, hDc.weaken (fun _ _ _ _ => trivial)⟩⟩ rfl rfl hl.1 rfl (lv_room (Nat.le_of_ble_eq_true rfl)) dS_readCheckpoint_61 ⟨Nat.le_of_ble_eq_true rfl, Nat.le_of_ble_eq_true rfl⟩) hS (fun q _ h => hFc q h) hFc (fun u8 t H1 locs ht hvm he9 hB hz1 hk1 hS => ?_)
  obtain ⟨hP1, hD1⟩ := hB
  rw [ht] at hP1
  obtain ⟨hP, hD⟩ := va_join (wr := [(d, .inr (0, [.ref w, .int (-1), .int 0, .int 0])), (w, .inl (cI, 384, .inl W0))]) (w1 := [(x, .inr (3, [.ref d, .ref tb, .ref wa, .ref ts, .int 0, .int 1, .int 0, .int 22]))]) hP hD [0, 3, 4] [1, 2] rfl rfl (by decide) (by decide) hk1 hFc hP1 hD1
  generalize H1 = H at hP hS ⊢
  have hP : va_P (dC, dI) vwC [(d, .inr (0, [.ref w, .int (-1), .int 0, .int 0])), (w, .inl (cI, 384, .inl W0)), (x, .inr (3, [.ref d, .ref tb, .ref wa, .ref ts, .int 0, .int 1, .int 0, .int 22]))] H := hP
  have hD : va_D A [(d, .inr (0, [.ref w, .int (-1), .int 0, .int 0])), (w, .inl (cI, 384, .inl W0)), (x, .inr (3, [.ref d, .ref tb, .ref wa, .ref ts, .int 0, .int 1, .int 0, .int 22]))] := hD
  have hP9 := hP.sub (ws' := [(x, .inr (3, [.ref d, .ref tb, .ref wa, .ref ts, .int 0, .int 1, .int 0, .int 22])), (d, .inr (0, [.ref w, .int (-1), .int 0, .int 0])), (w, .inl (cI, 384, .inl W0))]) [2, 0, 1] rfl
  have hD9 := hD.sub (ws' := [(x, .inr (3, [.ref d, .ref tb, .ref wa, .ref ts, .int 0, .int 1, .int 0, .int 22])), (d, .inr (0, [.ref w, .int (-1), .int 0, .int 0])), (w, .inl (cI, 384, .inl W0))]) [2, 0, 1] (by decide) rfl
  refine W.widen (k := 0) (n := 0) (by decide) (by decide) ?_
  exact W.vret hx hb hr (fun t ht hW => ⟨⟨fun _ => 0, rfl, trivial, by rw [ht]; exact hP9, hD9⟩, hS.F ht⟩) hS.2.2 dS_readCheckpoint_64

set_option maxHeartbeats 4000000 in
set_option maxRecDepth 100000 in
theorem c_redoLog (l : Launch) (dC : Nat → ClassId) (dI : Nat → Nat → Nat) (cI cZ cJ cT : ClassId) (x d w tb wa ts : Nat) (sz : Nat) : Met l yS_redoLog (Cond.code yS_redoLog cS_redoLog 2 none :: wsA) ({ frames := 3, cells := 0, slots := 0, locals := 65 }) (va_Pc [.ref x] (fun U => U.heap.size = sz ∧ va_P (dC, dI) vwC [(x, .inr (3, [.ref d, .ref tb, .ref wa, .ref ts, .int 0, .int 1, .int 0, .int 22])), (d, .inr (0, [.ref w, .int (-1), .int 0, .int 0])), (w, .inl (cI, 384, .inl W0))] U.heap ∧ KK dC dI cI cZ cJ cT U ∧ va_D (fun _ => True) [(x, .inr (3, [.ref d, .ref tb, .ref wa, .ref ts, .int 0, .int 1, .int 0, .int 22])), (d, .inr (0, [.ref w, .int (-1), .int 0, .int 0])), (w, .inl (cI, 384, .inl W0))])) (va_Qv (S := Nat → Nat) (fun _ => True) (fun u t => va_P (dC, dI) vwC [(x, .inr (3, [.ref d, .ref tb, .ref wa, .ref ts, .int 0, .int 1, .int 0, .int 22]))] t.heap ∧ va_D (va_A [(x, .inr (3, [.ref d, .ref tb, .ref wa, .ref ts, .int 0, .int 1, .int 0, .int 22])), (d, .inr (0, [.ref w, .int (-1), .int 0, .int 0])), (w, .inl (cI, 384, .inl W0))] sz) [(x, .inr (3, [.ref d, .ref tb, .ref wa, .ref ts, .int 0, .int 1, .int 0, .int 22]))]) (va_A [(x, .inr (3, [.ref d, .ref tb, .ref wa, .ref ts, .int 0, .int 1, .int 0, .int 22])), (d, .inr (0, [.ref w, .int (-1), .int 0, .int 0])), (w, .inl (cI, 384, .inl W0))] sz)) 0 0 (va_A [(x, .inr (3, [.ref d, .ref tb, .ref wa, .ref ts, .int 0, .int 1, .int 0, .int 22])), (d, .inr (0, [.ref w, .int (-1), .int 0, .int 0])), (w, .inl (cI, 384, .inl W0))] sz) := by
  refine Met.ofW (cc := cS_redoLog) (maxL := 2) (ret := none) (by decide) rfl ?_
  intro p e s m args below meth c s₁ B hml hv
  obtain ⟨rfl, hsz, hP, hKK, hD0⟩ := hv
  have hK := hKK.1
  have hx := B.exec
  have hb := B.bytes
  have hr := B.returns
  have hw : ∀ w ∈ wsA, w.before _ s = true := fun w h => atoms_spec (ws := (Cond.code yS_redoLog cS_redoLog 2 none :: wsA)) B.pre w (List.mem_cons_of_mem _ h)
  have hown : s.vm.findClass "LoggedStore" = some m.cls := findClass_of_methodNamed B.named
  have hlocks := B.notSynchronized
  subst hsz
  have hD := hD0.self (sz := s.heap.size)
  generalize hAe : va_A [(x, .inr (3, [.ref d, .ref tb, .ref wa, .ref ts, .int 0, .int 1, .int 0, .int 22])), (d, .inr (0, [.ref w, .int (-1), .int 0, .int 0])), (w, .inl (cI, 384, .inl W0))] s.heap.size = A at hD ⊢
  have hA : ∀ q : Nat, s.heap.size ≤ q → A q := fun q h => by rw [← hAe]; exact Or.inr h
  have hS : va_S A s.heap s.heap [] := va_S.rf
  have hl := lv_entry ([.ref x]) (n := 2) (Nat.le_of_ble_eq_true rfl)
  rw [lg_entry_eq]
  generalize (lg_sl ([.ref x]) ++ List.replicate (2 - (lg_sl ([.ref x])).length) Slot.unset).toArray = ls at hl ⊢
  have hl : lv_has ls 2 [(0, .ref x)] := hl
  refine lv_aload_n hx hb dS_redoLog_0 rfl (lv_at hl 0 rfl) ?_
  refine lv_bipush (v := 22) hx hb dS_redoLog_1 (by decide) ?_
  refine va_put (D := (dC, dI)) (ci := 3) (v := .int 22) (ty := .int) (C := "LoggedStore") (T := uS) (N := 8) hx hb hw inS tyS tyS_ok nmS hown hK hP hD hS 0 rfl rfl 7 (by decide) (hw _ w161) (fun _ h9 => h9) rfl (by decide +kernel) rfl rfl (Nat.le_of_ble_eq_true rfl) dS_redoLog_3 (fun H locs hP hD hS => ?_)
  have hP : va_P (dC, dI) vwC [(x, .inr (3, [.ref d, .ref tb, .ref wa, .ref ts, .int 0, .int 1, .int 0, .int 22])), (d, .inr (0, [.ref w, .int (-1), .int 0, .int 0])), (w, .inl (cI, 384, .inl W0))] H := hP
  have hD : va_D A [(x, .inr (3, [.ref d, .ref tb, .ref wa, .ref ts, .int 0, .int 1, .int 0, .int 22])), (d, .inr (0, [.ref w, .int (-1), .int 0, .int 0])), (w, .inl (cI, 384, .inl W0))] := hD
  refine lv_bipush (v := 22) hx hb dS_redoLog_6 (by decide) ?_
  refine lv_istore_n hx hb dS_redoLog_8 rfl hl (by decide) rfl (fun ls hl => ?_)
  have hl : lv_has ls 2 [(1, .int 22), (0, .ref x)] := hl
  refine lv_iload_n hx hb dS_redoLog_9 rfl (lv_at hl 0 rfl) ?_
  refine lv_bipush (v := 96) hx hb dS_redoLog_10 (by decide) ?_
  refine lv_icmp_ge (tgt := 73) hx hb dS_redoLog_12 (by decide) (fun h9 => absurd h9 (by decide)) (fun _ => ?_)
  refine lv_aload_n hx hb dS_redoLog_15 rfl (lv_at hl 1 rfl) ?_
  refine lv_iload_n hx hb dS_redoLog_16 rfl (lv_at hl 0 rfl) ?_
  have hPc := hP.sub (ws' := [(x, .inr (3, [.ref d, .ref tb, .ref wa, .ref ts, .int 0, .int 1, .int 0, .int 22])), (d, .inr (0, [.ref w, .int (-1), .int 0, .int 0])), (w, .inl (cI, 384, .inl W0))]) [0, 1, 2] rfl
  refine vp_callSi (W.runV (C := "LoggedStore") (b := x) (As := [.int 22]) (rest := []) ⟨hx, hb, hml, hown, hw⟩ (c_isOfThisLog l dC dI cI cZ cJ cT x d w tb wa ts) ⟨callB_of 1 hw (gA0 w255) rfl rfl rfl (hw _ w40) (hw _ w252) (by decide +kernel) ⟨Nat.le_of_ble_eq_true rfl, Nat.le_of_ble_eq_true rfl⟩, (hw _ w254), (hw _ w6)⟩ ⟨kb_S, va_recv (ci := 3) (q0 := 0) hK hP rfl rfl, fun U hU hW => ⟨rfl, by rw [hU]; exact hPc, hKK.moved hW⟩⟩ rfl rfl hl.1 rfl (lv_room (Nat.le_of_ble_eq_true rfl)) dS_redoLog_17 ⟨Nat.le_of_ble_eq_true rfl, Nat.le_of_ble_eq_true rfl⟩) (fun r1 e2 => ?_)
  obtain rfl : r1 = 0 := e2
  refine lv_if_eq (tgt := 73) hx hb dS_redoLog_20 (by decide) (fun _ => ?_) (fun h9 => absurd (by decide) h9)
  have hP9 := hP.sub (ws' := [(x, .inr (3, [.ref d, .ref tb, .ref wa, .ref ts, .int 0, .int 1, .int 0, .int 22]))]) [0] rfl
  have hD9 := hD.sub (ws' := [(x, .inr (3, [.ref d, .ref tb, .ref wa, .ref ts, .int 0, .int 1, .int 0, .int 22]))]) [0] (by decide) rfl
  refine W.widen (k := 0) (n := 0) (by decide) (by decide) ?_
  exact W.vret hx hb hr (fun t ht hW => ⟨⟨fun _ => 0, rfl, trivial, by rw [ht]; exact hP9, hD9⟩, hS.F ht⟩) hS.2.2 dS_redoLog_73

set_option maxHeartbeats 4000000 in
set_option maxRecDepth 100000 in
theorem c_recover (l : Launch) (dC : Nat → ClassId) (dI : Nat → Nat → Nat) (cI cZ cJ cT : ClassId) (x d w tb hs ns wa ts t0 v0 vh0 vn0 vw0 t1 v1 vh1 vn1 vw1 t2 v2 vh2 vn2 vw2 : Nat) (sz : Nat) : Met l yS_recover (Cond.code yS_recover cS_recover 2 (some .int) :: wsA) ({ frames := 4, cells := 0, slots := 0, locals := 86 }) (va_Pc [.ref x] (fun U => U.heap.size = sz ∧ va_P (dC, dI) vwC [(x, .inr (3, [.ref d, .ref tb, .ref wa, .ref ts, .int 0, .int 1, .int 0, .int 22])), (d, .inr (0, [.ref w, .int (-1), .int 0, .int 0])), (w, .inl (cI, 384, .inl W0)), (tb, .inr (1, [.ref hs, .ref ns, .int 0])), (hs, .inl (cZ, 64, .inl (fun _ => 0))), (wa, .inl (cI, 64, .inl (fun _ => 0))), (ts, .inl (cT, 3, .inr (.inr (.inr (.inr (tF t0 t1 t2)))))), (t0, .inr (2, [.ref v0, .ref vw0, .int 0, .int 0, .int 0])), (t1, .inr (2, [.ref v1, .ref vw1, .int 0, .int 0, .int 0])), (t2, .inr (2, [.ref v2, .ref vw2, .int 0, .int 0, .int 0]))] U.heap ∧ KK dC dI cI cZ cJ cT U ∧ va_D (fun _ => True) [(x, .inr (3, [.ref d, .ref tb, .ref wa, .ref ts, .int 0, .int 1, .int 0, .int 22])), (d, .inr (0, [.ref w, .int (-1), .int 0, .int 0])), (w, .inl (cI, 384, .inl W0)), (tb, .inr (1, [.ref hs, .ref ns, .int 0])), (hs, .inl (cZ, 64, .inl (fun _ => 0))), (wa, .inl (cI, 64, .inl (fun _ => 0))), (ts, .inl (cT, 3, .inr (.inr (.inr (.inr (tF t0 t1 t2)))))), (t0, .inr (2, [.ref v0, .ref vw0, .int 0, .int 0, .int 0])), (t1, .inr (2, [.ref v1, .ref vw1, .int 0, .int 0, .int 0])), (t2, .inr (2, [.ref v2, .ref vw2, .int 0, .int 0, .int 0]))])) (va_Qi (S := Nat → Nat) (fun r _ => r = 0) (fun _ _ => True) (va_A [(x, .inr (3, [.ref d, .ref tb, .ref wa, .ref ts, .int 0, .int 1, .int 0, .int 22])), (d, .inr (0, [.ref w, .int (-1), .int 0, .int 0])), (w, .inl (cI, 384, .inl W0)), (tb, .inr (1, [.ref hs, .ref ns, .int 0])), (hs, .inl (cZ, 64, .inl (fun _ => 0))), (wa, .inl (cI, 64, .inl (fun _ => 0))), (ts, .inl (cT, 3, .inr (.inr (.inr (.inr (tF t0 t1 t2)))))), (t0, .inr (2, [.ref v0, .ref vw0, .int 0, .int 0, .int 0])), (t1, .inr (2, [.ref v1, .ref vw1, .int 0, .int 0, .int 0])), (t2, .inr (2, [.ref v2, .ref vw2, .int 0, .int 0, .int 0]))] sz)) 0 0 (va_A [(x, .inr (3, [.ref d, .ref tb, .ref wa, .ref ts, .int 0, .int 1, .int 0, .int 22])), (d, .inr (0, [.ref w, .int (-1), .int 0, .int 0])), (w, .inl (cI, 384, .inl W0)), (tb, .inr (1, [.ref hs, .ref ns, .int 0])), (hs, .inl (cZ, 64, .inl (fun _ => 0))), (wa, .inl (cI, 64, .inl (fun _ => 0))), (ts, .inl (cT, 3, .inr (.inr (.inr (.inr (tF t0 t1 t2)))))), (t0, .inr (2, [.ref v0, .ref vw0, .int 0, .int 0, .int 0])), (t1, .inr (2, [.ref v1, .ref vw1, .int 0, .int 0, .int 0])), (t2, .inr (2, [.ref v2, .ref vw2, .int 0, .int 0, .int 0]))] sz) := by
  refine Met.ofW (cc := cS_recover) (maxL := 2) (ret := (some .int)) (by decide) rfl ?_
  intro p e s m args below meth c s₁ B hml hv
  obtain ⟨rfl, hsz, hP, hKK, hD0⟩ := hv
  have hK := hKK.1
  have hx := B.exec
  have hb := B.bytes
  have hr := B.returns
  have hw : ∀ w ∈ wsA, w.before _ s = true := fun w h => atoms_spec (ws := (Cond.code yS_recover cS_recover 2 (some .int) :: wsA)) B.pre w (List.mem_cons_of_mem _ h)
  have hown : s.vm.findClass "LoggedStore" = some m.cls := findClass_of_methodNamed B.named
  have hlocks := B.notSynchronized
  subst hsz
  have hD := hD0.self (sz := s.heap.size)
  generalize hAe : va_A [(x, .inr (3, [.ref d, .ref tb, .ref wa, .ref ts, .int 0, .int 1, .int 0, .int 22])), (d, .inr (0, [.ref w, .int (-1), .int 0, .int 0])), (w, .inl (cI, 384, .inl W0)), (tb, .inr (1, [.ref hs, .ref ns, .int 0])), (hs, .inl (cZ, 64, .inl (fun _ => 0))), (wa, .inl (cI, 64, .inl (fun _ => 0))), (ts, .inl (cT, 3, .inr (.inr (.inr (.inr (tF t0 t1 t2)))))), (t0, .inr (2, [.ref v0, .ref vw0, .int 0, .int 0, .int 0])), (t1, .inr (2, [.ref v1, .ref vw1, .int 0, .int 0, .int 0])), (t2, .inr (2, [.ref v2, .ref vw2, .int 0, .int 0, .int 0]))] s.heap.size = A at hD ⊢
  have hA : ∀ q : Nat, s.heap.size ≤ q → A q := fun q h => by rw [← hAe]; exact Or.inr h
  have hS : va_S A s.heap s.heap [] := va_S.rf
  have hl := lv_entry ([.ref x]) (n := 2) (Nat.le_of_ble_eq_true rfl)
  rw [lg_entry_eq]
  generalize (lg_sl ([.ref x]) ++ List.replicate (2 - (lg_sl ([.ref x])).length) Slot.unset).toArray = ls at hl ⊢
  have hl : lv_has ls 2 [(0, .ref x)] := hl
  refine lv_aload_n hx hb dS_recover_0 rfl (lv_at hl 0 rfl) ?_
  refine va_get (D := (dC, dI)) (ci := 3) (v := .ref d) (C := "LoggedStore") (T := uS) (N := 8) hx hb hw inS hown hK hP 0 rfl rfl 0 (by decide) (hw _ w154) (fun _ h9 => h9) rfl dS_recover_1 ?_
  have hPc := hP.sub (ws' := [(d, .inr (0, [.ref w, .int (-1), .int 0, .int 0]))]) [1] rfl
  have hDc := hD.sub (ws' := [(d, .inr (0, [.ref w, .int (-1), .int 0, .int 0]))]) [1] (by decide) rfl
  have hFc := va_free (wc := [(d, .inr (0, [.ref w, .int (-1), .int 0, .int 0]))]) hD hS hA [1] rfl
  refine va_callv (va_runV (C := "LoggedStore$Disk") (b := d) (As := []) (rest := []) ⟨hx, hb, hml, hown, hw⟩ (c_powerUp l dC dI cI cZ cJ cT d w s.heap.size) ⟨callB_of 0 hw (gA0 w204) rfl rfl rfl (hw _ w41) (hw _ w201) (by decide +kernel) ⟨Nat.le_of_ble_eq_true rfl, Nat.le_of_ble_eq_true rfl⟩, (hw _ w202), (hw _ w203)⟩ ⟨kb_Q, va_recv (ci := 0) (q0 := 1) hK hP rfl rfl, fun U hU hW => ⟨rfl, by rw [hU], by rw [hU]; exact hPc, hKK.moved hW, hDc.weaken (fun _ _ _ _ => trivial)⟩⟩ rfl rfl hl.1 rfl (lv_room (Nat.le_of_ble_eq_true rfl)) dS_recover_4 ⟨Nat.le_of_ble_eq_true rfl, Nat.le_of_ble_eq_true rfl⟩) hS (fun q _ h => hFc q h) hFc (fun u2 t H1 locs ht hvm he9 hB hz1 hk1 hS => ?_)
  obtain ⟨hP1, hD1⟩ := hB
  rw [ht] at hP1
  obtain ⟨hP, hD⟩ := va_join (wr := [(x, .inr (3, [.ref d, .ref tb, .ref wa, .ref ts, .int 0, .int 1, .int 0, .int 22])), (w, .inl (cI, 384, .inl W0)), (tb, .inr (1, [.ref hs, .ref ns, .int 0])), (hs, .inl (cZ, 64, .inl (fun _ => 0))), (wa, .inl (cI, 64, .inl (fun _ => 0))), (ts, .inl (cT, 3, .inr (.inr (.inr (.inr (tF t0 t1 t2)))))), (t0, .inr (2, [.ref v0, .ref vw0, .int 0, .int 0, .int 0])), (t1, .inr (2, [.ref v1, .ref vw1, .int 0, .int 0, .int 0])), (t2, .inr (2, [.ref v2, .ref vw2, .int 0, .int 0, .int 0]))]) (w1 := [(d, .inr (0, [.ref w, .int (-1), .int 0, .int 0]))]) hP hD [1] [0, 2, 3, 4, 5, 6, 7, 8, 9] rfl rfl (by decide) (by decide) hk1 hFc hP1 hD1
  generalize H1 = H at hP hS ⊢
  have hP : va_P (dC, dI) vwC [(x, .inr (3, [.ref d, .ref tb, .ref wa, .ref ts, .int 0, .int 1, .int 0, .int 22])), (w, .inl (cI, 384, .inl W0)), (tb, .inr (1, [.ref hs, .ref ns, .int 0])), (hs, .inl (cZ, 64, .inl (fun _ => 0))), (wa, .inl (cI, 64, .inl (fun _ => 0))), (ts, .inl (cT, 3, .inr (.inr (.inr (.inr (tF t0 t1 t2)))))), (t0, .inr (2, [.ref v0, .ref vw0, .int 0, .int 0, .int 0])), (t1, .inr (2, [.ref v1, .ref vw1, .int 0, .int 0, .int 0])), (t2, .inr (2, [.ref v2, .ref vw2, .int 0, .int 0, .int 0])), (d, .inr (0, [.ref w, .int (-1), .int 0, .int 0]))] H := hP
  have hD : va_D A [(x, .inr (3, [.ref d, .ref tb, .ref wa, .ref ts, .int 0, .int 1, .int 0, .int 22])), (w, .inl (cI, 384, .inl W0)), (tb, .inr (1, [.ref hs, .ref ns, .int 0])), (hs, .inl (cZ, 64, .inl (fun _ => 0))), (wa, .inl (cI, 64, .inl (fun _ => 0))), (ts, .inl (cT, 3, .inr (.inr (.inr (.inr (tF t0 t1 t2)))))), (t0, .inr (2, [.ref v0, .ref vw0, .int 0, .int 0, .int 0])), (t1, .inr (2, [.ref v1, .ref vw1, .int 0, .int 0, .int 0])), (t2, .inr (2, [.ref v2, .ref vw2, .int 0, .int 0, .int 0])), (d, .inr (0, [.ref w, .int (-1), .int 0, .int 0]))] := hD
  refine lv_iconst (v := 0) hx hb dS_recover_7 (by decide) ?_
  refine lv_istore_n hx hb dS_recover_8 rfl hl (by decide) rfl (fun ls hl => ?_)
  have hl : lv_has ls 2 [(1, .int 0), (0, .ref x)] := hl
  refine lv_iload_n hx hb dS_recover_9 rfl (lv_at hl 0 rfl) ?_
  refine lv_iconst (v := 3) hx hb dS_recover_10 (by decide) ?_
  refine lv_icmp_ge (tgt := 30) hx hb dS_recover_11 (by decide) (fun h9 => absurd h9 (by decide)) (fun _ => ?_)
  refine lv_aload_n hx hb dS_recover_14 rfl (lv_at hl 1 rfl) ?_
  refine va_get (D := (dC, dI)) (ci := 3) (v := .ref ts) (C := "LoggedStore") (T := uS) (N := 8) hx hb hw inS hown hK hP 0 rfl rfl 3 (by decide) (hw _ w157) (fun _ h9 => h9) rfl dS_recover_15 ?_
  refine lv_iload_n hx hb dS_recover_18 rfl (lv_at hl 0 rfl) ?_
  refine va_aldq hx hb hK hP 5 3 rfl rfl (tv_in (by decide +kernel)) dS_recover_19 ?_
  refine W.eq (g2 := F0 m 20 ls [.ref t0]) rfl ?_
  refine lv_iconst (v := 0) hx hb dS_recover_20 (by decide) ?_
  refine va_put (D := (dC, dI)) (ci := 2) (v := .int 0) (ty := .boolean) (C := "LoggedStore$Transaction") (T := uR) (N := 5) hx hb hw inR tyR tyR_ok nmR hown hK hP hD hS 6 rfl rfl 4 (by decide) (hw _ w122) (fun _ h9 => h9) rfl (by decide +kernel) rfl rfl (Nat.le_of_ble_eq_true rfl) dS_recover_21 (fun H locs hP hD hS => ?_)
  have hP : va_P (dC, dI) vwC [(x, .inr (3, [.ref d, .ref tb, .ref wa, .ref ts, .int 0, .int 1, .int 0, .int 22])), (w, .inl (cI, 384, .inl W0)), (tb, .inr (1, [.ref hs, .ref ns, .int 0])), (hs, .inl (cZ, 64, .inl (fun _ => 0))), (wa, .inl (cI, 64, .inl (fun _ => 0))), (ts, .inl (cT, 3, .inr (.inr (.inr (.inr (tF t0 t1 t2)))))), (t0, .inr (2, [.ref v0, .ref vw0, .int 0, .int 0, .int 0])), (t1, .inr (2, [.ref v1, .ref vw1, .int 0, .int 0, .int 0])), (t2, .inr (2, [.ref v2, .ref vw2, .int 0, .int 0, .int 0])), (d, .inr (0, [.ref w, .int (-1), .int 0, .int 0]))] H := hP
  have hD : va_D A [(x, .inr (3, [.ref d, .ref tb, .ref wa, .ref ts, .int 0, .int 1, .int 0, .int 22])), (w, .inl (cI, 384, .inl W0)), (tb, .inr (1, [.ref hs, .ref ns, .int 0])), (hs, .inl (cZ, 64, .inl (fun _ => 0))), (wa, .inl (cI, 64, .inl (fun _ => 0))), (ts, .inl (cT, 3, .inr (.inr (.inr (.inr (tF t0 t1 t2)))))), (t0, .inr (2, [.ref v0, .ref vw0, .int 0, .int 0, .int 0])), (t1, .inr (2, [.ref v1, .ref vw1, .int 0, .int 0, .int 0])), (t2, .inr (2, [.ref v2, .ref vw2, .int 0, .int 0, .int 0])), (d, .inr (0, [.ref w, .int (-1), .int 0, .int 0]))] := hD
  refine lv_iinc (k := 0) (v := 1) hx hb dS_recover_24 hl rfl (by decide +kernel) (by decide) rfl (fun ls hl => ?_)
  have hl : lv_has ls 2 [(1, .int 1), (0, .ref x)] := hl
  refine lv_goto (tgt := 9) hx hb dS_recover_27 (by decide) ?_
  refine lv_iload_n hx hb dS_recover_9 rfl (lv_at hl 0 rfl) ?_
  refine lv_iconst (v := 3) hx hb dS_recover_10 (by decide) ?_
  refine lv_icmp_ge (tgt := 30) hx hb dS_recover_11 (by decide) (fun h9 => absurd h9 (by decide)) (fun _ => ?_)
  refine lv_aload_n hx hb dS_recover_14 rfl (lv_at hl 1 rfl) ?_
  refine va_get (D := (dC, dI)) (ci := 3) (v := .ref ts) (C := "LoggedStore") (T := uS) (N := 8) hx hb hw inS hown hK hP 0 rfl rfl 3 (by decide) (hw _ w157) (fun _ h9 => h9) rfl dS_recover_15 ?_
  refine lv_iload_n hx hb dS_recover_18 rfl (lv_at hl 0 rfl) ?_
  refine va_aldq hx hb hK hP 5 3 rfl rfl (tv_in (by decide +kernel)) dS_recover_19 ?_
  refine W.eq (g2 := F0 m 20 ls [.ref t1]) rfl ?_
  refine lv_iconst (v := 0) hx hb dS_recover_20 (by decide) ?_
  refine va_put (D := (dC, dI)) (ci := 2) (v := .int 0) (ty := .boolean) (C := "LoggedStore$Transaction") (T := uR) (N := 5) hx hb hw inR tyR tyR_ok nmR hown hK hP hD hS 7 rfl rfl 4 (by decide) (hw _ w122) (fun _ h9 => h9) rfl (by decide +kernel) rfl rfl (Nat.le_of_ble_eq_true rfl) dS_recover_21 (fun H locs hP hD hS => ?_)
  have hP : va_P (dC, dI) vwC [(x, .inr (3, [.ref d, .ref tb, .ref wa, .ref ts, .int 0, .int 1, .int 0, .int 22])), (w, .inl (cI, 384, .inl W0)), (tb, .inr (1, [.ref hs, .ref ns, .int 0])), (hs, .inl (cZ, 64, .inl (fun _ => 0))), (wa, .inl (cI, 64, .inl (fun _ => 0))), (ts, .inl (cT, 3, .inr (.inr (.inr (.inr (tF t0 t1 t2)))))), (t0, .inr (2, [.ref v0, .ref vw0, .int 0, .int 0, .int 0])), (t1, .inr (2, [.ref v1, .ref vw1, .int 0, .int 0, .int 0])), (t2, .inr (2, [.ref v2, .ref vw2, .int 0, .int 0, .int 0])), (d, .inr (0, [.ref w, .int (-1), .int 0, .int 0]))] H := hP
  have hD : va_D A [(x, .inr (3, [.ref d, .ref tb, .ref wa, .ref ts, .int 0, .int 1, .int 0, .int 22])), (w, .inl (cI, 384, .inl W0)), (tb, .inr (1, [.ref hs, .ref ns, .int 0])), (hs, .inl (cZ, 64, .inl (fun _ => 0))), (wa, .inl (cI, 64, .inl (fun _ => 0))), (ts, .inl (cT, 3, .inr (.inr (.inr (.inr (tF t0 t1 t2)))))), (t0, .inr (2, [.ref v0, .ref vw0, .int 0, .int 0, .int 0])), (t1, .inr (2, [.ref v1, .ref vw1, .int 0, .int 0, .int 0])), (t2, .inr (2, [.ref v2, .ref vw2, .int 0, .int 0, .int 0])), (d, .inr (0, [.ref w, .int (-1), .int 0, .int 0]))] := hD
  refine lv_iinc (k := 0) (v := 2) hx hb dS_recover_24 hl rfl (by decide +kernel) (by decide) rfl (fun ls hl => ?_)
  have hl : lv_has ls 2 [(1, .int 2), (0, .ref x)] := hl
  refine lv_goto (tgt := 9) hx hb dS_recover_27 (by decide) ?_
  refine lv_iload_n hx hb dS_recover_9 rfl (lv_at hl 0 rfl) ?_
  refine lv_iconst (v := 3) hx hb dS_recover_10 (by decide) ?_
  refine lv_icmp_ge (tgt := 30) hx hb dS_recover_11 (by decide) (fun h9 => absurd h9 (by decide)) (fun _ => ?_)
  refine lv_aload_n hx hb dS_recover_14 rfl (lv_at hl 1 rfl) ?_
  refine va_get (D := (dC, dI)) (ci := 3) (v := .ref ts) (C := "LoggedStore") (T := uS) (N := 8) hx hb hw inS hown hK hP 0 rfl rfl 3 (by decide) (hw _ w157) (fun _ h9 => h9) rfl dS_recover_15 ?_
  refine lv_iload_n hx hb dS_recover_18 rfl (lv_at hl 0 rfl) ?_
  refine va_aldq hx hb hK hP 5 3 rfl rfl (tv_in (by decide +kernel)) dS_recover_19 ?_
  refine W.eq (g2 := F0 m 20 ls [.ref t2]) rfl ?_
  refine lv_iconst (v := 0) hx hb dS_recover_20 (by decide) ?_
  refine va_put (D := (dC, dI)) (ci := 2) (v := .int 0) (ty := .boolean) (C := "LoggedStore$Transaction") (T := uR) (N := 5) hx hb hw inR tyR tyR_ok nmR hown hK hP hD hS 8 rfl rfl 4 (by decide) (hw _ w122) (fun _ h9 => h9) rfl (by decide +kernel) rfl rfl (Nat.le_of_ble_eq_true rfl) dS_recover_21 (fun H locs hP hD hS => ?_)
  have hP : va_P (dC, dI) vwC [(x, .inr (3, [.ref d, .ref tb, .ref wa, .ref ts, .int 0, .int 1, .int 0, .int 22])), (w, .inl (cI, 384, .inl W0)), (tb, .inr (1, [.ref hs, .ref ns, .int 0])), (hs, .inl (cZ, 64, .inl (fun _ => 0))), (wa, .inl (cI, 64, .inl (fun _ => 0))), (ts, .inl (cT, 3, .inr (.inr (.inr (.inr (tF t0 t1 t2)))))), (t0, .inr (2, [.ref v0, .ref vw0, .int 0, .int 0, .int 0])), (t1, .inr (2, [.ref v1, .ref vw1, .int 0, .int 0, .int 0])), (t2, .inr (2, [.ref v2, .ref vw2, .int 0, .int 0, .int 0])), (d, .inr (0, [.ref w, .int (-1), .int 0, .int 0]))] H := hP
  have hD : va_D A [(x, .inr (3, [.ref d, .ref tb, .ref wa, .ref ts, .int 0, .int 1, .int 0, .int 22])), (w, .inl (cI, 384, .inl W0)), (tb, .inr (1, [.ref hs, .ref ns, .int 0])), (hs, .inl (cZ, 64, .inl (fun _ => 0))), (wa, .inl (cI, 64, .inl (fun _ => 0))), (ts, .inl (cT, 3, .inr (.inr (.inr (.inr (tF t0 t1 t2)))))), (t0, .inr (2, [.ref v0, .ref vw0, .int 0, .int 0, .int 0])), (t1, .inr (2, [.ref v1, .ref vw1, .int 0, .int 0, .int 0])), (t2, .inr (2, [.ref v2, .ref vw2, .int 0, .int 0, .int 0])), (d, .inr (0, [.ref w, .int (-1), .int 0, .int 0]))] := hD
  refine lv_iinc (k := 0) (v := 3) hx hb dS_recover_24 hl rfl (by decide +kernel) (by decide) rfl (fun ls hl => ?_)
  have hl : lv_has ls 2 [(1, .int 3), (0, .ref x)] := hl
  refine lv_goto (tgt := 9) hx hb dS_recover_27 (by decide) ?_
  refine lv_iload_n hx hb dS_recover_9 rfl (lv_at hl 0 rfl) ?_
  refine lv_iconst (v := 3) hx hb dS_recover_10 (by decide) ?_
  refine lv_icmp_ge (tgt := 30) hx hb dS_recover_11 (by decide) (fun _ => ?_) (fun h9 => absurd (by decide) h9)
  refine lv_aload_n hx hb dS_recover_30 rfl (lv_at hl 1 rfl) ?_
  refine va_get (D := (dC, dI)) (ci := 3) (v := .ref wa) (C := "LoggedStore") (T := uS) (N := 8) hx hb hw inS hown hK hP 0 rfl rfl 2 (by decide) (hw _ w156) (fun _ h9 => h9) rfl dS_recover_31 ?_
  refine lv_iconst (v := 0) hx hb dS_recover_34 (by decide) ?_
  have hPc := hP.sub (ws' := [(wa, .inl (cI, 64, .inl (fun _ => 0)))]) [4] rfl
  have hDc := hD.sub (ws' := [(wa, .inl (cI, 64, .inl (fun _ => 0)))]) [4] (by decide) rfl
  have hFc := va_free (wc := [(wa, .inl (cI, 64, .inl (fun _ => 0)))]) hD hS hA [4] rfl
  refine va_callv (va_runS (As := [.ref wa, .int 0]) (rest := []) ⟨hx, hb, hml, hown, hw⟩ (c_fill l dC dI cI cZ cJ cT wa H.size) ⟨callB_of 2 hw (gA0 w207) rfl rfl rfl (hw _ w54) (hw _ w205) (by decide +kernel) ⟨Nat.le_of_ble_eq_true rfl, Nat.le_of_ble_eq_true rfl⟩, (hw _ w206)⟩ ⟨kb_Q, fun U hU hW => ⟨rfl, by rw [hU], by rw [hU]; exact hPc, hKK.moved hW, hDc.weaken (fun _ _ _ _ => trivial)⟩⟩ rfl rfl hl.1 rfl (lv_room (Nat.le_of_ble_eq_true rfl)) dS_recover_35 ⟨Nat.le_of_ble_eq_true rfl, Nat.le_of_ble_eq_true rfl⟩) hS (fun q _ h => hFc q h) hFc (fun u4 t H1 locs ht hvm he9 hB hz1 hk1 hS => ?_)
  obtain ⟨hP, hD⟩ := va_join (wr := [(x, .inr (3, [.ref d, .ref tb, .ref wa, .ref ts, .int 0, .int 1, .int 0, .int 22])), (w, .inl (cI, 384, .inl W0)), (tb, .inr (1, [.ref hs, .ref ns, .int 0])), (hs, .inl (cZ, 64, .inl (fun _ => 0))), (ts, .inl (cT, 3, .inr (.inr (.inr (.inr (tF t0 t1 t2)))))), (t0, .inr (2, [.ref v0, .ref vw0, .int 0, .int 0, .int 0])), (t1, .inr (2, [.ref v1, .ref vw1, .int 0, .int 0, .int 0])), (t2, .inr (2, [.ref v2, .ref vw2, .int 0, .int 0, .int 0])), (d, .inr (0, [.ref w, .int (-1), .int 0, .int 0]))]) (w1 := []) hP hD [4] [0, 1, 2, 3, 5, 6, 7, 8, 9] rfl rfl (by decide) (by decide) hk1 hFc tk_P0 tk_D0
  generalize H1 = H at hP hS ⊢
  have hP : va_P (dC, dI) vwC [(x, .inr (3, [.ref d, .ref tb, .ref wa, .ref ts, .int 0, .int 1, .int 0, .int 22])), (w, .inl (cI, 384, .inl W0)), (tb, .inr (1, [.ref hs, .ref ns, .int 0])), (hs, .inl (cZ, 64, .inl (fun _ => 0))), (ts, .inl (cT, 3, .inr (.inr (.inr (.inr (tF t0 t1 t2)))))), (t0, .inr (2, [.ref v0, .ref vw0, .int 0, .int 0, .int 0])), (t1, .inr (2, [.ref v1, .ref vw1, .int 0, .int 0, .int 0])), (t2, .inr (2, [.ref v2, .ref vw2, .int 0, .int 0, .int 0])), (d, .inr (0, [.ref w, .int (-1), .int 0, .int 0]))] H := hP
  have hD : va_D A [(x, .inr (3, [.ref d, .ref tb, .ref wa, .ref ts, .int 0, .int 1, .int 0, .int 22])), (w, .inl (cI, 384, .inl W0)), (tb, .inr (1, [.ref hs, .ref ns, .int 0])), (hs, .inl (cZ, 64, .inl (fun _ => 0))), (ts, .inl (cT, 3, .inr (.inr (.inr (.inr (tF t0 t1 t2)))))), (t0, .inr (2, [.ref v0, .ref vw0, .int 0, .int 0, .int 0])), (t1, .inr (2, [.ref v1, .ref vw1, .int 0, .int 0, .int 0])), (t2, .inr (2, [.ref v2, .ref vw2, .int 0, .int 0, .int 0])), (d, .inr (0, [.ref w, .int (-1), .int 0, .int 0]))] := hD
  refine lv_aload_n hx hb dS_recover_38 rfl (lv_at hl 1 rfl) ?_
  refine lv_aload_n hx hb dS_recover_39 rfl (lv_at hl 1 rfl) ?_
  have hPc := hP.sub (ws' := [(x, .inr (3, [.ref d, .ref tb, .ref wa, .ref ts, .int 0, .int 1, .int 0, .int 22])), (d, .inr (0, [.ref w, .int (-1), .int 0, .int 0])), (w, .inl (cI, 384, .inl W0))]) [0, 8, 1] rfl
  refine vp_callSi (W.runV (C := "LoggedStore") (b := x) (As := []) (rest := [.ref x]) ⟨hx, hb, hml, hown, hw⟩ (c_countingHeader l dC dI cI cZ cJ cT x d w tb wa ts) ⟨callB_of 0 hw (gA0 w211) rfl rfl rfl (hw _ w40) (hw _ w208) (by decide +kernel) ⟨Nat.le_of_ble_eq_true rfl, Nat.le_of_ble_eq_true rfl⟩, (hw _ w210), (hw _ w1)⟩ ⟨kb_S, va_recv (ci := 3) (q0 := 0) hK hP rfl rfl, fun U hU hW => ⟨rfl, by rw [hU]; exact hPc, hKK.moved hW⟩⟩ rfl rfl hl.1 rfl (lv_room (Nat.le_of_ble_eq_true rfl)) dS_recover_40 ⟨Nat.le_of_ble_eq_true rfl, Nat.le_of_ble_eq_true rfl⟩) (fun r5 e6 => ?_)
  obtain rfl : r5 = 0 := e6
  have hPc := hP.sub (ws' := [(x, .inr (3, [.ref d, .ref tb, .ref wa, .ref ts, .int 0, .int 1, .int 0, .int 22])), (d, .inr (0, [.ref w, .int (-1), .int 0, .int 0])), (w, .inl (cI, 384, .inl W0)), (tb, .inr (1, [.ref hs, .ref ns, .int 0])), (hs, .inl (cZ, 64, .inl (fun _ => 0)))]) [0, 8, 1, 2, 3] rfl
  have hDc := hD.sub (ws' := [(x, .inr (3, [.ref d, .ref tb, .ref wa, .ref ts, .int 0, .int 1, .int 0, .int 22])), (d, .inr (0, [.ref w, .int (-1), .int 0, .int 0])), (w, .inl (cI, 384, .inl W0)), (tb, .inr (1, [.ref hs, .ref ns, .int 0])), (hs, .inl (cZ, 64, .inl (fun _ => 0)))]) [0, 8, 1, 2, 3] (by decide) rfl
  have hFc := va_free (wc := [(x, .inr (3, [.ref d, .ref tb, .ref wa, .ref ts, .int 0, .int 1, .int 0, .int 22])), (d, .inr (0, [.ref w, .int (-1), .int 0, .int 0])), (w, .inl (cI, 384, .inl W0)), (tb, .inr (1, [.ref hs, .ref ns, .int 0])), (hs, .inl (cZ, 64, .inl (fun _ => 0)))]) hD hS hA [0, 8, 1, 2, 3] rfl
  refine va_callv (va_runV (C := "LoggedStore") (b := x) (As := [.int 0]) (rest := []) ⟨hx, hb, hml, hown, hw⟩ (c_readCheckpoint l dC dI cI cZ cJ cT x d w tb wa ts hs ns H.size) ⟨callB_of 1 hw (gA0 w229) rfl rfl rfl (hw _ w40) (hw _ w226) (by decide +kernel) ⟨Nat.le_of_ble_eq_true rfl, Nat.le_of_ble_eq_true rfl⟩, (hw _ w228), (hw _ w3)⟩ ⟨kb_Q, va_recv (ci := 3) (q0 := 0) hK hP rfl rfl, fun U hU hW => ⟨rfl, by rw [hU], by rw [hU]; exact hPc, hKK.moved hW, hDc.weaken (fun _ _ _ _ => trivial)⟩⟩ rfl rfl hl.1 rfl (lv_room (Nat.le_of_ble_eq_true rfl)) dS_recover_43 ⟨Nat.le_of_ble_eq_true rfl, Nat.le_of_ble_eq_true rfl⟩) hS (fun q _ h => hFc q h) hFc (fun u8 t H1 locs ht hvm he9 hB hz1 hk1 hS => ?_)
  obtain ⟨hP1, hD1⟩ := hB
  rw [ht] at hP1
  obtain ⟨hP, hD⟩ := va_join (wr := [(ts, .inl (cT, 3, .inr (.inr (.inr (.inr (tF t0 t1 t2)))))), (t0, .inr (2, [.ref v0, .ref vw0, .int 0, .int 0, .int 0])), (t1, .inr (2, [.ref v1, .ref vw1, .int 0, .int 0, .int 0])), (t2, .inr (2, [.ref v2, .ref vw2, .int 0, .int 0, .int 0]))]) (w1 := [(x, .inr (3, [.ref d, .ref tb, .ref wa, .ref ts, .int 0, .int 1, .int 0, .int 22])), (d, .inr (0, [.ref w, .int (-1), .int 0, .int 0])), (w, .inl (cI, 384, .inl W0))]) hP hD [0, 8, 1, 2, 3] [4, 5, 6, 7] rfl rfl (by decide) (by decide) hk1 hFc hP1 hD1
  generalize H1 = H at hP hS ⊢
  have hP : va_P (dC, dI) vwC [(ts, .inl (cT, 3, .inr (.inr (.inr (.inr (tF t0 t1 t2)))))), (t0, .inr (2, [.ref v0, .ref vw0, .int 0, .int 0, .int 0])), (t1, .inr (2, [.ref v1, .ref vw1, .int 0, .int 0, .int 0])), (t2, .inr (2, [.ref v2, .ref vw2, .int 0, .int 0, .int 0])), (x, .inr (3, [.ref d, .ref tb, .ref wa, .ref ts, .int 0, .int 1, .int 0, .int 22])), (d, .inr (0, [.ref w, .int (-1), .int 0, .int 0])), (w, .inl (cI, 384, .inl W0))] H := hP
  have hD : va_D A [(ts, .inl (cT, 3, .inr (.inr (.inr (.inr (tF t0 t1 t2)))))), (t0, .inr (2, [.ref v0, .ref vw0, .int 0, .int 0, .int 0])), (t1, .inr (2, [.ref v1, .ref vw1, .int 0, .int 0, .int 0])), (t2, .inr (2, [.ref v2, .ref vw2, .int 0, .int 0, .int 0])), (x, .inr (3, [.ref d, .ref tb, .ref wa, .ref ts, .int 0, .int 1, .int 0, .int 22])), (d, .inr (0, [.ref w, .int (-1), .int 0, .int 0])), (w, .inl (cI, 384, .inl W0))] := hD
  refine lv_aload_n hx hb dS_recover_46 rfl (lv_at hl 1 rfl) ?_
  have hPc := hP.sub (ws' := [(x, .inr (3, [.ref d, .ref tb, .ref wa, .ref ts, .int 0, .int 1, .int 0, .int 22])), (d, .inr (0, [.ref w, .int (-1), .int 0, .int 0])), (w, .inl (cI, 384, .inl W0))]) [4, 5, 6] rfl
  have hDc := hD.sub (ws' := [(x, .inr (3, [.ref d, .ref tb, .ref wa, .ref ts, .int 0, .int 1, .int 0, .int 22])), (d, .inr (0, [.ref w, .int (-1), .int 0, .int 0])), (w, .inl (cI, 384, .inl W0))]) [4, 5, 6] (by decide) rfl
  have hFc := va_free (wc := [(x, .inr (3, [.ref d, .ref tb, .ref wa, .ref ts, .int 0, .int 1, .int 0, .int 22])), (d, .inr (0, [.ref w, .int (-1), .int 0, .int 0])), (w, .inl (cI, 384, .inl W0))]) hD hS hA [4, 5, 6] rfl
  refine va_callv (va_runV (C := "LoggedStore") (b := x) (As := []) (rest := []) ⟨hx, hb, hml, hown, hw⟩ (c_redoLog l dC dI cI cZ cJ cT x d w tb wa ts H.size) ⟨callB_of 0 hw (gA0 w251) rfl rfl rfl (hw _ w40) (hw _ w248) (by decide +kernel) ⟨Nat.le_of_ble_eq_true rfl, Nat.le_of_ble_eq_true rfl⟩, (hw _ w250), (hw _ w5)⟩ ⟨kb_Q, va_recv (ci := 3) (q0 := 4) hK hP rfl rfl, fun U hU hW => ⟨rfl, by rw [hU], by rw [hU]; exact hPc, hKK.moved hW, hDc.weaken (fun _ _ _ _ => trivial)⟩⟩ rfl rfl hl.1 rfl (lv_room (Nat.le_of_ble_eq_true rfl)) dS_recover_47 ⟨Nat.le_of_ble_eq_true rfl, Nat.le_of_ble_eq_true rfl⟩) hS (fun q _ h => hFc q h) hFc (fun u10 t H1 locs ht hvm he9 hB hz1 hk1 hS => ?_)
  obtain ⟨hP1, hD1⟩ := hB
  rw [ht] at hP1
  obtain ⟨hP, hD⟩ := va_join (wr := [(ts, .inl (cT, 3, .inr (.inr (.inr (.inr (tF t0 t1 t2)))))), (t0, .inr (2, [.ref v0, .ref vw0, .int 0, .int 0, .int 0])), (t1, .inr (2, [.ref v1, .ref vw1, .int 0, .int 0, .int 0])), (t2, .inr (2, [.ref v2, .ref vw2, .int 0, .int 0, .int 0]))]) (w1 := [(x, .inr (3, [.ref d, .ref tb, .ref wa, .ref ts, .int 0, .int 1, .int 0, .int 22]))]) hP hD [4, 5, 6] [0, 1, 2, 3] rfl rfl (by decide) (by decide) hk1 hFc hP1 hD1
  generalize H1 = H at hP hS ⊢
  have hP : va_P (dC, dI) vwC [(ts, .inl (cT, 3, .inr (.inr (.inr (.inr (tF t0 t1 t2)))))), (t0, .inr (2, [.ref v0, .ref vw0, .int 0, .int 0, .int 0])), (t1, .inr (2, [.ref v1, .ref vw1, .int 0, .int 0, .int 0])), (t2, .inr (2, [.ref v2, .ref vw2, .int 0, .int 0, .int 0])), (x, .inr (3, [.ref d, .ref tb, .ref wa, .ref ts, .int 0, .int 1, .int 0, .int 22]))] H := hP
  have hD : va_D A [(ts, .inl (cT, 3, .inr (.inr (.inr (.inr (tF t0 t1 t2)))))), (t0, .inr (2, [.ref v0, .ref vw0, .int 0, .int 0, .int 0])), (t1, .inr (2, [.ref v1, .ref vw1, .int 0, .int 0, .int 0])), (t2, .inr (2, [.ref v2, .ref vw2, .int 0, .int 0, .int 0])), (x, .inr (3, [.ref d, .ref tb, .ref wa, .ref ts, .int 0, .int 1, .int 0, .int 22]))] := hD
  refine lv_aload_n hx hb dS_recover_50 rfl (lv_at hl 1 rfl) ?_
  refine va_get (D := (dC, dI)) (ci := 3) (v := .int 0) (C := "LoggedStore") (T := uS) (N := 8) hx hb hw inS hown hK hP 4 rfl rfl 4 (by decide) (hw _ w158) (fun _ h9 => h9) rfl dS_recover_51 ?_
  refine W.widen (k := 0) (n := 0) (by decide) (by decide) ?_
  exact W.iret (v := 0) hx hb hr (fun t ht hW => ⟨⟨0, fun _ => 0, rfl, rfl, trivial⟩, hS.F ht⟩) hS.2.2 dS_recover_54

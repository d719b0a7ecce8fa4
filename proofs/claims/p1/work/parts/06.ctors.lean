set_option maxRecDepth 100000 in
theorem w0 : (Cond.selects "LoggedStore$Disk" yD_setWords yD_setWords) ∈ wsA := List.mem_filter.mpr ⟨List.mem_of_getElem? (i := 0) rfl, rfl⟩
set_option maxRecDepth 100000 in
theorem w41 : (Cond.initialized "LoggedStore$Disk") ∈ wsA := List.mem_filter.mpr ⟨List.mem_of_getElem? (i := 41) rfl, rfl⟩
set_option maxRecDepth 100000 in
theorem w42 : (Cond.initialized "LoggedStore$Table") ∈ wsA := List.mem_filter.mpr ⟨List.mem_of_getElem? (i := 42) rfl, rfl⟩
set_option maxRecDepth 100000 in
theorem w44 : (Cond.initialized "java/lang/Math") ∈ wsA := List.mem_filter.mpr ⟨List.mem_of_getElem? (i := 44) rfl, rfl⟩
set_option maxRecDepth 100000 in
theorem w61 : (Cond.instanceMethod objectInit) ∈ wsA := List.mem_filter.mpr ⟨List.mem_of_getElem? (i := 61) rfl, rfl⟩
set_option maxRecDepth 100000 in
theorem w62 : (Cond.code objectInit ⟨#[0xb1]⟩ 1 none) ∈ wsA := List.mem_filter.mpr ⟨List.mem_of_getElem? (i := 62) rfl, rfl⟩
set_option maxRecDepth 100000 in
theorem w67 : (Cond.code yD_init cD_init 1 none) ∈ wsA := List.mem_filter.mpr ⟨List.mem_of_getElem? (i := 67) rfl, rfl⟩
set_option maxRecDepth 100000 in
theorem w68 : (Cond.methodLink "LoggedStore$Disk" 3 objectInit) ∈ wsA := List.mem_filter.mpr ⟨List.mem_of_getElem? (i := 68) rfl, rfl⟩
set_option maxRecDepth 100000 in
theorem w69 : (Cond.fieldLink "LoggedStore$Disk" 11 "LoggedStore$Disk" "words" "[I") ∈ wsA := List.mem_filter.mpr ⟨List.mem_of_getElem? (i := 69) rfl, rfl⟩
set_option maxRecDepth 100000 in
theorem w70 : (Cond.fieldLink "LoggedStore$Disk" 15 "LoggedStore$Disk" "writesLeft" "I") ∈ wsA := List.mem_filter.mpr ⟨List.mem_of_getElem? (i := 70) rfl, rfl⟩
set_option maxRecDepth 100000 in
theorem w71 : (Cond.fieldLink "LoggedStore$Disk" 19 "LoggedStore$Disk" "wordsOfLost" "I") ∈ wsA := List.mem_filter.mpr ⟨List.mem_of_getElem? (i := 71) rfl, rfl⟩
set_option maxRecDepth 100000 in
theorem w72 : (Cond.fieldLink "LoggedStore$Disk" 22 "LoggedStore$Disk" "down" "Z") ∈ wsA := List.mem_filter.mpr ⟨List.mem_of_getElem? (i := 72) rfl, rfl⟩
set_option maxRecDepth 100000 in
theorem w83 : (Cond.arrayClass .int) ∈ wsA := List.mem_filter.mpr ⟨List.mem_of_getElem? (i := 83) rfl, rfl⟩
set_option maxRecDepth 100000 in
theorem w85 : (Cond.instantiable "LoggedStore$Table" 3) ∈ wsA := List.mem_filter.mpr ⟨List.mem_of_getElem? (i := 85) rfl, rfl⟩
set_option maxRecDepth 100000 in
theorem w87 : (Cond.instanceMethod yT_init) ∈ wsA := List.mem_filter.mpr ⟨List.mem_of_getElem? (i := 87) rfl, rfl⟩
set_option maxRecDepth 100000 in
theorem w88 : (Cond.code yT_init cT_init 1 none) ∈ wsA := List.mem_filter.mpr ⟨List.mem_of_getElem? (i := 88) rfl, rfl⟩
set_option maxRecDepth 100000 in
theorem w89 : (Cond.methodLink "LoggedStore$Table" 3 objectInit) ∈ wsA := List.mem_filter.mpr ⟨List.mem_of_getElem? (i := 89) rfl, rfl⟩
set_option maxRecDepth 100000 in
theorem w90 : (Cond.fieldLink "LoggedStore$Table" 9 "LoggedStore$Table" "has" "[Z") ∈ wsA := List.mem_filter.mpr ⟨List.mem_of_getElem? (i := 90) rfl, rfl⟩
set_option maxRecDepth 100000 in
theorem w92 : (Cond.fieldLink "LoggedStore$Table" 15 "LoggedStore$Table" "numbers" "[I") ∈ wsA := List.mem_filter.mpr ⟨List.mem_of_getElem? (i := 92) rfl, rfl⟩
set_option maxRecDepth 100000 in
theorem w94 : (Cond.fieldLink "LoggedStore$Table" 19 "LoggedStore$Table" "size" "I") ∈ wsA := List.mem_filter.mpr ⟨List.mem_of_getElem? (i := 94) rfl, rfl⟩
set_option maxRecDepth 100000 in
theorem w103 : (Cond.arrayClass .boolean) ∈ wsA := List.mem_filter.mpr ⟨List.mem_of_getElem? (i := 103) rfl, rfl⟩
set_option maxRecDepth 100000 in
theorem w109 : (Cond.code yR_init cR_init 1 none) ∈ wsA := List.mem_filter.mpr ⟨List.mem_of_getElem? (i := 109) rfl, rfl⟩
set_option maxRecDepth 100000 in
theorem w110 : (Cond.methodLink "LoggedStore$Transaction" 3 objectInit) ∈ wsA := List.mem_filter.mpr ⟨List.mem_of_getElem? (i := 110) rfl, rfl⟩
set_option maxRecDepth 100000 in
theorem w111 : (Cond.classLink "LoggedStore$Transaction" 9 "LoggedStore$Table") ∈ wsA := List.mem_filter.mpr ⟨List.mem_of_getElem? (i := 111) rfl, rfl⟩
set_option maxRecDepth 100000 in
theorem w113 : (Cond.fieldLink "LoggedStore$Transaction" 12 "LoggedStore$Transaction" "view" "LLoggedStore$Table;") ∈ wsA := List.mem_filter.mpr ⟨List.mem_of_getElem? (i := 113) rfl, rfl⟩
set_option maxRecDepth 100000 in
theorem w115 : (Cond.fieldLink "LoggedStore$Transaction" 18 "LoggedStore$Transaction" "written" "[Z") ∈ wsA := List.mem_filter.mpr ⟨List.mem_of_getElem? (i := 115) rfl, rfl⟩
set_option maxRecDepth 100000 in
theorem w117 : (Cond.fieldLink "LoggedStore$Transaction" 22 "LoggedStore$Transaction" "writes" "I") ∈ wsA := List.mem_filter.mpr ⟨List.mem_of_getElem? (i := 117) rfl, rfl⟩
set_option maxRecDepth 100000 in
theorem w119 : (Cond.fieldLink "LoggedStore$Transaction" 26 "LoggedStore$Transaction" "beganAt" "I") ∈ wsA := List.mem_filter.mpr ⟨List.mem_of_getElem? (i := 119) rfl, rfl⟩
set_option maxRecDepth 100000 in
theorem w121 : (Cond.fieldLink "LoggedStore$Transaction" 29 "LoggedStore$Transaction" "open" "Z") ∈ wsA := List.mem_filter.mpr ⟨List.mem_of_getElem? (i := 121) rfl, rfl⟩
set_option maxRecDepth 100000 in
theorem w137 : (Cond.code yD_format cD_format 2 none) ∈ wsA := List.mem_filter.mpr ⟨List.mem_of_getElem? (i := 137) rfl, rfl⟩
set_option maxRecDepth 100000 in
theorem w139 : (Cond.static yS_headerBlock) ∈ wsA := List.mem_filter.mpr ⟨List.mem_of_getElem? (i := 139) rfl, rfl⟩
set_option maxRecDepth 100000 in
theorem w140 : (Cond.code yS_headerBlock cS_headerBlock 1 (some .int)) ∈ wsA := List.mem_filter.mpr ⟨List.mem_of_getElem? (i := 140) rfl, rfl⟩
set_option maxRecDepth 100000 in
theorem w141 : (Cond.methodLink "LoggedStore" 221 yA_floorMod) ∈ wsA := List.mem_filter.mpr ⟨List.mem_of_getElem? (i := 141) rfl, rfl⟩
set_option maxRecDepth 100000 in
theorem w142 : (Cond.static yA_floorMod) ∈ wsA := List.mem_filter.mpr ⟨List.mem_of_getElem? (i := 142) rfl, rfl⟩
set_option maxRecDepth 100000 in
theorem w143 : (Cond.code yA_floorMod cA_floorMod 3 (some .int)) ∈ wsA := List.mem_filter.mpr ⟨List.mem_of_getElem? (i := 143) rfl, rfl⟩
set_option maxRecDepth 100000 in
theorem w144 : (Cond.methodLink "LoggedStore$Disk" 30 yD_checkOf) ∈ wsA := List.mem_filter.mpr ⟨List.mem_of_getElem? (i := 144) rfl, rfl⟩
set_option maxRecDepth 100000 in
theorem w145 : (Cond.static yD_checkOf) ∈ wsA := List.mem_filter.mpr ⟨List.mem_of_getElem? (i := 145) rfl, rfl⟩
set_option maxRecDepth 100000 in
theorem w146 : (Cond.code yD_checkOf cD_checkOf 4 (some .int)) ∈ wsA := List.mem_filter.mpr ⟨List.mem_of_getElem? (i := 146) rfl, rfl⟩
set_option maxRecDepth 100000 in
theorem w147 : (Cond.constant "LoggedStore$Disk" 61 65536) ∈ wsA := List.mem_filter.mpr ⟨List.mem_of_getElem? (i := 147) rfl, rfl⟩
set_option maxRecDepth 100000 in
theorem w148 : (Cond.constant "LoggedStore$Disk" 62 1664525) ∈ wsA := List.mem_filter.mpr ⟨List.mem_of_getElem? (i := 148) rfl, rfl⟩
set_option maxRecDepth 100000 in
theorem w149 : (Cond.constant "LoggedStore$Disk" 63 1013904223) ∈ wsA := List.mem_filter.mpr ⟨List.mem_of_getElem? (i := 149) rfl, rfl⟩
set_option maxRecDepth 100000 in
theorem w150 : (Cond.methodLink "LoggedStore$Disk" 34 yD_setWords) ∈ wsA := List.mem_filter.mpr ⟨List.mem_of_getElem? (i := 150) rfl, rfl⟩
set_option maxRecDepth 100000 in
theorem w152 : (Cond.instanceMethod yD_setWords) ∈ wsA := List.mem_filter.mpr ⟨List.mem_of_getElem? (i := 152) rfl, rfl⟩
set_option maxRecDepth 100000 in
theorem w153 : (Cond.code yD_setWords cD_setWords 8 none) ∈ wsA := List.mem_filter.mpr ⟨List.mem_of_getElem? (i := 153) rfl, rfl⟩
theorem dA_floorMod_0 : decode cA_floorMod 0 = .ok (.iload_n 0, 1) := by decide +kernel
theorem dA_floorMod_1 : decode cA_floorMod 1 = .ok (.iload_n 1, 1) := by decide +kernel
theorem dA_floorMod_2 : decode cA_floorMod 2 = .ok (.irem, 1) := by decide +kernel
theorem dA_floorMod_3 : decode cA_floorMod 3 = .ok (.istore_n 2, 1) := by decide +kernel
theorem dA_floorMod_4 : decode cA_floorMod 4 = .ok (.iload_n 0, 1) := by decide +kernel
theorem dA_floorMod_5 : decode cA_floorMod 5 = .ok (.iload_n 1, 1) := by decide +kernel
theorem dA_floorMod_6 : decode cA_floorMod 6 = .ok (.ixor, 1) := by decide +kernel
theorem dA_floorMod_7 : decode cA_floorMod 7 = .ok (.ifCond .ge 11, 3) := by decide +kernel
theorem dA_floorMod_18 : decode cA_floorMod 18 = .ok (.iload_n 2, 1) := by decide +kernel
theorem dA_floorMod_19 : decode cA_floorMod 19 = .ok (.ireturn, 1) := by decide +kernel
theorem dS_headerBlock_0 : decode cS_headerBlock 0 = .ok (.iload_n 0, 1) := by decide +kernel
theorem dS_headerBlock_1 : decode cS_headerBlock 1 = .ok (.iconst 1, 1) := by decide +kernel
theorem dS_headerBlock_2 : decode cS_headerBlock 2 = .ok (.iadd, 1) := by decide +kernel
theorem dS_headerBlock_3 : decode cS_headerBlock 3 = .ok (.iconst 2, 1) := by decide +kernel
theorem dS_headerBlock_4 : decode cS_headerBlock 4 = .ok (.invokestatic 221, 3) := by decide +kernel
theorem dS_headerBlock_7 : decode cS_headerBlock 7 = .ok (.ireturn, 1) := by decide +kernel
theorem dD_checkOf_0 : decode cD_checkOf 0 = .ok (.ldc 61, 2) := by decide +kernel
theorem dD_checkOf_2 : decode cD_checkOf 2 = .ok (.iload_n 1, 1) := by decide +kernel
theorem dD_checkOf_3 : decode cD_checkOf 3 = .ok (.imul, 1) := by decide +kernel
theorem dD_checkOf_4 : decode cD_checkOf 4 = .ok (.iload_n 2, 1) := by decide +kernel
theorem dD_checkOf_5 : decode cD_checkOf 5 = .ok (.iadd, 1) := by decide +kernel
theorem dD_checkOf_6 : decode cD_checkOf 6 = .ok (.iload_n 3, 1) := by decide +kernel
theorem dD_checkOf_7 : decode cD_checkOf 7 = .ok (.ldc 62, 2) := by decide +kernel
theorem dD_checkOf_9 : decode cD_checkOf 9 = .ok (.imul, 1) := by decide +kernel
theorem dD_checkOf_10 : decode cD_checkOf 10 = .ok (.ixor, 1) := by decide +kernel
theorem dD_checkOf_11 : decode cD_checkOf 11 = .ok (.ldc 63, 2) := by decide +kernel
theorem dD_checkOf_13 : decode cD_checkOf 13 = .ok (.bipush 97, 2) := by decide +kernel
theorem dD_checkOf_15 : decode cD_checkOf 15 = .ok (.iload_n 0, 1) := by decide +kernel
theorem dD_checkOf_16 : decode cD_checkOf 16 = .ok (.imul, 1) := by decide +kernel
theorem dD_checkOf_17 : decode cD_checkOf 17 = .ok (.iadd, 1) := by decide +kernel
theorem dD_checkOf_18 : decode cD_checkOf 18 = .ok (.ixor, 1) := by decide +kernel
theorem dD_checkOf_19 : decode cD_checkOf 19 = .ok (.ireturn, 1) := by decide +kernel
theorem dD_setWords_0 : decode cD_setWords 0 = .ok (.iconst 4, 1) := by decide +kernel
theorem dD_setWords_1 : decode cD_setWords 1 = .ok (.iload_n 1, 1) := by decide +kernel
theorem dD_setWords_2 : decode cD_setWords 2 = .ok (.imul, 1) := by decide +kernel
theorem dD_setWords_3 : decode cD_setWords 3 = .ok (.istore 7, 2) := by decide +kernel
theorem dD_setWords_5 : decode cD_setWords 5 = .ok (.iload_n 2, 1) := by decide +kernel
theorem dD_setWords_6 : decode cD_setWords 6 = .ok (.ifCond .le 11, 3) := by decide +kernel
theorem dD_setWords_9 : decode cD_setWords 9 = .ok (.aload_n 0, 1) := by decide +kernel
theorem dD_setWords_10 : decode cD_setWords 10 = .ok (.getfield 11, 3) := by decide +kernel
theorem dD_setWords_13 : decode cD_setWords 13 = .ok (.iload 7, 2) := by decide +kernel
theorem dD_setWords_15 : decode cD_setWords 15 = .ok (.iload_n 3, 1) := by decide +kernel
theorem dD_setWords_16 : decode cD_setWords 16 = .ok (.iastore, 1) := by decide +kernel
theorem dD_setWords_17 : decode cD_setWords 17 = .ok (.iload_n 2, 1) := by decide +kernel
theorem dD_setWords_18 : decode cD_setWords 18 = .ok (.iconst 1, 1) := by decide +kernel
theorem dD_setWords_19 : decode cD_setWords 19 = .ok (.if_icmp .le 14, 3) := by decide +kernel
theorem dD_setWords_22 : decode cD_setWords 22 = .ok (.aload_n 0, 1) := by decide +kernel
theorem dD_setWords_23 : decode cD_setWords 23 = .ok (.getfield 11, 3) := by decide +kernel
theorem dD_setWords_26 : decode cD_setWords 26 = .ok (.iload 7, 2) := by decide +kernel
theorem dD_setWords_28 : decode cD_setWords 28 = .ok (.iconst 1, 1) := by decide +kernel
theorem dD_setWords_29 : decode cD_setWords 29 = .ok (.iadd, 1) := by decide +kernel
theorem dD_setWords_30 : decode cD_setWords 30 = .ok (.iload 4, 2) := by decide +kernel
theorem dD_setWords_32 : decode cD_setWords 32 = .ok (.iastore, 1) := by decide +kernel
theorem dD_setWords_33 : decode cD_setWords 33 = .ok (.iload_n 2, 1) := by decide +kernel
theorem dD_setWords_34 : decode cD_setWords 34 = .ok (.iconst 2, 1) := by decide +kernel
theorem dD_setWords_35 : decode cD_setWords 35 = .ok (.if_icmp .le 14, 3) := by decide +kernel
theorem dD_setWords_38 : decode cD_setWords 38 = .ok (.aload_n 0, 1) := by decide +kernel
theorem dD_setWords_39 : decode cD_setWords 39 = .ok (.getfield 11, 3) := by decide +kernel
theorem dD_setWords_42 : decode cD_setWords 42 = .ok (.iload 7, 2) := by decide +kernel
theorem dD_setWords_44 : decode cD_setWords 44 = .ok (.iconst 2, 1) := by decide +kernel
theorem dD_setWords_45 : decode cD_setWords 45 = .ok (.iadd, 1) := by decide +kernel
theorem dD_setWords_46 : decode cD_setWords 46 = .ok (.iload 5, 2) := by decide +kernel
theorem dD_setWords_48 : decode cD_setWords 48 = .ok (.iastore, 1) := by decide +kernel
theorem dD_setWords_49 : decode cD_setWords 49 = .ok (.iload_n 2, 1) := by decide +kernel
theorem dD_setWords_50 : decode cD_setWords 50 = .ok (.iconst 3, 1) := by decide +kernel
theorem dD_setWords_51 : decode cD_setWords 51 = .ok (.if_icmp .le 14, 3) := by decide +kernel
theorem dD_setWords_54 : decode cD_setWords 54 = .ok (.aload_n 0, 1) := by decide +kernel
theorem dD_setWords_55 : decode cD_setWords 55 = .ok (.getfield 11, 3) := by decide +kernel
theorem dD_setWords_58 : decode cD_setWords 58 = .ok (.iload 7, 2) := by decide +kernel
theorem dD_setWords_60 : decode cD_setWords 60 = .ok (.iconst 3, 1) := by decide +kernel
theorem dD_setWords_61 : decode cD_setWords 61 = .ok (.iadd, 1) := by decide +kernel
theorem dD_setWords_62 : decode cD_setWords 62 = .ok (.iload 6, 2) := by decide +kernel
theorem dD_setWords_64 : decode cD_setWords 64 = .ok (.iastore, 1) := by decide +kernel
theorem dD_setWords_65 : decode cD_setWords 65 = .ok (.return_, 1) := by decide +kernel
theorem dD_format_0 : decode cD_format 0 = .ok (.iconst 1, 1) := by decide +kernel
theorem dD_format_1 : decode cD_format 1 = .ok (.invokestatic 26, 3) := by decide +kernel
theorem dD_format_4 : decode cD_format 4 = .ok (.istore_n 1, 1) := by decide +kernel
theorem dD_format_5 : decode cD_format 5 = .ok (.aload_n 0, 1) := by decide +kernel
theorem dD_format_6 : decode cD_format 6 = .ok (.iload_n 1, 1) := by decide +kernel
theorem dD_format_7 : decode cD_format 7 = .ok (.iconst 4, 1) := by decide +kernel
theorem dD_format_8 : decode cD_format 8 = .ok (.iconst 1, 1) := by decide +kernel
theorem dD_format_9 : decode cD_format 9 = .ok (.iconst 0, 1) := by decide +kernel
theorem dD_format_10 : decode cD_format 10 = .ok (.iconst 0, 1) := by decide +kernel
theorem dD_format_11 : decode cD_format 11 = .ok (.iload_n 1, 1) := by decide +kernel
theorem dD_format_12 : decode cD_format 12 = .ok (.iconst 1, 1) := by decide +kernel
theorem dD_format_13 : decode cD_format 13 = .ok (.iconst 0, 1) := by decide +kernel
theorem dD_format_14 : decode cD_format 14 = .ok (.iconst 0, 1) := by decide +kernel
theorem dD_format_15 : decode cD_format 15 = .ok (.invokestatic 30, 3) := by decide +kernel
theorem dD_format_18 : decode cD_format 18 = .ok (.invokevirtual 34, 3) := by decide +kernel
theorem dD_format_21 : decode cD_format 21 = .ok (.return_, 1) := by decide +kernel
theorem dD_init_0 : decode cD_init 0 = .ok (.aload_n 0, 1) := by decide +kernel
theorem dD_init_1 : decode cD_init 1 = .ok (.invokespecial 3, 3) := by decide +kernel
theorem dD_init_4 : decode cD_init 4 = .ok (.aload_n 0, 1) := by decide +kernel
theorem dD_init_5 : decode cD_init 5 = .ok (.sipush 384, 3) := by decide +kernel
theorem dD_init_8 : decode cD_init 8 = .ok (.newarray .int, 2) := by decide +kernel
theorem dD_init_10 : decode cD_init 10 = .ok (.putfield 11, 3) := by decide +kernel
theorem dD_init_13 : decode cD_init 13 = .ok (.aload_n 0, 1) := by decide +kernel
theorem dD_init_14 : decode cD_init 14 = .ok (.iconst (-1), 1) := by decide +kernel
theorem dD_init_15 : decode cD_init 15 = .ok (.putfield 15, 3) := by decide +kernel
theorem dD_init_18 : decode cD_init 18 = .ok (.aload_n 0, 1) := by decide +kernel
theorem dD_init_19 : decode cD_init 19 = .ok (.iconst 0, 1) := by decide +kernel
theorem dD_init_20 : decode cD_init 20 = .ok (.putfield 19, 3) := by decide +kernel
theorem dD_init_23 : decode cD_init 23 = .ok (.aload_n 0, 1) := by decide +kernel
theorem dD_init_24 : decode cD_init 24 = .ok (.iconst 0, 1) := by decide +kernel
theorem dD_init_25 : decode cD_init 25 = .ok (.putfield 22, 3) := by decide +kernel
theorem dD_init_28 : decode cD_init 28 = .ok (.return_, 1) := by decide +kernel
theorem dT_init_0 : decode cT_init 0 = .ok (.aload_n 0, 1) := by decide +kernel
theorem dT_init_1 : decode cT_init 1 = .ok (.invokespecial 3, 3) := by decide +kernel
theorem dT_init_4 : decode cT_init 4 = .ok (.aload_n 0, 1) := by decide +kernel
theorem dT_init_5 : decode cT_init 5 = .ok (.bipush 64, 2) := by decide +kernel
theorem dT_init_7 : decode cT_init 7 = .ok (.newarray .boolean, 2) := by decide +kernel
theorem dT_init_9 : decode cT_init 9 = .ok (.putfield 9, 3) := by decide +kernel
theorem dT_init_12 : decode cT_init 12 = .ok (.aload_n 0, 1) := by decide +kernel
theorem dT_init_13 : decode cT_init 13 = .ok (.bipush 64, 2) := by decide +kernel
theorem dT_init_15 : decode cT_init 15 = .ok (.newarray .int, 2) := by decide +kernel
theorem dT_init_17 : decode cT_init 17 = .ok (.putfield 15, 3) := by decide +kernel
theorem dT_init_20 : decode cT_init 20 = .ok (.aload_n 0, 1) := by decide +kernel
theorem dT_init_21 : decode cT_init 21 = .ok (.iconst 0, 1) := by decide +kernel
theorem dT_init_22 : decode cT_init 22 = .ok (.putfield 19, 3) := by decide +kernel
theorem dT_init_25 : decode cT_init 25 = .ok (.return_, 1) := by decide +kernel
theorem dR_init_0 : decode cR_init 0 = .ok (.aload_n 0, 1) := by decide +kernel
theorem dR_init_1 : decode cR_init 1 = .ok (.invokespecial 3, 3) := by decide +kernel
theorem dR_init_4 : decode cR_init 4 = .ok (.aload_n 0, 1) := by decide +kernel
theorem dR_init_5 : decode cR_init 5 = .ok (.new 9, 3) := by decide +kernel
theorem dR_init_8 : decode cR_init 8 = .ok (.dup, 1) := by decide +kernel
theorem dR_init_9 : decode cR_init 9 = .ok (.invokespecial 11, 3) := by decide +kernel
theorem dR_init_12 : decode cR_init 12 = .ok (.putfield 12, 3) := by decide +kernel
theorem dR_init_15 : decode cR_init 15 = .ok (.aload_n 0, 1) := by decide +kernel
theorem dR_init_16 : decode cR_init 16 = .ok (.bipush 64, 2) := by decide +kernel
theorem dR_init_18 : decode cR_init 18 = .ok (.newarray .boolean, 2) := by decide +kernel
theorem dR_init_20 : decode cR_init 20 = .ok (.putfield 18, 3) := by decide +kernel
theorem dR_init_23 : decode cR_init 23 = .ok (.aload_n 0, 1) := by decide +kernel
theorem dR_init_24 : decode cR_init 24 = .ok (.iconst 0, 1) := by decide +kernel
theorem dR_init_25 : decode cR_init 25 = .ok (.putfield 22, 3) := by decide +kernel
theorem dR_init_28 : decode cR_init 28 = .ok (.aload_n 0, 1) := by decide +kernel
theorem dR_init_29 : decode cR_init 29 = .ok (.iconst 0, 1) := by decide +kernel
theorem dR_init_30 : decode cR_init 30 = .ok (.putfield 26, 3) := by decide +kernel
theorem dR_init_33 : decode cR_init 33 = .ok (.aload_n 0, 1) := by decide +kernel
theorem dR_init_34 : decode cR_init 34 = .ok (.iconst 0, 1) := by decide +kernel
theorem dR_init_35 : decode cR_init 35 = .ok (.putfield 29, 3) := by decide +kernel
theorem dR_init_38 : decode cR_init 38 = .ok (.return_, 1) := by decide +kernel
def W0 : Nat → Int32 := upd (upd (upd (upd (fun _ => 0) (0 : Int32).toNatClampNeg 1) (1 : Int32).toNatClampNeg 0) (2 : Int32).toNatClampNeg 0) (3 : Int32).toNatClampNeg 1013969759
def tF (t0 t1 t2 : Nat) : Nat → Option Nat := va_up (va_up (va_up (fun _ => none) (0 : Int32).toNatClampNeg (some t0)) (1 : Int32).toNatClampNeg (some t1)) (2 : Int32).toNatClampNeg (some t2)
set_option maxHeartbeats 4000000 in
set_option maxRecDepth 100000 in
theorem c_fm22 (l : Launch) (dC : Nat → ClassId) (dI : Nat → Nat → Nat) (cI cZ cJ cT : ClassId) : Met l yA_floorMod (Cond.code yA_floorMod cA_floorMod 3 (some .int) :: wsA) ({ frames := 0, cells := 0, slots := 0, locals := 0 }) (va_Pc [.int 2, .int 2] (fun U => va_P (dC, dI) vwC [] U.heap ∧ KK dC dI cI cZ cJ cT U)) (vp_Si (fun r => r = 0)) 0 0 (fun _ => False) := by
  refine va_MetF (cc := cA_floorMod) (maxL := 3) (ret := (some .int)) (by decide +kernel) rfl ?_
  intro p e s m args below meth c s₁ B hml hv
  obtain ⟨rfl, hP, hKK⟩ := hv
  have hK := hKK.1
  have hx := B.exec
  have hb := B.bytes
  have hr := B.returns
  have hw : ∀ w ∈ wsA, w.before _ s = true := fun w h => atoms_spec (ws := (Cond.code yA_floorMod cA_floorMod 3 (some .int) :: wsA)) B.pre w (List.mem_cons_of_mem _ h)
  have hown : s.vm.findClass "java/lang/Math" = some m.cls := findClass_of_methodNamed B.named
  have hlocks := B.notSynchronized
  have hl := lv_entry ([.int 2, .int 2]) (n := 3) (Nat.le_of_ble_eq_true rfl)
  rw [lg_entry_eq]
  generalize (lg_sl ([.int 2, .int 2]) ++ List.replicate (3 - (lg_sl ([.int 2, .int 2])).length) Slot.unset).toArray = ls at hl ⊢
  have hl : lv_has ls 3 [(0, .int 2), (1, .int 2)] := hl
  refine lv_iload_n hx hb dA_floorMod_0 rfl (lv_at hl 0 rfl) ?_
  refine lv_iload_n hx hb dA_floorMod_1 rfl (lv_at hl 1 rfl) ?_
  refine lv_irem hx hb dA_floorMod_2 (by decide) ?_
  refine lv_topi (nm_r (e' := 0) (by decide +kernel) ?_)
  refine lv_istore_n hx hb dA_floorMod_3 rfl hl (by decide) rfl (fun ls hl => ?_)
  have hl : lv_has ls 3 [(2, .int 0), (0, .int 2), (1, .int 2)] := hl
  refine lv_iload_n hx hb dA_floorMod_4 rfl (lv_at hl 1 rfl) ?_
  refine lv_iload_n hx hb dA_floorMod_5 rfl (lv_at hl 2 rfl) ?_
  refine lv_ixor hx hb dA_floorMod_6 ?_
  refine lv_topi (nm_r (e' := 0) (by decide +kernel) ?_)
  refine lv_if_ge (tgt := 18) hx hb dA_floorMod_7 (by decide) (fun _ => ?_) (fun h9 => absurd (by decide) h9)
  refine lv_iload_n hx hb dA_floorMod_18 rfl (lv_at hl 0 rfl) ?_
  exact W.iret (v := 0) hx hb hr (fun t ht hW => ⟨0, rfl, rfl, ht⟩) (fun q h => by cases h) dA_floorMod_19

set_option maxHeartbeats 4000000 in
set_option maxRecDepth 100000 in
theorem c_fm32 (l : Launch) (dC : Nat → ClassId) (dI : Nat → Nat → Nat) (cI cZ cJ cT : ClassId) : Met l yA_floorMod (Cond.code yA_floorMod cA_floorMod 3 (some .int) :: wsA) ({ frames := 0, cells := 0, slots := 0, locals := 0 }) (va_Pc [.int 3, .int 2] (fun U => va_P (dC, dI) vwC [] U.heap ∧ KK dC dI cI cZ cJ cT U)) (vp_Si (fun r => r = 1)) 0 0 (fun _ => False) := by
  refine va_MetF (cc := cA_floorMod) (maxL := 3) (ret := (some .int)) (by decide +kernel) rfl ?_
  intro p e s m args below meth c s₁ B hml hv
  obtain ⟨rfl, hP, hKK⟩ := hv
  have hK := hKK.1
  have hx := B.exec
  have hb := B.bytes
  have hr := B.returns
  have hw : ∀ w ∈ wsA, w.before _ s = true := fun w h => atoms_spec (ws := (Cond.code yA_floorMod cA_floorMod 3 (some .int) :: wsA)) B.pre w (List.mem_cons_of_mem _ h)
  have hown : s.vm.findClass "java/lang/Math" = some m.cls := findClass_of_methodNamed B.named
  have hlocks := B.notSynchronized
  have hl := lv_entry ([.int 3, .int 2]) (n := 3) (Nat.le_of_ble_eq_true rfl)
  rw [lg_entry_eq]
  generalize (lg_sl ([.int 3, .int 2]) ++ List.replicate (3 - (lg_sl ([.int 3, .int 2])).length) Slot.unset).toArray = ls at hl ⊢
  have hl : lv_has ls 3 [(0, .int 3), (1, .int 2)] := hl
  refine lv_iload_n hx hb dA_floorMod_0 rfl (lv_at hl 0 rfl) ?_
  refine lv_iload_n hx hb dA_floorMod_1 rfl (lv_at hl 1 rfl) ?_
  refine lv_irem hx hb dA_floorMod_2 (by decide) ?_
  refine lv_topi (nm_r (e' := 1) (by decide +kernel) ?_)
  refine lv_istore_n hx hb dA_floorMod_3 rfl hl (by decide) rfl (fun ls hl => ?_)
  have hl : lv_has ls 3 [(2, .int 1), (0, .int 3), (1, .int 2)] := hl
  refine lv_iload_n hx hb dA_floorMod_4 rfl (lv_at hl 1 rfl) ?_
  refine lv_iload_n hx hb dA_floorMod_5 rfl (lv_at hl 2 rfl) ?_
  refine lv_ixor hx hb dA_floorMod_6 ?_
  refine lv_topi (nm_r (e' := 1) (by decide +kernel) ?_)
  refine lv_if_ge (tgt := 18) hx hb dA_floorMod_7 (by decide) (fun _ => ?_) (fun h9 => absurd (by decide) h9)
  refine lv_iload_n hx hb dA_floorMod_18 rfl (lv_at hl 0 rfl) ?_
  exact W.iret (v := 1) hx hb hr (fun t ht hW => ⟨1, rfl, rfl, ht⟩) (fun q h => by cases h) dA_floorMod_19

set_option maxHeartbeats 4000000 in
set_option maxRecDepth 100000 in
theorem c_hb1 (l : Launch) (dC : Nat → ClassId) (dI : Nat → Nat → Nat) (cI cZ cJ cT : ClassId) : Met l yS_headerBlock (Cond.code yS_headerBlock cS_headerBlock 1 (some .int) :: wsA) ({ frames := 1, cells := 0, slots := 0, locals := 22 }) (va_Pc [.int 1] (fun U => va_P (dC, dI) vwC [] U.heap ∧ KK dC dI cI cZ cJ cT U)) (vp_Si (fun r => r = 0)) 0 0 (fun _ => False) := by
  refine Met.ofW (cc := cS_headerBlock) (maxL := 1) (ret := (some .int)) (by decide) rfl ?_
  intro p e s m args below meth c s₁ B hml hv
  obtain ⟨rfl, hP, hKK⟩ := hv
  have hK := hKK.1
  have hx := B.exec
  have hb := B.bytes
  have hr := B.returns
  have hw : ∀ w ∈ wsA, w.before _ s = true := fun w h => atoms_spec (ws := (Cond.code yS_headerBlock cS_headerBlock 1 (some .int) :: wsA)) B.pre w (List.mem_cons_of_mem _ h)
  have hown : s.vm.findClass "LoggedStore" = some m.cls := findClass_of_methodNamed B.named
  have hlocks := B.notSynchronized
  have hl := lv_entry ([.int 1]) (n := 1) (Nat.le_of_ble_eq_true rfl)
  rw [lg_entry_eq]
  generalize (lg_sl ([.int 1]) ++ List.replicate (1 - (lg_sl ([.int 1])).length) Slot.unset).toArray = ls at hl ⊢
  have hl : lv_has ls 1 [(0, .int 1)] := hl
  refine lv_iload_n hx hb dS_headerBlock_0 rfl (lv_at hl 0 rfl) ?_
  refine lv_iconst (v := 1) hx hb dS_headerBlock_1 (by decide) ?_
  refine lv_iadd hx hb dS_headerBlock_2 ?_
  refine lv_topi (nm_r (e' := 2) (by decide +kernel) ?_)
  refine lv_iconst (v := 2) hx hb dS_headerBlock_3 (by decide) ?_
  have hPc := hP.sub (ws' := []) [] rfl
  refine vp_callSi (W.runS (As := [.int 2, .int 2]) (rest := []) ⟨hx, hb, hml, hown, hw⟩ (c_fm22 l dC dI cI cZ cJ cT) ⟨callB_of 2 hw (gA0 w143) rfl rfl rfl (hw _ w44) (hw _ w141) (by decide +kernel) ⟨Nat.le_of_ble_eq_true rfl, Nat.le_of_ble_eq_true rfl⟩, (hw _ w142)⟩ ⟨kb_S, fun U hU hW => ⟨rfl, by rw [hU]; exact hPc, hKK.moved hW⟩⟩ rfl rfl hl.1 rfl (lv_room (Nat.le_of_ble_eq_true rfl)) dS_headerBlock_4 ⟨Nat.le_of_ble_eq_true rfl, Nat.le_of_ble_eq_true rfl⟩) (fun r1 e2 => ?_)
  obtain rfl : r1 = 0 := e2
  exact W.iret (v := 0) hx hb hr (fun t ht hW => ⟨0, rfl, rfl, ht⟩) (fun q h => by cases h) dS_headerBlock_7

set_option maxHeartbeats 4000000 in
set_option maxRecDepth 100000 in
theorem c_hb2 (l : Launch) (dC : Nat → ClassId) (dI : Nat → Nat → Nat) (cI cZ cJ cT : ClassId) : Met l yS_headerBlock (Cond.code yS_headerBlock cS_headerBlock 1 (some .int) :: wsA) ({ frames := 1, cells := 0, slots := 0, locals := 22 }) (va_Pc [.int 2] (fun U => va_P (dC, dI) vwC [] U.heap ∧ KK dC dI cI cZ cJ cT U)) (vp_Si (fun r => r = 1)) 0 0 (fun _ => False) := by
  refine Met.ofW (cc := cS_headerBlock) (maxL := 1) (ret := (some .int)) (by decide) rfl ?_
  intro p e s m args below meth c s₁ B hml hv
  obtain ⟨rfl, hP, hKK⟩ := hv
  have hK := hKK.1
  have hx := B.exec
  have hb := B.bytes
  have hr := B.returns
  have hw : ∀ w ∈ wsA, w.before _ s = true := fun w h => atoms_spec (ws := (Cond.code yS_headerBlock cS_headerBlock 1 (some .int) :: wsA)) B.pre w (List.mem_cons_of_mem _ h)
  have hown : s.vm.findClass "LoggedStore" = some m.cls := findClass_of_methodNamed B.named
  have hlocks := B.notSynchronized
  have hl := lv_entry ([.int 2]) (n := 1) (Nat.le_of_ble_eq_true rfl)
  rw [lg_entry_eq]
  generalize (lg_sl ([.int 2]) ++ List.replicate (1 - (lg_sl ([.int 2])).length) Slot.unset).toArray = ls at hl ⊢
  have hl : lv_has ls 1 [(0, .int 2)] := hl
  refine lv_iload_n hx hb dS_headerBlock_0 rfl (lv_at hl 0 rfl) ?_
  refine lv_iconst (v := 1) hx hb dS_headerBlock_1 (by decide) ?_
  refine lv_iadd hx hb dS_headerBlock_2 ?_
  refine lv_topi (nm_r (e' := 3) (by decide +kernel) ?_)
  refine lv_iconst (v := 2) hx hb dS_headerBlock_3 (by decide) ?_
  have hPc := hP.sub (ws' := []) [] rfl
  refine vp_callSi (W.runS (As := [.int 3, .int 2]) (rest := []) ⟨hx, hb, hml, hown, hw⟩ (c_fm32 l dC dI cI cZ cJ cT) ⟨callB_of 2 hw (gA0 w143) rfl rfl rfl (hw _ w44) (hw _ w141) (by decide +kernel) ⟨Nat.le_of_ble_eq_true rfl, Nat.le_of_ble_eq_true rfl⟩, (hw _ w142)⟩ ⟨kb_S, fun U hU hW => ⟨rfl, by rw [hU]; exact hPc, hKK.moved hW⟩⟩ rfl rfl hl.1 rfl (lv_room (Nat.le_of_ble_eq_true rfl)) dS_headerBlock_4 ⟨Nat.le_of_ble_eq_true rfl, Nat.le_of_ble_eq_true rfl⟩) (fun r1 e2 => ?_)
  obtain rfl : r1 = 1 := e2
  exact W.iret (v := 1) hx hb hr (fun t ht hW => ⟨1, rfl, rfl, ht⟩) (fun q h => by cases h) dS_headerBlock_7

set_option maxHeartbeats 4000000 in
set_option maxRecDepth 100000 in
theorem c_chk (l : Launch) (dC : Nat → ClassId) (dI : Nat → Nat → Nat) (cI cZ cJ cT : ClassId) (k a b c9 : Int32) : Met l yD_checkOf (Cond.code yD_checkOf cD_checkOf 4 (some .int) :: wsA) ({ frames := 0, cells := 0, slots := 0, locals := 0 }) (va_Pc [.int k, .int a, .int b, .int c9] (fun U => va_P (dC, dI) vwC [] U.heap ∧ KK dC dI cI cZ cJ cT U)) (vp_Si (fun r => r = ((((65536 * a) + b) ^^^ (c9 * 1664525)) ^^^ (1013904223 + (97 * k))))) 0 0 (fun _ => False) := by
  refine Met.ofW (cc := cD_checkOf) (maxL := 4) (ret := (some .int)) (by decide) rfl ?_
  intro p e s m args below meth c s₁ B hml hv
  obtain ⟨rfl, hP, hKK⟩ := hv
  have hK := hKK.1
  have hx := B.exec
  have hb := B.bytes
  have hr := B.returns
  have hw : ∀ w ∈ wsA, w.before _ s = true := fun w h => atoms_spec (ws := (Cond.code yD_checkOf cD_checkOf 4 (some .int) :: wsA)) B.pre w (List.mem_cons_of_mem _ h)
  have hown : s.vm.findClass "LoggedStore$Disk" = some m.cls := findClass_of_methodNamed B.named
  have hlocks := B.notSynchronized
  have hl := lv_entry ([.int k, .int a, .int b, .int c9]) (n := 4) (Nat.le_of_ble_eq_true rfl)
  rw [lg_entry_eq]
  generalize (lg_sl ([.int k, .int a, .int b, .int c9]) ++ List.replicate (4 - (lg_sl ([.int k, .int a, .int b, .int c9])).length) Slot.unset).toArray = ls at hl ⊢
  have hl : lv_has ls 4 [(0, .int k), (1, .int a), (2, .int b), (3, .int c9)] := hl
  refine lv_ldc (v := 65536) hx hb hown (hw _ w147) dD_checkOf_0 ?_
  refine lv_iload_n hx hb dD_checkOf_2 rfl (lv_at hl 1 rfl) ?_
  refine lv_imul hx hb dD_checkOf_3 ?_
  refine lv_iload_n hx hb dD_checkOf_4 rfl (lv_at hl 2 rfl) ?_
  refine lv_iadd hx hb dD_checkOf_5 ?_
  refine lv_iload_n hx hb dD_checkOf_6 rfl (lv_at hl 3 rfl) ?_
  refine lv_ldc (v := 1664525) hx hb hown (hw _ w148) dD_checkOf_7 ?_
  refine lv_imul hx hb dD_checkOf_9 ?_
  refine lv_ixor hx hb dD_checkOf_10 ?_
  refine lv_ldc (v := 1013904223) hx hb hown (hw _ w149) dD_checkOf_11 ?_
  refine lv_bipush (v := 97) hx hb dD_checkOf_13 (by decide) ?_
  refine lv_iload_n hx hb dD_checkOf_15 rfl (lv_at hl 0 rfl) ?_
  refine lv_imul hx hb dD_checkOf_16 ?_
  refine lv_iadd hx hb dD_checkOf_17 ?_
  refine lv_ixor hx hb dD_checkOf_18 ?_
  exact W.iret (v := ((((65536 * a) + b) ^^^ (c9 * 1664525)) ^^^ (1013904223 + (97 * k)))) hx hb hr (fun t ht hW => ⟨((((65536 * a) + b) ^^^ (c9 * 1664525)) ^^^ (1013904223 + (97 * k))), rfl, rfl, ht⟩) (fun q h => by cases h) dD_checkOf_19

set_option maxHeartbeats 4000000 in
set_option maxRecDepth 100000 in
theorem c_setWords0 (l : Launch) (dC : Nat → ClassId) (dI : Nat → Nat → Nat) (cI cZ cJ cT : ClassId) (d w : Nat) (a b c9 e9 : Int32) (f : Nat → Int32) (sz : Nat) : Met l yD_setWords (Cond.code yD_setWords cD_setWords 8 none :: wsA) ({ frames := 0, cells := 0, slots := 0, locals := 0 }) (va_Pc [.ref d, .int 0, .int 4, .int a, .int b, .int c9, .int e9] (fun U => U.heap.size = sz ∧ va_P (dC, dI) vwC [(d, .inr (0, [.ref w, .int (-1), .int 0, .int 0])), (w, .inl (cI, 384, .inl f))] U.heap ∧ KK dC dI cI cZ cJ cT U ∧ va_D (fun _ => True) [(d, .inr (0, [.ref w, .int (-1), .int 0, .int 0])), (w, .inl (cI, 384, .inl f))])) (va_Qv (S := Nat → Nat) (fun _ => True) (fun u t => va_P (dC, dI) vwC [(d, .inr (0, [.ref w, .int (-1), .int 0, .int 0])), (w, .inl (cI, 384, .inl (upd (upd (upd (upd f (0 : Int32).toNatClampNeg a) (1 : Int32).toNatClampNeg b) (2 : Int32).toNatClampNeg c9) (3 : Int32).toNatClampNeg e9)))] t.heap ∧ va_D (va_A [(d, .inr (0, [.ref w, .int (-1), .int 0, .int 0])), (w, .inl (cI, 384, .inl f))] sz) [(d, .inr (0, [.ref w, .int (-1), .int 0, .int 0])), (w, .inl (cI, 384, .inl (upd (upd (upd (upd f (0 : Int32).toNatClampNeg a) (1 : Int32).toNatClampNeg b) (2 : Int32).toNatClampNeg c9) (3 : Int32).toNatClampNeg e9)))]) (va_A [(d, .inr (0, [.ref w, .int (-1), .int 0, .int 0])), (w, .inl (cI, 384, .inl f))] sz)) 0 0 (va_A [(d, .inr (0, [.ref w, .int (-1), .int 0, .int 0])), (w, .inl (cI, 384, .inl f))] sz) := by
  refine Met.ofW (cc := cD_setWords) (maxL := 8) (ret := none) (by decide) rfl ?_
  intro p e s m args below meth c s₁ B hml hv
  obtain ⟨rfl, hsz, hP, hKK, hD0⟩ := hv
  have hK := hKK.1
  have hx := B.exec
  have hb := B.bytes
  have hr := B.returns
  have hw : ∀ w ∈ wsA, w.before _ s = true := fun w h => atoms_spec (ws := (Cond.code yD_setWords cD_setWords 8 none :: wsA)) B.pre w (List.mem_cons_of_mem _ h)
  have hown : s.vm.findClass "LoggedStore$Disk" = some m.cls := findClass_of_methodNamed B.named
  have hlocks := B.notSynchronized
  subst hsz
  have hD := hD0.self (sz := s.heap.size)
  generalize hAe : va_A [(d, .inr (0, [.ref w, .int (-1), .int 0, .int 0])), (w, .inl (cI, 384, .inl f))] s.heap.size = A at hD ⊢
  have hA : ∀ q : Nat, s.heap.size ≤ q → A q := fun q h => by rw [← hAe]; exact Or.inr h
  have hS : va_S A s.heap s.heap [] := va_S.rf
  have hl := lv_entry ([.ref d, .int 0, .int 4, .int a, .int b, .int c9, .int e9]) (n := 8) (Nat.le_of_ble_eq_true rfl)
  rw [lg_entry_eq]
  generalize (lg_sl ([.ref d, .int 0, .int 4, .int a, .int b, .int c9, .int e9]) ++ List.replicate (8 - (lg_sl ([.ref d, .int 0, .int 4, .int a, .int b, .int c9, .int e9])).length) Slot.unset).toArray = ls at hl ⊢
  have hl : lv_has ls 8 [(0, .ref d), (1, .int 0), (2, .int 4), (3, .int a), (4, .int b), (5, .int c9), (6, .int e9)] := hl
  refine lv_iconst (v := 4) hx hb dD_setWords_0 (by decide) ?_
  refine lv_iload_n hx hb dD_setWords_1 rfl (lv_at hl 1 rfl) ?_
  refine lv_imul hx hb dD_setWords_2 ?_
  refine lv_topi (nm_r (e' := 0) (by decide +kernel) ?_)
  refine lv_istore hx hb dD_setWords_3 hl (by decide) rfl (fun ls hl => ?_)
  have hl : lv_has ls 8 [(7, .int 0), (0, .ref d), (1, .int 0), (2, .int 4), (3, .int a), (4, .int b), (5, .int c9), (6, .int e9)] := hl
  refine lv_iload_n hx hb dD_setWords_5 rfl (lv_at hl 3 rfl) ?_
  refine lv_if_le (tgt := 17) hx hb dD_setWords_6 (by decide) (fun h9 => absurd h9 (by decide)) (fun _ => ?_)
  refine lv_aload_n hx hb dD_setWords_9 rfl (lv_at hl 1 rfl) ?_
  refine va_get (D := (dC, dI)) (ci := 0) (v := .ref w) (C := "LoggedStore$Disk") (T := uD) (N := 4) hx hb hw inD hown hK hP 0 rfl rfl 0 (by decide) (hw _ w69) (fun _ h9 => h9) rfl dD_setWords_10 ?_
  refine lv_iload hx hb dD_setWords_13 (lv_at hl 0 rfl) ?_
  refine lv_iload_n hx hb dD_setWords_15 rfl (lv_at hl 4 rfl) ?_
  refine va_iast hx hb hK hP hD hS 1 0 rfl rfl (tv_in (by decide +kernel)) dD_setWords_16 (fun H locs hP hD hS => ?_)
  have hP : va_P (dC, dI) vwC [(d, .inr (0, [.ref w, .int (-1), .int 0, .int 0])), (w, .inl (cI, 384, .inl (upd f (0 : Int32).toNatClampNeg a)))] H := hP
  have hD : va_D A [(d, .inr (0, [.ref w, .int (-1), .int 0, .int 0])), (w, .inl (cI, 384, .inl (upd f (0 : Int32).toNatClampNeg a)))] := hD
  refine lv_iload_n hx hb dD_setWords_17 rfl (lv_at hl 3 rfl) ?_
  refine lv_iconst (v := 1) hx hb dD_setWords_18 (by decide) ?_
  refine lv_icmp_le (tgt := 33) hx hb dD_setWords_19 (by decide) (fun h9 => absurd h9 (by decide)) (fun _ => ?_)
  refine lv_aload_n hx hb dD_setWords_22 rfl (lv_at hl 1 rfl) ?_
  refine va_get (D := (dC, dI)) (ci := 0) (v := .ref w) (C := "LoggedStore$Disk") (T := uD) (N := 4) hx hb hw inD hown hK hP 0 rfl rfl 0 (by decide) (hw _ w69) (fun _ h9 => h9) rfl dD_setWords_23 ?_
  refine lv_iload hx hb dD_setWords_26 (lv_at hl 0 rfl) ?_
  refine lv_iconst (v := 1) hx hb dD_setWords_28 (by decide) ?_
  refine lv_iadd hx hb dD_setWords_29 ?_
  refine lv_topi (nm_r (e' := 1) (by decide +kernel) ?_)
  refine lv_iload hx hb dD_setWords_30 (lv_at hl 5 rfl) ?_
  refine va_iast hx hb hK hP hD hS 1 0 rfl rfl (tv_in (by decide +kernel)) dD_setWords_32 (fun H locs hP hD hS => ?_)
  have hP : va_P (dC, dI) vwC [(d, .inr (0, [.ref w, .int (-1), .int 0, .int 0])), (w, .inl (cI, 384, .inl (upd (upd f (0 : Int32).toNatClampNeg a) (1 : Int32).toNatClampNeg b)))] H := hP
  have hD : va_D A [(d, .inr (0, [.ref w, .int (-1), .int 0, .int 0])), (w, .inl (cI, 384, .inl (upd (upd f (0 : Int32).toNatClampNeg a) (1 : Int32).toNatClampNeg b)))] := hD
  refine lv_iload_n hx hb dD_setWords_33 rfl (lv_at hl 3 rfl) ?_
  refine lv_iconst (v := 2) hx hb dD_setWords_34 (by decide) ?_
  refine lv_icmp_le (tgt := 49) hx hb dD_setWords_35 (by decide) (fun h9 => absurd h9 (by decide)) (fun _ => ?_)
  refine lv_aload_n hx hb dD_setWords_38 rfl (lv_at hl 1 rfl) ?_
  refine va_get (D := (dC, dI)) (ci := 0) (v := .ref w) (C := "LoggedStore$Disk") (T := uD) (N := 4) hx hb hw inD hown hK hP 0 rfl rfl 0 (by decide) (hw _ w69) (fun _ h9 => h9) rfl dD_setWords_39 ?_
  refine lv_iload hx hb dD_setWords_42 (lv_at hl 0 rfl) ?_
  refine lv_iconst (v := 2) hx hb dD_setWords_44 (by decide) ?_
  refine lv_iadd hx hb dD_setWords_45 ?_
  refine lv_topi (nm_r (e' := 2) (by decide +kernel) ?_)
  refine lv_iload hx hb dD_setWords_46 (lv_at hl 6 rfl) ?_
  refine va_iast hx hb hK hP hD hS 1 0 rfl rfl (tv_in (by decide +kernel)) dD_setWords_48 (fun H locs hP hD hS => ?_)
  have hP : va_P (dC, dI) vwC [(d, .inr (0, [.ref w, .int (-1), .int 0, .int 0])), (w, .inl (cI, 384, .inl (upd (upd (upd f (0 : Int32).toNatClampNeg a) (1 : Int32).toNatClampNeg b) (2 : Int32).toNatClampNeg c9)))] H := hP
  have hD : va_D A [(d, .inr (0, [.ref w, .int (-1), .int 0, .int 0])), (w, .inl (cI, 384, .inl (upd (upd (upd f (0 : Int32).toNatClampNeg a) (1 : Int32).toNatClampNeg b) (2 : Int32).toNatClampNeg c9)))] := hD
  refine lv_iload_n hx hb dD_setWords_49 rfl (lv_at hl 3 rfl) ?_
  refine lv_iconst (v := 3) hx hb dD_setWords_50 (by decide) ?_
  refine lv_icmp_le (tgt := 65) hx hb dD_setWords_51 (by decide) (fun h9 => absurd h9 (by decide)) (fun _ => ?_)
  refine lv_aload_n hx hb dD_setWords_54 rfl (lv_at hl 1 rfl) ?_
  refine va_get (D := (dC, dI)) (ci := 0) (v := .ref w) (C := "LoggedStore$Disk") (T := uD) (N := 4) hx hb hw inD hown hK hP 0 rfl rfl 0 (by decide) (hw _ w69) (fun _ h9 => h9) rfl dD_setWords_55 ?_
  refine lv_iload hx hb dD_setWords_58 (lv_at hl 0 rfl) ?_
  refine lv_iconst (v := 3) hx hb dD_setWords_60 (by decide) ?_
  refine lv_iadd hx hb dD_setWords_61 ?_
  refine lv_topi (nm_r (e' := 3) (by decide +kernel) ?_)
  refine lv_iload hx hb dD_setWords_62 (lv_at hl 7 rfl) ?_
  refine va_iast hx hb hK hP hD hS 1 0 rfl rfl (tv_in (by decide +kernel)) dD_setWords_64 (fun H locs hP hD hS => ?_)
  have hP : va_P (dC, dI) vwC [(d, .inr (0, [.ref w, .int (-1), .int 0, .int 0])), (w, .inl (cI, 384, .inl (upd (upd (upd (upd f (0 : Int32).toNatClampNeg a) (1 : Int32).toNatClampNeg b) (2 : Int32).toNatClampNeg c9) (3 : Int32).toNatClampNeg e9)))] H := hP
  have hD : va_D A [(d, .inr (0, [.ref w, .int (-1), .int 0, .int 0])), (w, .inl (cI, 384, .inl (upd (upd (upd (upd f (0 : Int32).toNatClampNeg a) (1 : Int32).toNatClampNeg b) (2 : Int32).toNatClampNeg c9) (3 : Int32).toNatClampNeg e9)))] := hD
  have hP9 := hP.sub (ws' := [(d, .inr (0, [.ref w, .int (-1), .int 0, .int 0])), (w, .inl (cI, 384, .inl (upd (upd (upd (upd f (0 : Int32).toNatClampNeg a) (1 : Int32).toNatClampNeg b) (2 : Int32).toNatClampNeg c9) (3 : Int32).toNatClampNeg e9)))]) [0, 1] rfl
  have hD9 := hD.sub (ws' := [(d, .inr (0, [.ref w, .int (-1), .int 0, .int 0])), (w, .inl (cI, 384, .inl (upd (upd (upd (upd f (0 : Int32).toNatClampNeg a) (1 : Int32).toNatClampNeg b) (2 : Int32).toNatClampNeg c9) (3 : Int32).toNatClampNeg e9)))]) [0, 1] (by decide) rfl
  refine W.widen (k := 0) (n := 0) (by decide) (by decide) ?_
  exact W.vret hx hb hr (fun t ht hW => ⟨⟨fun _ => 0, rfl, trivial, by rw [ht]; exact hP9, hD9⟩, hS.F ht⟩) hS.2.2 dD_setWords_65

set_option maxHeartbeats 4000000 in
set_option maxRecDepth 100000 in
theorem c_setWords1 (l : Launch) (dC : Nat → ClassId) (dI : Nat → Nat → Nat) (cI cZ cJ cT : ClassId) (d w : Nat) (a b c9 e9 : Int32) (f : Nat → Int32) (sz : Nat) : Met l yD_setWords (Cond.code yD_setWords cD_setWords 8 none :: wsA) ({ frames := 0, cells := 0, slots := 0, locals := 0 }) (va_Pc [.ref d, .int 1, .int 4, .int a, .int b, .int c9, .int e9] (fun U => U.heap.size = sz ∧ va_P (dC, dI) vwC [(d, .inr (0, [.ref w, .int (-1), .int 0, .int 0])), (w, .inl (cI, 384, .inl f))] U.heap ∧ KK dC dI cI cZ cJ cT U ∧ va_D (fun _ => True) [(d, .inr (0, [.ref w, .int (-1), .int 0, .int 0])), (w, .inl (cI, 384, .inl f))])) (va_Qv (S := Nat → Nat) (fun _ => True) (fun u t => va_P (dC, dI) vwC [(d, .inr (0, [.ref w, .int (-1), .int 0, .int 0])), (w, .inl (cI, 384, .inl (upd (upd (upd (upd f (4 : Int32).toNatClampNeg a) (5 : Int32).toNatClampNeg b) (6 : Int32).toNatClampNeg c9) (7 : Int32).toNatClampNeg e9)))] t.heap ∧ va_D (va_A [(d, .inr (0, [.ref w, .int (-1), .int 0, .int 0])), (w, .inl (cI, 384, .inl f))] sz) [(d, .inr (0, [.ref w, .int (-1), .int 0, .int 0])), (w, .inl (cI, 384, .inl (upd (upd (upd (upd f (4 : Int32).toNatClampNeg a) (5 : Int32).toNatClampNeg b) (6 : Int32).toNatClampNeg c9) (7 : Int32).toNatClampNeg e9)))]) (va_A [(d, .inr (0, [.ref w, .int (-1), .int 0, .int 0])), (w, .inl (cI, 384, .inl f))] sz)) 0 0 (va_A [(d, .inr (0, [.ref w, .int (-1), .int 0, .int 0])), (w, .inl (cI, 384, .inl f))] sz) := by
  refine Met.ofW (cc := cD_setWords) (maxL := 8) (ret := none) (by decide) rfl ?_
  intro p e s m args below meth c s₁ B hml hv
  obtain ⟨rfl, hsz, hP, hKK, hD0⟩ := hv
  have hK := hKK.1
  have hx := B.exec
  have hb := B.bytes
  have hr := B.returns
  have hw : ∀ w ∈ wsA, w.before _ s = true := fun w h => atoms_spec (ws := (Cond.code yD_setWords cD_setWords 8 none :: wsA)) B.pre w (List.mem_cons_of_mem _ h)
  have hown : s.vm.findClass "LoggedStore$Disk" = some m.cls := findClass_of_methodNamed B.named
  have hlocks := B.notSynchronized
  subst hsz
  have hD := hD0.self (sz := s.heap.size)
  generalize hAe : va_A [(d, .inr (0, [.ref w, .int (-1), .int 0, .int 0])), (w, .inl (cI, 384, .inl f))] s.heap.size = A at hD ⊢
  have hA : ∀ q : Nat, s.heap.size ≤ q → A q := fun q h => by rw [← hAe]; exact Or.inr h
  have hS : va_S A s.heap s.heap [] := va_S.rf
  have hl := lv_entry ([.ref d, .int 1, .int 4, .int a, .int b, .int c9, .int e9]) (n := 8) (Nat.le_of_ble_eq_true rfl)
  rw [lg_entry_eq]
  generalize (lg_sl ([.ref d, .int 1, .int 4, .int a, .int b, .int c9, .int e9]) ++ List.replicate (8 - (lg_sl ([.ref d, .int 1, .int 4, .int a, .int b, .int c9, .int e9])).length) Slot.unset).toArray = ls at hl ⊢
  have hl : lv_has ls 8 [(0, .ref d), (1, .int 1), (2, .int 4), (3, .int a), (4, .int b), (5, .int c9), (6, .int e9)] := hl
  refine lv_iconst (v := 4) hx hb dD_setWords_0 (by decide) ?_
  refine lv_iload_n hx hb dD_setWords_1 rfl (lv_at hl 1 rfl) ?_
  refine lv_imul hx hb dD_setWords_2 ?_
  refine lv_topi (nm_r (e' := 4) (by decide +kernel) ?_)
  refine lv_istore hx hb dD_setWords_3 hl (by decide) rfl (fun ls hl => ?_)
  have hl : lv_has ls 8 [(7, .int 4), (0, .ref d), (1, .int 1), (2, .int 4), (3, .int a), (4, .int b), (5, .int c9), (6, .int e9)] := hl
  refine lv_iload_n hx hb dD_setWords_5 rfl (lv_at hl 3 rfl) ?_
  refine lv_if_le (tgt := 17) hx hb dD_setWords_6 (by decide) (fun h9 => absurd h9 (by decide)) (fun _ => ?_)
  refine lv_aload_n hx hb dD_setWords_9 rfl (lv_at hl 1 rfl) ?_
  refine va_get (D := (dC, dI)) (ci := 0) (v := .ref w) (C := "LoggedStore$Disk") (T := uD) (N := 4) hx hb hw inD hown hK hP 0 rfl rfl 0 (by decide) (hw _ w69) (fun _ h9 => h9) rfl dD_setWords_10 ?_
  refine lv_iload hx hb dD_setWords_13 (lv_at hl 0 rfl) ?_
  refine lv_iload_n hx hb dD_setWords_15 rfl (lv_at hl 4 rfl) ?_
  refine va_iast hx hb hK hP hD hS 1 0 rfl rfl (tv_in (by decide +kernel)) dD_setWords_16 (fun H locs hP hD hS => ?_)
  have hP : va_P (dC, dI) vwC [(d, .inr (0, [.ref w, .int (-1), .int 0, .int 0])), (w, .inl (cI, 384, .inl (upd f (4 : Int32).toNatClampNeg a)))] H := hP
  have hD : va_D A [(d, .inr (0, [.ref w, .int (-1), .int 0, .int 0])), (w, .inl (cI, 384, .inl (upd f (4 : Int32).toNatClampNeg a)))] := hD
  refine lv_iload_n hx hb dD_setWords_17 rfl (lv_at hl 3 rfl) ?_
  refine lv_iconst (v := 1) hx hb dD_setWords_18 (by decide) ?_
  refine lv_icmp_le (tgt := 33) hx hb dD_setWords_19 (by decide) (fun h9 => absurd h9 (by decide)) (fun _ => ?_)
  refine lv_aload_n hx hb dD_setWords_22 rfl (lv_at hl 1 rfl) ?_
  refine va_get (D := (dC, dI)) (ci := 0) (v := .ref w) (C := "LoggedStore$Disk") (T := uD) (N := 4) hx hb hw inD hown hK hP 0 rfl rfl 0 (by decide) (hw _ w69) (fun _ h9 => h9) rfl dD_setWords_23 ?_
  refine lv_iload hx hb dD_setWords_26 (lv_at hl 0 rfl) ?_
  refine lv_iconst (v := 1) hx hb dD_setWords_28 (by decide) ?_
  refine lv_iadd hx hb dD_setWords_29 ?_
  refine lv_topi (nm_r (e' := 5) (by decide +kernel) ?_)
  refine lv_iload hx hb dD_setWords_30 (lv_at hl 5 rfl) ?_
  refine va_iast hx hb hK hP hD hS 1 0 rfl rfl (tv_in (by decide +kernel)) dD_setWords_32 (fun H locs hP hD hS => ?_)
  have hP : va_P (dC, dI) vwC [(d, .inr (0, [.ref w, .int (-1), .int 0, .int 0])), (w, .inl (cI, 384, .inl (upd (upd f (4 : Int32).toNatClampNeg a) (5 : Int32).toNatClampNeg b)))] H := hP
  have hD : va_D A [(d, .inr (0, [.ref w, .int (-1), .int 0, .int 0])), (w, .inl (cI, 384, .inl (upd (upd f (4 : Int32).toNatClampNeg a) (5 : Int32).toNatClampNeg b)))] := hD
  refine lv_iload_n hx hb dD_setWords_33 rfl (lv_at hl 3 rfl) ?_
  refine lv_iconst (v := 2) hx hb dD_setWords_34 (by decide) ?_
  refine lv_icmp_le (tgt := 49) hx hb dD_setWords_35 (by decide) (fun h9 => absurd h9 (by decide)) (fun _ => ?_)
  refine lv_aload_n hx hb dD_setWords_38 rfl (lv_at hl 1 rfl) ?_
  refine va_get (D := (dC, dI)) (ci := 0) (v := .ref w) (C := "LoggedStore$Disk") (T := uD) (N := 4) hx hb hw inD hown hK hP 0 rfl rfl 0 (by decide) (hw _ w69) (fun _ h9 => h9) rfl dD_setWords_39 ?_
  refine lv_iload hx hb dD_setWords_42 (lv_at hl 0 rfl) ?_
  refine lv_iconst (v := 2) hx hb dD_setWords_44 (by decide) ?_
  refine lv_iadd hx hb dD_setWords_45 ?_
  refine lv_topi (nm_r (e' := 6) (by decide +kernel) ?_)
  refine lv_iload hx hb dD_setWords_46 (lv_at hl 6 rfl) ?_
  refine va_iast hx hb hK hP hD hS 1 0 rfl rfl (tv_in (by decide +kernel)) dD_setWords_48 (fun H locs hP hD hS => ?_)
  have hP : va_P (dC, dI) vwC [(d, .inr (0, [.ref w, .int (-1), .int 0, .int 0])), (w, .inl (cI, 384, .inl (upd (upd (upd f (4 : Int32).toNatClampNeg a) (5 : Int32).toNatClampNeg b) (6 : Int32).toNatClampNeg c9)))] H := hP
  have hD : va_D A [(d, .inr (0, [.ref w, .int (-1), .int 0, .int 0])), (w, .inl (cI, 384, .inl (upd (upd (upd f (4 : Int32).toNatClampNeg a) (5 : Int32).toNatClampNeg b) (6 : Int32).toNatClampNeg c9)))] := hD
  refine lv_iload_n hx hb dD_setWords_49 rfl (lv_at hl 3 rfl) ?_
  refine lv_iconst (v := 3) hx hb dD_setWords_50 (by decide) ?_
  refine lv_icmp_le (tgt := 65) hx hb dD_setWords_51 (by decide) (fun h9 => absurd h9 (by decide)) (fun _ => ?_)
  refine lv_aload_n hx hb dD_setWords_54 rfl (lv_at hl 1 rfl) ?_
  refine va_get (D := (dC, dI)) (ci := 0) (v := .ref w) (C := "LoggedStore$Disk") (T := uD) (N := 4) hx hb hw inD hown hK hP 0 rfl rfl 0 (by decide) (hw _ w69) (fun _ h9 => h9) rfl dD_setWords_55 ?_
  refine lv_iload hx hb dD_setWords_58 (lv_at hl 0 rfl) ?_
  refine lv_iconst (v := 3) hx hb dD_setWords_60 (by decide) ?_
  refine lv_iadd hx hb dD_setWords_61 ?_
  refine lv_topi (nm_r (e' := 7) (by decide +kernel) ?_)
  refine lv_iload hx hb dD_setWords_62 (lv_at hl 7 rfl) ?_
  refine va_iast hx hb hK hP hD hS 1 0 rfl rfl (tv_in (by decide +kernel)) dD_setWords_64 (fun H locs hP hD hS => ?_)
  have hP : va_P (dC, dI) vwC [(d, .inr (0, [.ref w, .int (-1), .int 0, .int 0])), (w, .inl (cI, 384, .inl (upd (upd (upd (upd f (4 : Int32).toNatClampNeg a) (5 : Int32).toNatClampNeg b) (6 : Int32).toNatClampNeg c9) (7 : Int32).toNatClampNeg e9)))] H := hP
  have hD : va_D A [(d, .inr (0, [.ref w, .int (-1), .int 0, .int 0])), (w, .inl (cI, 384, .inl (upd (upd (upd (upd f (4 : Int32).toNatClampNeg a) (5 : Int32).toNatClampNeg b) (6 : Int32).toNatClampNeg c9) (7 : Int32).toNatClampNeg e9)))] := hD
  have hP9 := hP.sub (ws' := [(d, .inr (0, [.ref w, .int (-1), .int 0, .int 0])), (w, .inl (cI, 384, .inl (upd (upd (upd (upd f (4 : Int32).toNatClampNeg a) (5 : Int32).toNatClampNeg b) (6 : Int32).toNatClampNeg c9) (7 : Int32).toNatClampNeg e9)))]) [0, 1] rfl
  have hD9 := hD.sub (ws' := [(d, .inr (0, [.ref w, .int (-1), .int 0, .int 0])), (w, .inl (cI, 384, .inl (upd (upd (upd (upd f (4 : Int32).toNatClampNeg a) (5 : Int32).toNatClampNeg b) (6 : Int32).toNatClampNeg c9) (7 : Int32).toNatClampNeg e9)))]) [0, 1] (by decide) rfl
  refine W.widen (k := 0) (n := 0) (by decide) (by decide) ?_
  exact W.vret hx hb hr (fun t ht hW => ⟨⟨fun _ => 0, rfl, trivial, by rw [ht]; exact hP9, hD9⟩, hS.F ht⟩) hS.2.2 dD_setWords_65

set_option maxHeartbeats 4000000 in
set_option maxRecDepth 100000 in
theorem c_format (l : Launch) (dC : Nat → ClassId) (dI : Nat → Nat → Nat) (cI cZ cJ cT : ClassId) (d w : Nat) (sz : Nat) : Met l yD_format (Cond.code yD_format cD_format 2 none :: wsA) ({ frames := 2, cells := 0, slots := 0, locals := 42 }) (va_Pc [.ref d] (fun U => U.heap.size = sz ∧ va_P (dC, dI) vwC [(d, .inr (0, [.ref w, .int (-1), .int 0, .int 0])), (w, .inl (cI, 384, .inl (fun _ => 0)))] U.heap ∧ KK dC dI cI cZ cJ cT U ∧ va_D (fun _ => True) [(d, .inr (0, [.ref w, .int (-1), .int 0, .int 0])), (w, .inl (cI, 384, .inl (fun _ => 0)))])) (va_Qv (S := Nat → Nat) (fun _ => True) (fun u t => va_P (dC, dI) vwC [(d, .inr (0, [.ref w, .int (-1), .int 0, .int 0])), (w, .inl (cI, 384, .inl W0))] t.heap ∧ va_D (va_A [(d, .inr (0, [.ref w, .int (-1), .int 0, .int 0])), (w, .inl (cI, 384, .inl (fun _ => 0)))] sz) [(d, .inr (0, [.ref w, .int (-1), .int 0, .int 0])), (w, .inl (cI, 384, .inl W0))]) (va_A [(d, .inr (0, [.ref w, .int (-1), .int 0, .int 0])), (w, .inl (cI, 384, .inl (fun _ => 0)))] sz)) 0 0 (va_A [(d, .inr (0, [.ref w, .int (-1), .int 0, .int 0])), (w, .inl (cI, 384, .inl (fun _ => 0)))] sz) := by
  refine Met.ofW (cc := cD_format) (maxL := 2) (ret := none) (by decide) rfl ?_
  intro p e s m args below meth c s₁ B hml hv
  obtain ⟨rfl, hsz, hP, hKK, hD0⟩ := hv
  have hK := hKK.1
  have hx := B.exec
  have hb := B.bytes
  have hr := B.returns
  have hw : ∀ w ∈ wsA, w.before _ s = true := fun w h => atoms_spec (ws := (Cond.code yD_format cD_format 2 none :: wsA)) B.pre w (List.mem_cons_of_mem _ h)
  have hown : s.vm.findClass "LoggedStore$Disk" = some m.cls := findClass_of_methodNamed B.named
  have hlocks := B.notSynchronized
  subst hsz
  have hD := hD0.self (sz := s.heap.size)
  generalize hAe : va_A [(d, .inr (0, [.ref w, .int (-1), .int 0, .int 0])), (w, .inl (cI, 384, .inl (fun _ => 0)))] s.heap.size = A at hD ⊢
  have hA : ∀ q : Nat, s.heap.size ≤ q → A q := fun q h => by rw [← hAe]; exact Or.inr h
  have hS : va_S A s.heap s.heap [] := va_S.rf
  have hl := lv_entry ([.ref d]) (n := 2) (Nat.le_of_ble_eq_true rfl)
  rw [lg_entry_eq]
  generalize (lg_sl ([.ref d]) ++ List.replicate (2 - (lg_sl ([.ref d])).length) Slot.unset).toArray = ls at hl ⊢
  have hl : lv_has ls 2 [(0, .ref d)] := hl
  refine lv_iconst (v := 1) hx hb dD_format_0 (by decide) ?_
  have hPc := hP.sub (ws' := []) [] rfl
  refine vp_callSi (tk_run (va_runSN (As := [.int 1]) (rest := []) ⟨hx, hb, hml, hown, hw⟩ (c_hb1 l dC dI cI cZ cJ cT) ⟨va_cnB 1 hw (gA0 w140) rfl rfl rfl hKK.2.n5 (hw _ w40) (by decide +kernel) ⟨Nat.le_of_ble_eq_true rfl, Nat.le_of_ble_eq_true rfl⟩, (hw _ w139), trivial⟩ ⟨kb_S, fun U hU hW => ⟨rfl, by rw [hU]; exact hPc, hKK.moved hW⟩⟩ rfl rfl hl.1 rfl (lv_room (Nat.le_of_ble_eq_true rfl)) dD_format_1 ⟨Nat.le_of_ble_eq_true rfl, Nat.le_of_ble_eq_true rfl⟩)) (fun r1 e2 => ?_)
  obtain rfl : r1 = 0 := e2
  refine lv_istore_n hx hb dD_format_4 rfl hl (by decide) rfl (fun ls hl => ?_)
  have hl : lv_has ls 2 [(1, .int 0), (0, .ref d)] := hl
  refine lv_aload_n hx hb dD_format_5 rfl (lv_at hl 1 rfl) ?_
  refine lv_iload_n hx hb dD_format_6 rfl (lv_at hl 0 rfl) ?_
  refine lv_iconst (v := 4) hx hb dD_format_7 (by decide) ?_
  refine lv_iconst (v := 1) hx hb dD_format_8 (by decide) ?_
  refine lv_iconst (v := 0) hx hb dD_format_9 (by decide) ?_
  refine lv_iconst (v := 0) hx hb dD_format_10 (by decide) ?_
  refine lv_iload_n hx hb dD_format_11 rfl (lv_at hl 0 rfl) ?_
  refine lv_iconst (v := 1) hx hb dD_format_12 (by decide) ?_
  refine lv_iconst (v := 0) hx hb dD_format_13 (by decide) ?_
  refine lv_iconst (v := 0) hx hb dD_format_14 (by decide) ?_
  have hPc := hP.sub (ws' := []) [] rfl
  refine vp_callSi (W.runS (As := [.int 0, .int 1, .int 0, .int 0]) (rest := [.int 0, .int 0, .int 1, .int 4, .int 0, .ref d]) ⟨hx, hb, hml, hown, hw⟩ (c_chk l dC dI cI cZ cJ cT 0 1 0 0) ⟨callB_of 4 hw (gA0 w146) rfl rfl rfl (hw _ w41) (hw _ w144) (by decide +kernel) ⟨Nat.le_of_ble_eq_true rfl, Nat.le_of_ble_eq_true rfl⟩, (hw _ w145)⟩ ⟨kb_S, fun U hU hW => ⟨rfl, by rw [hU]; exact hPc, hKK.moved hW⟩⟩ rfl rfl hl.1 rfl (lv_room (Nat.le_of_ble_eq_true rfl)) dD_format_15 ⟨Nat.le_of_ble_eq_true rfl, Nat.le_of_ble_eq_true rfl⟩) (fun r3 e4 => ?_)
  obtain rfl : r3 = 1013969759 := e4.trans (by decide +kernel)
  have hPc := hP.sub (ws' := [(d, .inr (0, [.ref w, .int (-1), .int 0, .int 0])), (w, .inl (cI, 384, .inl (fun _ => 0)))]) [0, 1] rfl
  have hDc := hD.sub (ws' := [(d, .inr (0, [.ref w, .int (-1), .int 0, .int 0])), (w, .inl (cI, 384, .inl (fun _ => 0)))]) [0, 1] (by decide) rfl
  have hFc := va_free (wc := [(d, .inr (0, [.ref w, .int (-1), .int 0, .int 0])), (w, .inl (cI, 384, .inl (fun _ => 0)))]) hD hS hA [0, 1] rfl
  refine va_callv (va_runV (C := "LoggedStore$Disk") (b := d) (As := [.int 0, .int 4, .int 1, .int 0, .int 0, .int 1013969759]) (rest := []) ⟨hx, hb, hml, hown, hw⟩ (c_setWords0 l dC dI cI cZ cJ cT d w 1 0 0 1013969759 (fun _ => 0) s.heap.size) ⟨callB_of 6 hw (gA0 w153) rfl rfl rfl (hw _ w41) (hw _ w150) (by decide +kernel) ⟨Nat.le_of_ble_eq_true rfl, Nat.le_of_ble_eq_true rfl⟩, (hw _ w152), (hw _ w0)⟩ ⟨kb_Q, va_recv (ci := 0) (q0 := 0) hK hP rfl rfl, fun U hU hW => ⟨rfl, by rw [hU], by rw [hU]; exact hPc, hKK.moved hW, hDc.weaken (fun _ _ _ _ => trivial)⟩⟩ rfl rfl hl.1 rfl (lv_room (Nat.le_of_ble_eq_true rfl)) dD_format_18 ⟨Nat.le_of_ble_eq_true rfl, Nat.le_of_ble_eq_true rfl⟩) hS (fun q _ h => hFc q h) hFc (fun u6 t H1 locs ht hvm he9 hB hz1 hk1 hS => ?_)
  obtain ⟨hP1, hD1⟩ := hB
  rw [ht] at hP1
  obtain ⟨hP, hD⟩ := va_join (wr := []) (w1 := [(d, .inr (0, [.ref w, .int (-1), .int 0, .int 0])), (w, .inl (cI, 384, .inl W0))]) hP hD [0, 1] [] rfl rfl (by decide) (by decide) hk1 hFc hP1 hD1
  generalize H1 = H at hP hS ⊢
  have hP : va_P (dC, dI) vwC [(d, .inr (0, [.ref w, .int (-1), .int 0, .int 0])), (w, .inl (cI, 384, .inl W0))] H := hP
  have hD : va_D A [(d, .inr (0, [.ref w, .int (-1), .int 0, .int 0])), (w, .inl (cI, 384, .inl W0))] := hD
  have hP9 := hP.sub (ws' := [(d, .inr (0, [.ref w, .int (-1), .int 0, .int 0])), (w, .inl (cI, 384, .inl W0))]) [0, 1] rfl
  have hD9 := hD.sub (ws' := [(d, .inr (0, [.ref w, .int (-1), .int 0, .int 0])), (w, .inl (cI, 384, .inl W0))]) [0, 1] (by decide) rfl
  refine W.widen (k := 0) (n := 0) (by decide) (by decide) ?_
  exact W.vret hx hb hr (fun t ht hW => ⟨⟨fun _ => 0, rfl, trivial, by rw [ht]; exact hP9, hD9⟩, hS.F ht⟩) hS.2.2 dD_format_21

set_option maxHeartbeats 4000000 in
set_option maxRecDepth 100000 in
theorem c_D_init (l : Launch) (dC : Nat → ClassId) (dI : Nat → Nat → Nat) (cI cZ cJ cT : ClassId) (d : Nat) (sz : Nat) : Met l yD_init (Cond.code yD_init cD_init 1 none :: wsA) ({ frames := 1, cells := 1, slots := 384, locals := 12 }) (va_Pc [.ref d] (fun U => U.heap.size = sz ∧ va_P (dC, dI) vwC [(d, .inr (0, [.null, .int 0, .int 0, .int 0]))] U.heap ∧ KK dC dI cI cZ cJ cT U ∧ va_D (fun _ => True) [(d, .inr (0, [.null, .int 0, .int 0, .int 0]))])) (va_Qv (S := Nat → Nat) (fun _ => True) (fun u t => va_P (dC, dI) vwC [(d, .inr (0, [.ref (u 0), .int (-1), .int 0, .int 0])), ((u 0), .inl (cI, 384, .inl (fun _ => 0)))] t.heap ∧ va_D (va_A [(d, .inr (0, [.null, .int 0, .int 0, .int 0]))] sz) [(d, .inr (0, [.ref (u 0), .int (-1), .int 0, .int 0])), ((u 0), .inl (cI, 384, .inl (fun _ => 0)))]) (va_A [(d, .inr (0, [.null, .int 0, .int 0, .int 0]))] sz)) 1 384 (va_A [(d, .inr (0, [.null, .int 0, .int 0, .int 0]))] sz) := by
  refine Met.ofW (cc := cD_init) (maxL := 1) (ret := none) (by decide) rfl ?_
  intro p e s m args below meth c s₁ B hml hv
  obtain ⟨rfl, hsz, hP, hKK, hD0⟩ := hv
  have hK := hKK.1
  have hx := B.exec
  have hb := B.bytes
  have hr := B.returns
  have hw : ∀ w ∈ wsA, w.before _ s = true := fun w h => atoms_spec (ws := (Cond.code yD_init cD_init 1 none :: wsA)) B.pre w (List.mem_cons_of_mem _ h)
  have hown : s.vm.findClass "LoggedStore$Disk" = some m.cls := findClass_of_methodNamed B.named
  have hlocks := B.notSynchronized
  have hin : meth.name = "<init>" := (name_of_methodNamed B.named B.method).1
  subst hsz
  have hD := hD0.self (sz := s.heap.size)
  generalize hAe : va_A [(d, .inr (0, [.null, .int 0, .int 0, .int 0]))] s.heap.size = A at hD ⊢
  have hA : ∀ q : Nat, s.heap.size ≤ q → A q := fun q h => by rw [← hAe]; exact Or.inr h
  have hS : va_S A s.heap s.heap [] := va_S.rf
  have hl := lv_entry ([.ref d]) (n := 1) (Nat.le_of_ble_eq_true rfl)
  rw [lg_entry_eq]
  generalize (lg_sl ([.ref d]) ++ List.replicate (1 - (lg_sl ([.ref d])).length) Slot.unset).toArray = ls at hl ⊢
  have hl : lv_has ls 1 [(0, .ref d)] := hl
  refine lv_aload_n hx hb dD_init_0 rfl (lv_at hl 0 rfl) ?_
  refine W.objInit hx hb hown (hw _ w68) (hw _ w61) (hw _ w62) rfl (by rw [hml]; exact hl.1) rfl dD_init_1 (Nat.le_of_ble_eq_true rfl) (Nat.le_of_ble_eq_true rfl) ?_
  refine W.eq (g2 := F0 m 4 ls []) rfl ?_
  refine lv_aload_n hx hb dD_init_4 rfl (lv_at hl 0 rfl) ?_
  refine lv_sipush (v := 384) hx hb dD_init_5 (by decide) ?_
  refine va_newa (atype := .int) (a0 := (384, .inl (fun _ => 0))) (ty := .int) hx hb (hw _ w83) rfl hK hP hD hS hA (fun _ => rfl) (by decide) (by decide) (by decide) (Nat.le_of_ble_eq_true rfl) (Nat.le_of_ble_eq_true rfl) dD_init_8 (fun q1 cA H hK hP hD hS => ?_)
  obtain rfl := tk_eq hK (i := 0) (j := 4) rfl rfl
  have hK := hK.sub (tys' := tyA cI cZ cJ cT) [0, 1, 2, 3] rfl
  have hP : va_P (dC, dI) vwC [(d, .inr (0, [.null, .int 0, .int 0, .int 0])), (q1, .inl (cI, 384, .inl (fun _ => 0)))] H := hP
  have hD : va_D A [(d, .inr (0, [.null, .int 0, .int 0, .int 0])), (q1, .inl (cI, 384, .inl (fun _ => 0)))] := hD
  refine va_putF (D := (dC, dI)) (ci := 0) (v := .ref q1) (ty := .array .int) (C := "LoggedStore$Disk") (T := uD) (N := 4) hx hb hw inD tyD tyD_ok nmD hown hK hP hD hS 0 rfl rfl 0 (by decide) (hw _ w69) (fun _ h9 => h9) rfl hin rfl (by decide +kernel) rfl rfl (Nat.le_of_ble_eq_true rfl) dD_init_10 (fun H locs hP hD hS => ?_)
  have hP : va_P (dC, dI) vwC [(d, .inr (0, [.ref q1, .int 0, .int 0, .int 0])), (q1, .inl (cI, 384, .inl (fun _ => 0)))] H := hP
  have hD : va_D A [(d, .inr (0, [.ref q1, .int 0, .int 0, .int 0])), (q1, .inl (cI, 384, .inl (fun _ => 0)))] := hD
  refine lv_aload_n hx hb dD_init_13 rfl (lv_at hl 0 rfl) ?_
  refine lv_iconst (v := (-1)) hx hb dD_init_14 (by decide) ?_
  refine va_put (D := (dC, dI)) (ci := 0) (v := .int (-1)) (ty := .int) (C := "LoggedStore$Disk") (T := uD) (N := 4) hx hb hw inD tyD tyD_ok nmD hown hK hP hD hS 0 rfl rfl 1 (by decide) (hw _ w70) (fun _ h9 => h9) rfl (by decide +kernel) rfl rfl (Nat.le_of_ble_eq_true rfl) dD_init_15 (fun H locs hP hD hS => ?_)
  have hP : va_P (dC, dI) vwC [(d, .inr (0, [.ref q1, .int (-1), .int 0, .int 0])), (q1, .inl (cI, 384, .inl (fun _ => 0)))] H := hP
  have hD : va_D A [(d, .inr (0, [.ref q1, .int (-1), .int 0, .int 0])), (q1, .inl (cI, 384, .inl (fun _ => 0)))] := hD
  refine lv_aload_n hx hb dD_init_18 rfl (lv_at hl 0 rfl) ?_
  refine lv_iconst (v := 0) hx hb dD_init_19 (by decide) ?_
  refine va_put (D := (dC, dI)) (ci := 0) (v := .int 0) (ty := .int) (C := "LoggedStore$Disk") (T := uD) (N := 4) hx hb hw inD tyD tyD_ok nmD hown hK hP hD hS 0 rfl rfl 2 (by decide) (hw _ w71) (fun _ h9 => h9) rfl (by decide +kernel) rfl rfl (Nat.le_of_ble_eq_true rfl) dD_init_20 (fun H locs hP hD hS => ?_)
  have hP : va_P (dC, dI) vwC [(d, .inr (0, [.ref q1, .int (-1), .int 0, .int 0])), (q1, .inl (cI, 384, .inl (fun _ => 0)))] H := hP
  have hD : va_D A [(d, .inr (0, [.ref q1, .int (-1), .int 0, .int 0])), (q1, .inl (cI, 384, .inl (fun _ => 0)))] := hD
  refine lv_aload_n hx hb dD_init_23 rfl (lv_at hl 0 rfl) ?_
  refine lv_iconst (v := 0) hx hb dD_init_24 (by decide) ?_
  refine va_put (D := (dC, dI)) (ci := 0) (v := .int 0) (ty := .boolean) (C := "LoggedStore$Disk") (T := uD) (N := 4) hx hb hw inD tyD tyD_ok nmD hown hK hP hD hS 0 rfl rfl 3 (by decide) (hw _ w72) (fun _ h9 => h9) rfl (by decide +kernel) rfl rfl (Nat.le_of_ble_eq_true rfl) dD_init_25 (fun H locs hP hD hS => ?_)
  have hP : va_P (dC, dI) vwC [(d, .inr (0, [.ref q1, .int (-1), .int 0, .int 0])), (q1, .inl (cI, 384, .inl (fun _ => 0)))] H := hP
  have hD : va_D A [(d, .inr (0, [.ref q1, .int (-1), .int 0, .int 0])), (q1, .inl (cI, 384, .inl (fun _ => 0)))] := hD
  have hP9 := hP.sub (ws' := [(d, .inr (0, [.ref q1, .int (-1), .int 0, .int 0])), (q1, .inl (cI, 384, .inl (fun _ => 0)))]) [0, 1] rfl
  have hD9 := hD.sub (ws' := [(d, .inr (0, [.ref q1, .int (-1), .int 0, .int 0])), (q1, .inl (cI, 384, .inl (fun _ => 0)))]) [0, 1] (by decide) rfl
  refine W.widen (k := 1) (n := 384) (by decide) (by decide) ?_
  exact W.vret hx hb hr (fun t ht hW => ⟨⟨fun k => match k with | _ => q1, rfl, trivial, by rw [ht]; exact hP9, hD9⟩, hS.F ht⟩) hS.2.2 dD_init_28

set_option maxHeartbeats 4000000 in
set_option maxRecDepth 100000 in
theorem c_T_init (l : Launch) (dC : Nat → ClassId) (dI : Nat → Nat → Nat) (cI cZ cJ cT : ClassId) (tb : Nat) (sz : Nat) : Met l yT_init (Cond.code yT_init cT_init 1 none :: wsA) ({ frames := 1, cells := 2, slots := 128, locals := 12 }) (va_Pc [.ref tb] (fun U => U.heap.size = sz ∧ va_P (dC, dI) vwC [(tb, .inr (1, [.null, .null, .int 0]))] U.heap ∧ KK dC dI cI cZ cJ cT U ∧ va_D (fun _ => True) [(tb, .inr (1, [.null, .null, .int 0]))])) (va_Qv (S := Nat → Nat) (fun _ => True) (fun u t => va_P (dC, dI) vwC [(tb, .inr (1, [.ref (u 0), .ref (u 1), .int 0])), ((u 0), .inl (cZ, 64, .inl (fun _ => 0))), ((u 1), .inl (cI, 64, .inl (fun _ => 0)))] t.heap ∧ va_D (va_A [(tb, .inr (1, [.null, .null, .int 0]))] sz) [(tb, .inr (1, [.ref (u 0), .ref (u 1), .int 0])), ((u 0), .inl (cZ, 64, .inl (fun _ => 0))), ((u 1), .inl (cI, 64, .inl (fun _ => 0)))]) (va_A [(tb, .inr (1, [.null, .null, .int 0]))] sz)) 2 128 (va_A [(tb, .inr (1, [.null, .null, .int 0]))] sz) := by
  refine Met.ofW (cc := cT_init) (maxL := 1) (ret := none) (by decide) rfl ?_
  intro p e s m args below meth c s₁ B hml hv
  obtain ⟨rfl, hsz, hP, hKK, hD0⟩ := hv
  have hK := hKK.1
  have hx := B.exec
  have hb := B.bytes
  have hr := B.returns
  have hw : ∀ w ∈ wsA, w.before _ s = true := fun w h => atoms_spec (ws := (Cond.code yT_init cT_init 1 none :: wsA)) B.pre w (List.mem_cons_of_mem _ h)
  have hown : s.vm.findClass "LoggedStore$Table" = some m.cls := findClass_of_methodNamed B.named
  have hlocks := B.notSynchronized
  have hin : meth.name = "<init>" := (name_of_methodNamed B.named B.method).1
  subst hsz
  have hD := hD0.self (sz := s.heap.size)
  generalize hAe : va_A [(tb, .inr (1, [.null, .null, .int 0]))] s.heap.size = A at hD ⊢
  have hA : ∀ q : Nat, s.heap.size ≤ q → A q := fun q h => by rw [← hAe]; exact Or.inr h
  have hS : va_S A s.heap s.heap [] := va_S.rf
  have hl := lv_entry ([.ref tb]) (n := 1) (Nat.le_of_ble_eq_true rfl)
  rw [lg_entry_eq]
  generalize (lg_sl ([.ref tb]) ++ List.replicate (1 - (lg_sl ([.ref tb])).length) Slot.unset).toArray = ls at hl ⊢
  have hl : lv_has ls 1 [(0, .ref tb)] := hl
  refine lv_aload_n hx hb dT_init_0 rfl (lv_at hl 0 rfl) ?_
  refine W.objInit hx hb hown (hw _ w89) (hw _ w61) (hw _ w62) rfl (by rw [hml]; exact hl.1) rfl dT_init_1 (Nat.le_of_ble_eq_true rfl) (Nat.le_of_ble_eq_true rfl) ?_
  refine W.eq (g2 := F0 m 4 ls []) rfl ?_
  refine lv_aload_n hx hb dT_init_4 rfl (lv_at hl 0 rfl) ?_
  refine lv_bipush (v := 64) hx hb dT_init_5 (by decide) ?_
  refine va_newa (atype := .boolean) (a0 := (64, .inl (fun _ => 0))) (ty := .boolean) hx hb (hw _ w103) rfl hK hP hD hS hA (fun _ => rfl) (by decide) (by decide) (by decide) (Nat.le_of_ble_eq_true rfl) (Nat.le_of_ble_eq_true rfl) dT_init_7 (fun q1 cA H hK hP hD hS => ?_)
  obtain rfl := tk_eq hK (i := 1) (j := 4) rfl rfl
  have hK := hK.sub (tys' := tyA cI cZ cJ cT) [0, 1, 2, 3] rfl
  have hP : va_P (dC, dI) vwC [(tb, .inr (1, [.null, .null, .int 0])), (q1, .inl (cZ, 64, .inl (fun _ => 0)))] H := hP
  have hD : va_D A [(tb, .inr (1, [.null, .null, .int 0])), (q1, .inl (cZ, 64, .inl (fun _ => 0)))] := hD
  refine va_putF (D := (dC, dI)) (ci := 1) (v := .ref q1) (ty := .array .boolean) (C := "LoggedStore$Table") (T := uT) (N := 3) hx hb hw inT tyT tyT_ok nmT hown hK hP hD hS 0 rfl rfl 0 (by decide) (hw _ w90) (fun _ h9 => h9) rfl hin rfl (by decide +kernel) rfl rfl (Nat.le_of_ble_eq_true rfl) dT_init_9 (fun H locs hP hD hS => ?_)
  have hP : va_P (dC, dI) vwC [(tb, .inr (1, [.ref q1, .null, .int 0])), (q1, .inl (cZ, 64, .inl (fun _ => 0)))] H := hP
  have hD : va_D A [(tb, .inr (1, [.ref q1, .null, .int 0])), (q1, .inl (cZ, 64, .inl (fun _ => 0)))] := hD
  refine lv_aload_n hx hb dT_init_12 rfl (lv_at hl 0 rfl) ?_
  refine lv_bipush (v := 64) hx hb dT_init_13 (by decide) ?_
  refine va_newa (atype := .int) (a0 := (64, .inl (fun _ => 0))) (ty := .int) hx hb (hw _ w83) rfl hK hP hD hS hA (fun _ => rfl) (by decide) (by decide) (by decide) (Nat.le_of_ble_eq_true rfl) (Nat.le_of_ble_eq_true rfl) dT_init_15 (fun q2 cA H hK hP hD hS => ?_)
  obtain rfl := tk_eq hK (i := 0) (j := 4) rfl rfl
  have hK := hK.sub (tys' := tyA cI cZ cJ cT) [0, 1, 2, 3] rfl
  have hP : va_P (dC, dI) vwC [(tb, .inr (1, [.ref q1, .null, .int 0])), (q1, .inl (cZ, 64, .inl (fun _ => 0))), (q2, .inl (cI, 64, .inl (fun _ => 0)))] H := hP
  have hD : va_D A [(tb, .inr (1, [.ref q1, .null, .int 0])), (q1, .inl (cZ, 64, .inl (fun _ => 0))), (q2, .inl (cI, 64, .inl (fun _ => 0)))] := hD
  refine va_putF (D := (dC, dI)) (ci := 1) (v := .ref q2) (ty := .array .int) (C := "LoggedStore$Table") (T := uT) (N := 3) hx hb hw inT tyT tyT_ok nmT hown hK hP hD hS 0 rfl rfl 1 (by decide) (hw _ w92) (fun _ h9 => h9) rfl hin rfl (by decide +kernel) rfl rfl (Nat.le_of_ble_eq_true rfl) dT_init_17 (fun H locs hP hD hS => ?_)
  have hP : va_P (dC, dI) vwC [(tb, .inr (1, [.ref q1, .ref q2, .int 0])), (q1, .inl (cZ, 64, .inl (fun _ => 0))), (q2, .inl (cI, 64, .inl (fun _ => 0)))] H := hP
  have hD : va_D A [(tb, .inr (1, [.ref q1, .ref q2, .int 0])), (q1, .inl (cZ, 64, .inl (fun _ => 0))), (q2, .inl (cI, 64, .inl (fun _ => 0)))] := hD
  refine lv_aload_n hx hb dT_init_20 rfl (lv_at hl 0 rfl) ?_
  refine lv_iconst (v := 0) hx hb dT_init_21 (by decide) ?_
  refine va_put (D := (dC, dI)) (ci := 1) (v := .int 0) (ty := .int) (C := "LoggedStore$Table") (T := uT) (N := 3) hx hb hw inT tyT tyT_ok nmT hown hK hP hD hS 0 rfl rfl 2 (by decide) (hw _ w94) (fun _ h9 => h9) rfl (by decide +kernel) rfl rfl (Nat.le_of_ble_eq_true rfl) dT_init_22 (fun H locs hP hD hS => ?_)
  have hP : va_P (dC, dI) vwC [(tb, .inr (1, [.ref q1, .ref q2, .int 0])), (q1, .inl (cZ, 64, .inl (fun _ => 0))), (q2, .inl (cI, 64, .inl (fun _ => 0)))] H := hP
  have hD : va_D A [(tb, .inr (1, [.ref q1, .ref q2, .int 0])), (q1, .inl (cZ, 64, .inl (fun _ => 0))), (q2, .inl (cI, 64, .inl (fun _ => 0)))] := hD
  have hP9 := hP.sub (ws' := [(tb, .inr (1, [.ref q1, .ref q2, .int 0])), (q1, .inl (cZ, 64, .inl (fun _ => 0))), (q2, .inl (cI, 64, .inl (fun _ => 0)))]) [0, 1, 2] rfl
  have hD9 := hD.sub (ws' := [(tb, .inr (1, [.ref q1, .ref q2, .int 0])), (q1, .inl (cZ, 64, .inl (fun _ => 0))), (q2, .inl (cI, 64, .inl (fun _ => 0)))]) [0, 1, 2] (by decide) rfl
  refine W.widen (k := 2) (n := 128) (by decide) (by decide) ?_
  exact W.vret hx hb hr (fun t ht hW => ⟨⟨fun k => match k with | 0 => q1 | _ => q2, rfl, trivial, by rw [ht]; exact hP9, hD9⟩, hS.F ht⟩) hS.2.2 dT_init_25

set_option maxHeartbeats 4000000 in
set_option maxRecDepth 100000 in
theorem c_R_init (l : Launch) (dC : Nat → ClassId) (dI : Nat → Nat → Nat) (cI cZ cJ cT : ClassId) (tr : Nat) (sz : Nat) : Met l yR_init (Cond.code yR_init cR_init 1 none :: wsA) ({ frames := 2, cells := 4, slots := 195, locals := 32 }) (va_Pc [.ref tr] (fun U => U.heap.size = sz ∧ va_P (dC, dI) vwC [(tr, .inr (2, [.null, .null, .int 0, .int 0, .int 0]))] U.heap ∧ KK dC dI cI cZ cJ cT U ∧ va_D (fun _ => True) [(tr, .inr (2, [.null, .null, .int 0, .int 0, .int 0]))])) (va_Qv (S := Nat → Nat) (fun _ => True) (fun u t => va_P (dC, dI) vwC [(tr, .inr (2, [.ref (u 0), .ref (u 3), .int 0, .int 0, .int 0])), ((u 0), .inr (1, [.ref (u 1), .ref (u 2), .int 0])), ((u 1), .inl (cZ, 64, .inl (fun _ => 0))), ((u 2), .inl (cI, 64, .inl (fun _ => 0))), ((u 3), .inl (cZ, 64, .inl (fun _ => 0)))] t.heap ∧ va_D (va_A [(tr, .inr (2, [.null, .null, .int 0, .int 0, .int 0]))] sz) [(tr, .inr (2, [.ref (u 0), .ref (u 3), .int 0, .int 0, .int 0])), ((u 0), .inr (1, [.ref (u 1), .ref (u 2), .int 0])), ((u 1), .inl (cZ, 64, .inl (fun _ => 0))), ((u 2), .inl (cI, 64, .inl (fun _ => 0))), ((u 3), .inl (cZ, 64, .inl (fun _ => 0)))]) (va_A [(tr, .inr (2, [.null, .null, .int 0, .int 0, .int 0]))] sz)) 4 195 (va_A [(tr, .inr (2, [.null, .null, .int 0, .int 0, .int 0]))] sz) := by
  refine Met.ofW (cc := cR_init) (maxL := 1) (ret := none) (by decide) rfl ?_
  intro p e s m args below meth c s₁ B hml hv
  obtain ⟨rfl, hsz, hP, hKK, hD0⟩ := hv
  have hK := hKK.1
  have hx := B.exec
  have hb := B.bytes
  have hr := B.returns
  have hw : ∀ w ∈ wsA, w.before _ s = true := fun w h => atoms_spec (ws := (Cond.code yR_init cR_init 1 none :: wsA)) B.pre w (List.mem_cons_of_mem _ h)
  have hown : s.vm.findClass "LoggedStore$Transaction" = some m.cls := findClass_of_methodNamed B.named
  have hlocks := B.notSynchronized
  have hin : meth.name = "<init>" := (name_of_methodNamed B.named B.method).1
  subst hsz
  have hD := hD0.self (sz := s.heap.size)
  generalize hAe : va_A [(tr, .inr (2, [.null, .null, .int 0, .int 0, .int 0]))] s.heap.size = A at hD ⊢
  have hA : ∀ q : Nat, s.heap.size ≤ q → A q := fun q h => by rw [← hAe]; exact Or.inr h
  have hS : va_S A s.heap s.heap [] := va_S.rf
  have hl := lv_entry ([.ref tr]) (n := 1) (Nat.le_of_ble_eq_true rfl)
  rw [lg_entry_eq]
  generalize (lg_sl ([.ref tr]) ++ List.replicate (1 - (lg_sl ([.ref tr])).length) Slot.unset).toArray = ls at hl ⊢
  have hl : lv_has ls 1 [(0, .ref tr)] := hl
  refine lv_aload_n hx hb dR_init_0 rfl (lv_at hl 0 rfl) ?_
  refine W.objInit hx hb hown (hw _ w110) (hw _ w61) (hw _ w62) rfl (by rw [hml]; exact hl.1) rfl dR_init_1 (Nat.le_of_ble_eq_true rfl) (Nat.le_of_ble_eq_true rfl) ?_
  refine W.eq (g2 := F0 m 4 ls []) rfl ?_
  refine lv_aload_n hx hb dR_init_4 rfl (lv_at hl 0 rfl) ?_
  refine va_new (ci := 1) (fs := [.null, .null, .int 0]) (C := "LoggedStore$Table") (T := uT) (N := 3) hx hb hw inT tyT tyT_ok hown (hw _ w111) (hw _ w85) (hw _ w42) hK hP hD hS hA rfl (fun j hj => by (have : j = 0 ∨ j = 1 ∨ j = 2 := by omega); rcases this with rfl | rfl | rfl <;> rfl) (Nat.le_of_ble_eq_true rfl) (Nat.le_of_ble_eq_true rfl) dR_init_5 (fun q1 H hP hD hS => ?_)
  have hP : va_P (dC, dI) vwC [(tr, .inr (2, [.null, .null, .int 0, .int 0, .int 0])), (q1, .inr (1, [.null, .null, .int 0]))] H := hP
  have hD : va_D A [(tr, .inr (2, [.null, .null, .int 0, .int 0, .int 0])), (q1, .inr (1, [.null, .null, .int 0]))] := hD
  refine lv_dup hx hb dR_init_8 rfl ?_
  have hPc := hP.sub (ws' := [(q1, .inr (1, [.null, .null, .int 0]))]) [1] rfl
  have hDc := hD.sub (ws' := [(q1, .inr (1, [.null, .null, .int 0]))]) [1] (by decide) rfl
  have hFc := va_free (wc := [(q1, .inr (1, [.null, .null, .int 0]))]) hD hS hA [1] rfl
  refine va_callv (va_runIN (b := q1) (As := []) (rest := [.ref q1, .ref tr]) ⟨hx, hb, hml, hown, hw⟩ (c_T_init l dC dI cI cZ cJ cT q1 H.size) ⟨va_cnB 0 hw (gA0 w88) rfl rfl rfl hKK.2.n4 (hw _ w42) (by decide +kernel) ⟨Nat.le_of_ble_eq_true rfl, Nat.le_of_ble_eq_true rfl⟩, rfl, (hw _ w87)⟩ ⟨kb_Q, fun U hU hW => ⟨rfl, by rw [hU], by rw [hU]; exact hPc, hKK.moved hW, hDc.weaken (fun _ _ _ _ => trivial)⟩⟩ rfl rfl hl.1 rfl (lv_room (Nat.le_of_ble_eq_true rfl)) dR_init_9 ⟨Nat.le_of_ble_eq_true rfl, Nat.le_of_ble_eq_true rfl⟩) hS (fun q _ h => hFc q h) hFc (fun u3 t H1 locs ht hvm he9 hB hz1 hk1 hS => ?_)
  obtain ⟨hP1, hD1⟩ := hB
  rw [ht] at hP1
  obtain ⟨hP, hD⟩ := va_join (wr := [(tr, .inr (2, [.null, .null, .int 0, .int 0, .int 0]))]) (w1 := [(q1, .inr (1, [.ref (u3 0), .ref (u3 1), .int 0])), ((u3 0), .inl (cZ, 64, .inl (fun _ => 0))), ((u3 1), .inl (cI, 64, .inl (fun _ => 0)))]) hP hD [1] [0] rfl rfl (by decide) (by decide) hk1 hFc hP1 hD1
  generalize H1 = H at hP hS ⊢
  have hP : va_P (dC, dI) vwC [(tr, .inr (2, [.null, .null, .int 0, .int 0, .int 0])), (q1, .inr (1, [.ref (u3 0), .ref (u3 1), .int 0])), ((u3 0), .inl (cZ, 64, .inl (fun _ => 0))), ((u3 1), .inl (cI, 64, .inl (fun _ => 0)))] H := hP
  have hD : va_D A [(tr, .inr (2, [.null, .null, .int 0, .int 0, .int 0])), (q1, .inr (1, [.ref (u3 0), .ref (u3 1), .int 0])), ((u3 0), .inl (cZ, 64, .inl (fun _ => 0))), ((u3 1), .inl (cI, 64, .inl (fun _ => 0)))] := hD
  refine va_putF (D := (dC, dI)) (ci := 2) (v := .ref q1) (ty := .object "LoggedStore$Table") (C := "LoggedStore$Transaction") (T := uR) (N := 5) hx hb hw inR tyR tyR_ok nmR hown hK hP hD hS 0 rfl rfl 0 (by decide) (hw _ w113) (fun _ h9 => h9) rfl hin rfl (by decide +kernel) rfl rfl (Nat.le_of_ble_eq_true rfl) dR_init_12 (fun H locs hP hD hS => ?_)
  have hP : va_P (dC, dI) vwC [(tr, .inr (2, [.ref q1, .null, .int 0, .int 0, .int 0])), (q1, .inr (1, [.ref (u3 0), .ref (u3 1), .int 0])), ((u3 0), .inl (cZ, 64, .inl (fun _ => 0))), ((u3 1), .inl (cI, 64, .inl (fun _ => 0)))] H := hP
  have hD : va_D A [(tr, .inr (2, [.ref q1, .null, .int 0, .int 0, .int 0])), (q1, .inr (1, [.ref (u3 0), .ref (u3 1), .int 0])), ((u3 0), .inl (cZ, 64, .inl (fun _ => 0))), ((u3 1), .inl (cI, 64, .inl (fun _ => 0)))] := hD
  refine lv_aload_n hx hb dR_init_15 rfl (lv_at hl 0 rfl) ?_
  refine lv_bipush (v := 64) hx hb dR_init_16 (by decide) ?_
  refine va_newa (atype := .boolean) (a0 := (64, .inl (fun _ => 0))) (ty := .boolean) hx hb (hw _ w103) rfl hK hP hD hS hA (fun _ => rfl) (by decide) (by decide) (by decide) (Nat.le_of_ble_eq_true rfl) (Nat.le_of_ble_eq_true rfl) dR_init_18 (fun q4 cA H hK hP hD hS => ?_)
  obtain rfl := tk_eq hK (i := 1) (j := 4) rfl rfl
  have hK := hK.sub (tys' := tyA cI cZ cJ cT) [0, 1, 2, 3] rfl
  have hP : va_P (dC, dI) vwC [(tr, .inr (2, [.ref q1, .null, .int 0, .int 0, .int 0])), (q1, .inr (1, [.ref (u3 0), .ref (u3 1), .int 0])), ((u3 0), .inl (cZ, 64, .inl (fun _ => 0))), ((u3 1), .inl (cI, 64, .inl (fun _ => 0))), (q4, .inl (cZ, 64, .inl (fun _ => 0)))] H := hP
  have hD : va_D A [(tr, .inr (2, [.ref q1, .null, .int 0, .int 0, .int 0])), (q1, .inr (1, [.ref (u3 0), .ref (u3 1), .int 0])), ((u3 0), .inl (cZ, 64, .inl (fun _ => 0))), ((u3 1), .inl (cI, 64, .inl (fun _ => 0))), (q4, .inl (cZ, 64, .inl (fun _ => 0)))] := hD
  refine va_putF (D := (dC, dI)) (ci := 2) (v := .ref q4) (ty := .array .boolean) (C := "LoggedStore$Transaction") (T := uR) (N := 5) hx hb hw inR tyR tyR_ok nmR hown hK hP hD hS 0 rfl rfl 1 (by decide) (hw _ w115) (fun _ h9 => h9) rfl hin rfl (by decide +kernel) rfl rfl (Nat.le_of_ble_eq_true rfl) dR_init_20 (fun H locs hP hD hS => ?_)
  have hP : va_P (dC, dI) vwC [(tr, .inr (2, [.ref q1, .ref q4, .int 0, .int 0, .int 0])), (q1, .inr (1, [.ref (u3 0), .ref (u3 1), .int 0])), ((u3 0), .inl (cZ, 64, .inl (fun _ => 0))), ((u3 1), .inl (cI, 64, .inl (fun _ => 0))), (q4, .inl (cZ, 64, .inl (fun _ => 0)))] H := hP
  have hD : va_D A [(tr, .inr (2, [.ref q1, .ref q4, .int 0, .int 0, .int 0])), (q1, .inr (1, [.ref (u3 0), .ref (u3 1), .int 0])), ((u3 0), .inl (cZ, 64, .inl (fun _ => 0))), ((u3 1), .inl (cI, 64, .inl (fun _ => 0))), (q4, .inl (cZ, 64, .inl (fun _ => 0)))] := hD
  refine lv_aload_n hx hb dR_init_23 rfl (lv_at hl 0 rfl) ?_
  refine lv_iconst (v := 0) hx hb dR_init_24 (by decide) ?_
  refine va_put (D := (dC, dI)) (ci := 2) (v := .int 0) (ty := .int) (C := "LoggedStore$Transaction") (T := uR) (N := 5) hx hb hw inR tyR tyR_ok nmR hown hK hP hD hS 0 rfl rfl 2 (by decide) (hw _ w117) (fun _ h9 => h9) rfl (by decide +kernel) rfl rfl (Nat.le_of_ble_eq_true rfl) dR_init_25 (fun H locs hP hD hS => ?_)
  have hP : va_P (dC, dI) vwC [(tr, .inr (2, [.ref q1, .ref q4, .int 0, .int 0, .int 0])), (q1, .inr (1, [.ref (u3 0), .ref (u3 1), .int 0])), ((u3 0), .inl (cZ, 64, .inl (fun _ => 0))), ((u3 1), .inl (cI, 64, .inl (fun _ => 0))), (q4, .inl (cZ, 64, .inl (fun _ => 0)))] H := hP
  have hD : va_D A [(tr, .inr (2, [.ref q1, .ref q4, .int 0, .int 0, .int 0])), (q1, .inr (1, [.ref (u3 0), .ref (u3 1), .int 0])), ((u3 0), .inl (cZ, 64, .inl (fun _ => 0))), ((u3 1), .inl (cI, 64, .inl (fun _ => 0))), (q4, .inl (cZ, 64, .inl (fun _ => 0)))] := hD
  refine lv_aload_n hx hb dR_init_28 rfl (lv_at hl 0 rfl) ?_
  refine lv_iconst (v := 0) hx hb dR_init_29 (by decide) ?_
  refine va_put (D := (dC, dI)) (ci := 2) (v := .int 0) (ty := .int) (C := "LoggedStore$Transaction") (T := uR) (N := 5) hx hb hw inR tyR tyR_ok nmR hown hK hP hD hS 0 rfl rfl 3 (by decide) (hw _ w119) (fun _ h9 => h9) rfl (by decide +kernel) rfl rfl (Nat.le_of_ble_eq_true rfl) dR_init_30 (fun H locs hP hD hS => ?_)
  have hP : va_P (dC, dI) vwC [(tr, .inr (2, [.ref q1, .ref q4, .int 0, .int 0, .int 0])), (q1, .inr (1, [.ref (u3 0), .ref (u3 1), .int 0])), ((u3 0), .inl (cZ, 64, .inl (fun _ => 0))), ((u3 1), .inl (cI, 64, .inl (fun _ => 0))), (q4, .inl (cZ, 64, .inl (fun _ => 0)))] H := hP
  have hD : va_D A [(tr, .inr (2, [.ref q1, .ref q4, .int 0, .int 0, .int 0])), (q1, .inr (1, [.ref (u3 0), .ref (u3 1), .int 0])), ((u3 0), .inl (cZ, 64, .inl (fun _ => 0))), ((u3 1), .inl (cI, 64, .inl (fun _ => 0))), (q4, .inl (cZ, 64, .inl (fun _ => 0)))] := hD
  refine lv_aload_n hx hb dR_init_33 rfl (lv_at hl 0 rfl) ?_
  refine lv_iconst (v := 0) hx hb dR_init_34 (by decide) ?_
  refine va_put (D := (dC, dI)) (ci := 2) (v := .int 0) (ty := .boolean) (C := "LoggedStore$Transaction") (T := uR) (N := 5) hx hb hw inR tyR tyR_ok nmR hown hK hP hD hS 0 rfl rfl 4 (by decide) (hw _ w121) (fun _ h9 => h9) rfl (by decide +kernel) rfl rfl (Nat.le_of_ble_eq_true rfl) dR_init_35 (fun H locs hP hD hS => ?_)
  have hP : va_P (dC, dI) vwC [(tr, .inr (2, [.ref q1, .ref q4, .int 0, .int 0, .int 0])), (q1, .inr (1, [.ref (u3 0), .ref (u3 1), .int 0])), ((u3 0), .inl (cZ, 64, .inl (fun _ => 0))), ((u3 1), .inl (cI, 64, .inl (fun _ => 0))), (q4, .inl (cZ, 64, .inl (fun _ => 0)))] H := hP
  have hD : va_D A [(tr, .inr (2, [.ref q1, .ref q4, .int 0, .int 0, .int 0])), (q1, .inr (1, [.ref (u3 0), .ref (u3 1), .int 0])), ((u3 0), .inl (cZ, 64, .inl (fun _ => 0))), ((u3 1), .inl (cI, 64, .inl (fun _ => 0))), (q4, .inl (cZ, 64, .inl (fun _ => 0)))] := hD
  have hP9 := hP.sub (ws' := [(tr, .inr (2, [.ref q1, .ref q4, .int 0, .int 0, .int 0])), (q1, .inr (1, [.ref (u3 0), .ref (u3 1), .int 0])), ((u3 0), .inl (cZ, 64, .inl (fun _ => 0))), ((u3 1), .inl (cI, 64, .inl (fun _ => 0))), (q4, .inl (cZ, 64, .inl (fun _ => 0)))]) [0, 1, 2, 3, 4] rfl
  have hD9 := hD.sub (ws' := [(tr, .inr (2, [.ref q1, .ref q4, .int 0, .int 0, .int 0])), (q1, .inr (1, [.ref (u3 0), .ref (u3 1), .int 0])), ((u3 0), .inl (cZ, 64, .inl (fun _ => 0))), ((u3 1), .inl (cI, 64, .inl (fun _ => 0))), (q4, .inl (cZ, 64, .inl (fun _ => 0)))]) [0, 1, 2, 3, 4] (by decide) rfl
  refine W.widen (k := 4) (n := 195) (by decide) (by decide) ?_
  exact W.vret hx hb hr (fun t ht hW => ⟨⟨fun k => match k with | 0 => q1 | 1 => (u3 0) | 2 => (u3 1) | _ => q4, rfl, trivial, by rw [ht]; exact hP9, hD9⟩, hS.F ht⟩) hS.2.2 dR_init_38

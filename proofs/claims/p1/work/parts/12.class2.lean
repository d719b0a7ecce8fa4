set_option maxRecDepth 100000 in
theorem w20 : (Cond.selects "LoggedStore" yS_writeArea yS_writeArea) ∈ wsA := List.mem_filter.mpr ⟨List.mem_of_getElem? (i := 20) rfl, rfl⟩
set_option maxRecDepth 100000 in
theorem w182 : (Cond.code yS_arm cS_arm 3 none) ∈ wsA := List.mem_filter.mpr ⟨List.mem_of_getElem? (i := 182) rfl, rfl⟩
set_option maxRecDepth 100000 in
theorem w183 : (Cond.methodLink "LoggedStore" 147 yD_limitWrites) ∈ wsA := List.mem_filter.mpr ⟨List.mem_of_getElem? (i := 183) rfl, rfl⟩
set_option maxRecDepth 100000 in
theorem w184 : (Cond.instanceMethod yD_limitWrites) ∈ wsA := List.mem_filter.mpr ⟨List.mem_of_getElem? (i := 184) rfl, rfl⟩
set_option maxRecDepth 100000 in
theorem w185 : (Cond.selects "LoggedStore$Disk" yD_limitWrites yD_limitWrites) ∈ wsA := List.mem_filter.mpr ⟨List.mem_of_getElem? (i := 185) rfl, rfl⟩
set_option maxRecDepth 100000 in
theorem w186 : (Cond.code yD_limitWrites cD_limitWrites 3 none) ∈ wsA := List.mem_filter.mpr ⟨List.mem_of_getElem? (i := 186) rfl, rfl⟩
set_option maxRecDepth 100000 in
theorem w187 : (Cond.methodLink "LoggedStore$Disk" 38 yA_min) ∈ wsA := List.mem_filter.mpr ⟨List.mem_of_getElem? (i := 187) rfl, rfl⟩
set_option maxRecDepth 100000 in
theorem w188 : (Cond.static yA_min) ∈ wsA := List.mem_filter.mpr ⟨List.mem_of_getElem? (i := 188) rfl, rfl⟩
set_option maxRecDepth 100000 in
theorem w189 : (Cond.code yA_min cA_min 2 (some .int)) ∈ wsA := List.mem_filter.mpr ⟨List.mem_of_getElem? (i := 189) rfl, rfl⟩
set_option maxRecDepth 100000 in
theorem w190 : (Cond.methodLink "LoggedStore$Disk" 44 yA_max) ∈ wsA := List.mem_filter.mpr ⟨List.mem_of_getElem? (i := 190) rfl, rfl⟩
set_option maxRecDepth 100000 in
theorem w191 : (Cond.static yA_max) ∈ wsA := List.mem_filter.mpr ⟨List.mem_of_getElem? (i := 191) rfl, rfl⟩
set_option maxRecDepth 100000 in
theorem w192 : (Cond.code yA_max cA_max 2 (some .int)) ∈ wsA := List.mem_filter.mpr ⟨List.mem_of_getElem? (i := 192) rfl, rfl⟩
set_option maxRecDepth 100000 in
theorem w225 : (Cond.methodLink "LoggedStore" 134 yS_headerBlock) ∈ wsA := List.mem_filter.mpr ⟨List.mem_of_getElem? (i := 225) rfl, rfl⟩
set_option maxRecDepth 100000 in
theorem w401 : (Cond.code yR_start cR_start 4 none) ∈ wsA := List.mem_filter.mpr ⟨List.mem_of_getElem? (i := 401) rfl, rfl⟩
set_option maxRecDepth 100000 in
theorem w402 : (Cond.methodLink "LoggedStore$Transaction" 33 yT_copyAll) ∈ wsA := List.mem_filter.mpr ⟨List.mem_of_getElem? (i := 402) rfl, rfl⟩
set_option maxRecDepth 100000 in
theorem w403 : (Cond.instanceMethod yT_copyAll) ∈ wsA := List.mem_filter.mpr ⟨List.mem_of_getElem? (i := 403) rfl, rfl⟩
set_option maxRecDepth 100000 in
theorem w404 : (Cond.selects "LoggedStore$Table" yT_copyAll yT_copyAll) ∈ wsA := List.mem_filter.mpr ⟨List.mem_of_getElem? (i := 404) rfl, rfl⟩
set_option maxRecDepth 100000 in
theorem w405 : (Cond.code yT_copyAll cT_copyAll 3 none) ∈ wsA := List.mem_filter.mpr ⟨List.mem_of_getElem? (i := 405) rfl, rfl⟩
set_option maxRecDepth 100000 in
theorem w482 : (Cond.methodLink "LoggedStore" 93 yT_keyFrom) ∈ wsA := List.mem_filter.mpr ⟨List.mem_of_getElem? (i := 482) rfl, rfl⟩
set_option maxRecDepth 100000 in
theorem w483 : (Cond.instanceMethod yT_keyFrom) ∈ wsA := List.mem_filter.mpr ⟨List.mem_of_getElem? (i := 483) rfl, rfl⟩
set_option maxRecDepth 100000 in
theorem w484 : (Cond.selects "LoggedStore$Table" yT_keyFrom yT_keyFrom) ∈ wsA := List.mem_filter.mpr ⟨List.mem_of_getElem? (i := 484) rfl, rfl⟩
set_option maxRecDepth 100000 in
theorem w485 : (Cond.code yT_keyFrom cT_keyFrom 3 (some .int)) ∈ wsA := List.mem_filter.mpr ⟨List.mem_of_getElem? (i := 485) rfl, rfl⟩
set_option maxRecDepth 100000 in
theorem w539 : (Cond.methodLink "LoggedStore" 140 yD_writeChecked) ∈ wsA := List.mem_filter.mpr ⟨List.mem_of_getElem? (i := 539) rfl, rfl⟩
set_option maxRecDepth 100000 in
theorem w540 : (Cond.instanceMethod yD_writeChecked) ∈ wsA := List.mem_filter.mpr ⟨List.mem_of_getElem? (i := 540) rfl, rfl⟩
set_option maxRecDepth 100000 in
theorem w541 : (Cond.selects "LoggedStore$Disk" yD_writeChecked yD_writeChecked) ∈ wsA := List.mem_filter.mpr ⟨List.mem_of_getElem? (i := 541) rfl, rfl⟩
set_option maxRecDepth 100000 in
theorem w542 : (Cond.code yD_writeChecked cD_writeChecked 5 none) ∈ wsA := List.mem_filter.mpr ⟨List.mem_of_getElem? (i := 542) rfl, rfl⟩
set_option maxRecDepth 100000 in
theorem w543 : (Cond.methodLink "LoggedStore$Disk" 50 yD_write) ∈ wsA := List.mem_filter.mpr ⟨List.mem_of_getElem? (i := 543) rfl, rfl⟩
set_option maxRecDepth 100000 in
theorem w544 : (Cond.instanceMethod yD_write) ∈ wsA := List.mem_filter.mpr ⟨List.mem_of_getElem? (i := 544) rfl, rfl⟩
set_option maxRecDepth 100000 in
theorem w545 : (Cond.selects "LoggedStore$Disk" yD_write yD_write) ∈ wsA := List.mem_filter.mpr ⟨List.mem_of_getElem? (i := 545) rfl, rfl⟩
set_option maxRecDepth 100000 in
theorem w546 : (Cond.code yD_write cD_write 6 none) ∈ wsA := List.mem_filter.mpr ⟨List.mem_of_getElem? (i := 546) rfl, rfl⟩
set_option maxRecDepth 100000 in
theorem w566 : (Cond.code yS_checkpoint cS_checkpoint 3 (some .int)) ∈ wsA := List.mem_filter.mpr ⟨List.mem_of_getElem? (i := 566) rfl, rfl⟩
set_option maxRecDepth 100000 in
theorem w567 : (Cond.methodLink "LoggedStore" 131 yS_writeArea) ∈ wsA := List.mem_filter.mpr ⟨List.mem_of_getElem? (i := 567) rfl, rfl⟩
set_option maxRecDepth 100000 in
theorem w569 : (Cond.instanceMethod yS_writeArea) ∈ wsA := List.mem_filter.mpr ⟨List.mem_of_getElem? (i := 569) rfl, rfl⟩
set_option maxRecDepth 100000 in
theorem w570 : (Cond.code yS_writeArea cS_writeArea 6 none) ∈ wsA := List.mem_filter.mpr ⟨List.mem_of_getElem? (i := 570) rfl, rfl⟩
theorem dT_keyFrom_0 : decode cT_keyFrom 0 = .ok (.iload_n 1, 1) := by decide +kernel
theorem dT_keyFrom_1 : decode cT_keyFrom 1 = .ok (.istore_n 2, 1) := by decide +kernel
theorem dT_keyFrom_2 : decode cT_keyFrom 2 = .ok (.iload_n 2, 1) := by decide +kernel
theorem dT_keyFrom_3 : decode cT_keyFrom 3 = .ok (.bipush 64, 2) := by decide +kernel
theorem dT_keyFrom_5 : decode cT_keyFrom 5 = .ok (.if_icmp .ge 20, 3) := by decide +kernel
theorem dT_keyFrom_8 : decode cT_keyFrom 8 = .ok (.aload_n 0, 1) := by decide +kernel
theorem dT_keyFrom_9 : decode cT_keyFrom 9 = .ok (.getfield 9, 3) := by decide +kernel
theorem dT_keyFrom_12 : decode cT_keyFrom 12 = .ok (.iload_n 2, 1) := by decide +kernel
theorem dT_keyFrom_13 : decode cT_keyFrom 13 = .ok (.baload, 1) := by decide +kernel
theorem dT_keyFrom_14 : decode cT_keyFrom 14 = .ok (.ifCond .eq 5, 3) := by decide +kernel
theorem dT_keyFrom_19 : decode cT_keyFrom 19 = .ok (.iinc 2 1, 3) := by decide +kernel
theorem dT_keyFrom_22 : decode cT_keyFrom 22 = .ok (.goto (-20), 3) := by decide +kernel
theorem dT_keyFrom_25 : decode cT_keyFrom 25 = .ok (.iconst (-1), 1) := by decide +kernel
theorem dT_keyFrom_26 : decode cT_keyFrom 26 = .ok (.ireturn, 1) := by decide +kernel
theorem dS_writeArea_0 : decode cS_writeArea 0 = .ok (.iload_n 1, 1) := by decide +kernel
theorem dS_writeArea_1 : decode cS_writeArea 1 = .ok (.invokestatic 214, 3) := by decide +kernel
theorem dS_writeArea_4 : decode cS_writeArea 4 = .ok (.istore_n 2, 1) := by decide +kernel
theorem dS_writeArea_5 : decode cS_writeArea 5 = .ok (.aload_n 0, 1) := by decide +kernel
theorem dS_writeArea_6 : decode cS_writeArea 6 = .ok (.getfield 19, 3) := by decide +kernel
theorem dS_writeArea_9 : decode cS_writeArea 9 = .ok (.iconst 0, 1) := by decide +kernel
theorem dS_writeArea_10 : decode cS_writeArea 10 = .ok (.invokevirtual 93, 3) := by decide +kernel
theorem dS_writeArea_13 : decode cS_writeArea 13 = .ok (.istore_n 3, 1) := by decide +kernel
theorem dS_writeArea_14 : decode cS_writeArea 14 = .ok (.iconst 0, 1) := by decide +kernel
theorem dS_writeArea_15 : decode cS_writeArea 15 = .ok (.istore 4, 2) := by decide +kernel
theorem dS_writeArea_17 : decode cS_writeArea 17 = .ok (.iload 4, 2) := by decide +kernel
theorem dS_writeArea_19 : decode cS_writeArea 19 = .ok (.bipush 10, 2) := by decide +kernel
theorem dS_writeArea_21 : decode cS_writeArea 21 = .ok (.if_icmp .ge 103, 3) := by decide +kernel
theorem dS_writeArea_24 : decode cS_writeArea 24 = .ok (.iload_n 3, 1) := by decide +kernel
theorem dS_writeArea_25 : decode cS_writeArea 25 = .ok (.ifCond .lt 99, 3) := by decide +kernel
theorem dS_writeArea_124 : decode cS_writeArea 124 = .ok (.return_, 1) := by decide +kernel
theorem dD_write_0 : decode cD_write 0 = .ok (.aload_n 0, 1) := by decide +kernel
theorem dD_write_1 : decode cD_write 1 = .ok (.getfield 15, 3) := by decide +kernel
theorem dD_write_4 : decode cD_write 4 = .ok (.ifCond .ne 33, 3) := by decide +kernel
theorem dD_write_37 : decode cD_write 37 = .ok (.aload_n 0, 1) := by decide +kernel
theorem dD_write_38 : decode cD_write 38 = .ok (.getfield 15, 3) := by decide +kernel
theorem dD_write_41 : decode cD_write 41 = .ok (.ifCond .le 13, 3) := by decide +kernel
theorem dD_write_54 : decode cD_write 54 = .ok (.aload_n 0, 1) := by decide +kernel
theorem dD_write_55 : decode cD_write 55 = .ok (.iload_n 1, 1) := by decide +kernel
theorem dD_write_56 : decode cD_write 56 = .ok (.iconst 4, 1) := by decide +kernel
theorem dD_write_57 : decode cD_write 57 = .ok (.iload_n 2, 1) := by decide +kernel
theorem dD_write_58 : decode cD_write 58 = .ok (.iload_n 3, 1) := by decide +kernel
theorem dD_write_59 : decode cD_write 59 = .ok (.iload 4, 2) := by decide +kernel
theorem dD_write_61 : decode cD_write 61 = .ok (.iload 5, 2) := by decide +kernel
theorem dD_write_63 : decode cD_write 63 = .ok (.invokevirtual 34, 3) := by decide +kernel
theorem dD_write_66 : decode cD_write 66 = .ok (.return_, 1) := by decide +kernel
theorem dD_writeChecked_0 : decode cD_writeChecked 0 = .ok (.aload_n 0, 1) := by decide +kernel
theorem dD_writeChecked_1 : decode cD_writeChecked 1 = .ok (.iload_n 1, 1) := by decide +kernel
theorem dD_writeChecked_2 : decode cD_writeChecked 2 = .ok (.iload_n 2, 1) := by decide +kernel
theorem dD_writeChecked_3 : decode cD_writeChecked 3 = .ok (.iload_n 3, 1) := by decide +kernel
theorem dD_writeChecked_4 : decode cD_writeChecked 4 = .ok (.iload 4, 2) := by decide +kernel
theorem dD_writeChecked_6 : decode cD_writeChecked 6 = .ok (.iload_n 1, 1) := by decide +kernel
theorem dD_writeChecked_7 : decode cD_writeChecked 7 = .ok (.iload_n 2, 1) := by decide +kernel
theorem dD_writeChecked_8 : decode cD_writeChecked 8 = .ok (.iload_n 3, 1) := by decide +kernel
theorem dD_writeChecked_9 : decode cD_writeChecked 9 = .ok (.iload 4, 2) := by decide +kernel
theorem dD_writeChecked_11 : decode cD_writeChecked 11 = .ok (.invokestatic 30, 3) := by decide +kernel
theorem dD_writeChecked_14 : decode cD_writeChecked 14 = .ok (.invokevirtual 50, 3) := by decide +kernel
theorem dD_writeChecked_17 : decode cD_writeChecked 17 = .ok (.return_, 1) := by decide +kernel
theorem dS_checkpoint_0 : decode cS_checkpoint 0 = .ok (.aload_n 0, 1) := by decide +kernel
theorem dS_checkpoint_1 : decode cS_checkpoint 1 = .ok (.invokevirtual 50, 3) := by decide +kernel
theorem dS_checkpoint_4 : decode cS_checkpoint 4 = .ok (.iconst 1, 1) := by decide +kernel
theorem dS_checkpoint_5 : decode cS_checkpoint 5 = .ok (.aload_n 0, 1) := by decide +kernel
theorem dS_checkpoint_6 : decode cS_checkpoint 6 = .ok (.getfield 40, 3) := by decide +kernel
theorem dS_checkpoint_9 : decode cS_checkpoint 9 = .ok (.isub, 1) := by decide +kernel
theorem dS_checkpoint_10 : decode cS_checkpoint 10 = .ok (.istore_n 1, 1) := by decide +kernel
theorem dS_checkpoint_11 : decode cS_checkpoint 11 = .ok (.aload_n 0, 1) := by decide +kernel
theorem dS_checkpoint_12 : decode cS_checkpoint 12 = .ok (.getfield 37, 3) := by decide +kernel
theorem dS_checkpoint_15 : decode cS_checkpoint 15 = .ok (.iconst 1, 1) := by decide +kernel
theorem dS_checkpoint_16 : decode cS_checkpoint 16 = .ok (.iadd, 1) := by decide +kernel
theorem dS_checkpoint_17 : decode cS_checkpoint 17 = .ok (.istore_n 2, 1) := by decide +kernel
theorem dS_checkpoint_18 : decode cS_checkpoint 18 = .ok (.aload_n 0, 1) := by decide +kernel
theorem dS_checkpoint_19 : decode cS_checkpoint 19 = .ok (.iload_n 1, 1) := by decide +kernel
theorem dS_checkpoint_20 : decode cS_checkpoint 20 = .ok (.invokevirtual 131, 3) := by decide +kernel
theorem dS_checkpoint_23 : decode cS_checkpoint 23 = .ok (.aload_n 0, 1) := by decide +kernel
theorem dS_checkpoint_24 : decode cS_checkpoint 24 = .ok (.getfield 10, 3) := by decide +kernel
theorem dS_checkpoint_27 : decode cS_checkpoint 27 = .ok (.iload_n 2, 1) := by decide +kernel
theorem dS_checkpoint_28 : decode cS_checkpoint 28 = .ok (.invokestatic 134, 3) := by decide +kernel
theorem dS_checkpoint_31 : decode cS_checkpoint 31 = .ok (.iload_n 2, 1) := by decide +kernel
theorem dS_checkpoint_32 : decode cS_checkpoint 32 = .ok (.bipush 64, 2) := by decide +kernel
theorem dS_checkpoint_34 : decode cS_checkpoint 34 = .ok (.iload_n 1, 1) := by decide +kernel
theorem dS_checkpoint_35 : decode cS_checkpoint 35 = .ok (.imul, 1) := by decide +kernel
theorem dS_checkpoint_36 : decode cS_checkpoint 36 = .ok (.aload_n 0, 1) := by decide +kernel
theorem dS_checkpoint_37 : decode cS_checkpoint 37 = .ok (.getfield 19, 3) := by decide +kernel
theorem dS_checkpoint_40 : decode cS_checkpoint 40 = .ok (.getfield 137, 3) := by decide +kernel
theorem dS_checkpoint_43 : decode cS_checkpoint 43 = .ok (.iadd, 1) := by decide +kernel
theorem dS_checkpoint_44 : decode cS_checkpoint 44 = .ok (.aload_n 0, 1) := by decide +kernel
theorem dS_checkpoint_45 : decode cS_checkpoint 45 = .ok (.getfield 33, 3) := by decide +kernel
theorem dS_checkpoint_48 : decode cS_checkpoint 48 = .ok (.invokevirtual 140, 3) := by decide +kernel
theorem dS_checkpoint_51 : decode cS_checkpoint 51 = .ok (.aload_n 0, 1) := by decide +kernel
theorem dS_checkpoint_52 : decode cS_checkpoint 52 = .ok (.iload_n 1, 1) := by decide +kernel
theorem dS_checkpoint_53 : decode cS_checkpoint 53 = .ok (.putfield 40, 3) := by decide +kernel
theorem dS_checkpoint_56 : decode cS_checkpoint 56 = .ok (.aload_n 0, 1) := by decide +kernel
theorem dS_checkpoint_57 : decode cS_checkpoint 57 = .ok (.iload_n 2, 1) := by decide +kernel
theorem dS_checkpoint_58 : decode cS_checkpoint 58 = .ok (.putfield 37, 3) := by decide +kernel
theorem dS_checkpoint_61 : decode cS_checkpoint 61 = .ok (.aload_n 0, 1) := by decide +kernel
theorem dS_checkpoint_62 : decode cS_checkpoint 62 = .ok (.bipush 22, 2) := by decide +kernel
theorem dS_checkpoint_64 : decode cS_checkpoint 64 = .ok (.putfield 43, 3) := by decide +kernel
theorem dS_checkpoint_67 : decode cS_checkpoint 67 = .ok (.aload_n 0, 1) := by decide +kernel
theorem dS_checkpoint_68 : decode cS_checkpoint 68 = .ok (.getfield 37, 3) := by decide +kernel
theorem dS_checkpoint_71 : decode cS_checkpoint 71 = .ok (.ireturn, 1) := by decide +kernel
theorem dT_copyAll_0 : decode cT_copyAll 0 = .ok (.iconst 0, 1) := by decide +kernel
theorem dT_copyAll_1 : decode cT_copyAll 1 = .ok (.istore_n 2, 1) := by decide +kernel
theorem dT_copyAll_2 : decode cT_copyAll 2 = .ok (.iload_n 2, 1) := by decide +kernel
theorem dT_copyAll_3 : decode cT_copyAll 3 = .ok (.bipush 64, 2) := by decide +kernel
theorem dT_copyAll_5 : decode cT_copyAll 5 = .ok (.if_icmp .ge 33, 3) := by decide +kernel
theorem dT_copyAll_8 : decode cT_copyAll 8 = .ok (.aload_n 0, 1) := by decide +kernel
theorem dT_copyAll_9 : decode cT_copyAll 9 = .ok (.getfield 9, 3) := by decide +kernel
theorem dT_copyAll_12 : decode cT_copyAll 12 = .ok (.iload_n 2, 1) := by decide +kernel
theorem dT_copyAll_13 : decode cT_copyAll 13 = .ok (.aload_n 1, 1) := by decide +kernel
theorem dT_copyAll_14 : decode cT_copyAll 14 = .ok (.getfield 9, 3) := by decide +kernel
theorem dT_copyAll_17 : decode cT_copyAll 17 = .ok (.iload_n 2, 1) := by decide +kernel
theorem dT_copyAll_18 : decode cT_copyAll 18 = .ok (.baload, 1) := by decide +kernel
theorem dT_copyAll_19 : decode cT_copyAll 19 = .ok (.bastore, 1) := by decide +kernel
theorem dT_copyAll_20 : decode cT_copyAll 20 = .ok (.aload_n 0, 1) := by decide +kernel
theorem dT_copyAll_21 : decode cT_copyAll 21 = .ok (.getfield 15, 3) := by decide +kernel
theorem dT_copyAll_24 : decode cT_copyAll 24 = .ok (.iload_n 2, 1) := by decide +kernel
theorem dT_copyAll_25 : decode cT_copyAll 25 = .ok (.aload_n 1, 1) := by decide +kernel
theorem dT_copyAll_26 : decode cT_copyAll 26 = .ok (.getfield 15, 3) := by decide +kernel
theorem dT_copyAll_29 : decode cT_copyAll 29 = .ok (.iload_n 2, 1) := by decide +kernel
theorem dT_copyAll_30 : decode cT_copyAll 30 = .ok (.iaload, 1) := by decide +kernel
theorem dT_copyAll_31 : decode cT_copyAll 31 = .ok (.iastore, 1) := by decide +kernel
theorem dT_copyAll_32 : decode cT_copyAll 32 = .ok (.iinc 2 1, 3) := by decide +kernel
theorem dT_copyAll_35 : decode cT_copyAll 35 = .ok (.goto (-33), 3) := by decide +kernel
theorem dT_copyAll_38 : decode cT_copyAll 38 = .ok (.aload_n 0, 1) := by decide +kernel
theorem dT_copyAll_39 : decode cT_copyAll 39 = .ok (.aload_n 1, 1) := by decide +kernel
theorem dT_copyAll_40 : decode cT_copyAll 40 = .ok (.getfield 19, 3) := by decide +kernel
theorem dT_copyAll_43 : decode cT_copyAll 43 = .ok (.putfield 19, 3) := by decide +kernel
theorem dT_copyAll_46 : decode cT_copyAll 46 = .ok (.return_, 1) := by decide +kernel
theorem dR_start_0 : decode cR_start 0 = .ok (.aload_n 0, 1) := by decide +kernel
theorem dR_start_1 : decode cR_start 1 = .ok (.getfield 12, 3) := by decide +kernel
theorem dR_start_4 : decode cR_start 4 = .ok (.aload_n 1, 1) := by decide +kernel
theorem dR_start_5 : decode cR_start 5 = .ok (.invokevirtual 33, 3) := by decide +kernel
theorem dR_start_8 : decode cR_start 8 = .ok (.iconst 0, 1) := by decide +kernel
theorem dR_start_9 : decode cR_start 9 = .ok (.istore_n 3, 1) := by decide +kernel
theorem dR_start_10 : decode cR_start 10 = .ok (.iload_n 3, 1) := by decide +kernel
theorem dR_start_11 : decode cR_start 11 = .ok (.bipush 64, 2) := by decide +kernel
theorem dR_start_13 : decode cR_start 13 = .ok (.if_icmp .ge 16, 3) := by decide +kernel
theorem dR_start_16 : decode cR_start 16 = .ok (.aload_n 0, 1) := by decide +kernel
theorem dR_start_17 : decode cR_start 17 = .ok (.getfield 18, 3) := by decide +kernel
theorem dR_start_20 : decode cR_start 20 = .ok (.iload_n 3, 1) := by decide +kernel
theorem dR_start_21 : decode cR_start 21 = .ok (.iconst 0, 1) := by decide +kernel
theorem dR_start_22 : decode cR_start 22 = .ok (.bastore, 1) := by decide +kernel
theorem dR_start_23 : decode cR_start 23 = .ok (.iinc 3 1, 3) := by decide +kernel
theorem dR_start_26 : decode cR_start 26 = .ok (.goto (-16), 3) := by decide +kernel
theorem dR_start_29 : decode cR_start 29 = .ok (.aload_n 0, 1) := by decide +kernel
theorem dR_start_30 : decode cR_start 30 = .ok (.iconst 0, 1) := by decide +kernel
theorem dR_start_31 : decode cR_start 31 = .ok (.putfield 22, 3) := by decide +kernel
theorem dR_start_34 : decode cR_start 34 = .ok (.aload_n 0, 1) := by decide +kernel
theorem dR_start_35 : decode cR_start 35 = .ok (.iload_n 2, 1) := by decide +kernel
theorem dR_start_36 : decode cR_start 36 = .ok (.putfield 26, 3) := by decide +kernel
theorem dR_start_39 : decode cR_start 39 = .ok (.aload_n 0, 1) := by decide +kernel
theorem dR_start_40 : decode cR_start 40 = .ok (.iconst 1, 1) := by decide +kernel
theorem dR_start_41 : decode cR_start 41 = .ok (.putfield 29, 3) := by decide +kernel
theorem dR_start_44 : decode cR_start 44 = .ok (.return_, 1) := by decide +kernel
theorem dD_limitWrites_0 : decode cD_limitWrites 0 = .ok (.aload_n 0, 1) := by decide +kernel
theorem dD_limitWrites_1 : decode cD_limitWrites 1 = .ok (.iload_n 1, 1) := by decide +kernel
theorem dD_limitWrites_2 : decode cD_limitWrites 2 = .ok (.ifCond .ge 7, 3) := by decide +kernel
theorem dD_limitWrites_5 : decode cD_limitWrites 5 = .ok (.iconst (-1), 1) := by decide +kernel
theorem dD_limitWrites_6 : decode cD_limitWrites 6 = .ok (.goto 4, 3) := by decide +kernel
theorem dD_limitWrites_9 : decode cD_limitWrites 9 = .ok (.iload_n 1, 1) := by decide +kernel
theorem dD_limitWrites_10 : decode cD_limitWrites 10 = .ok (.putfield 15, 3) := by decide +kernel
theorem dD_limitWrites_13 : decode cD_limitWrites 13 = .ok (.aload_n 0, 1) := by decide +kernel
theorem dD_limitWrites_14 : decode cD_limitWrites 14 = .ok (.iconst 0, 1) := by decide +kernel
theorem dD_limitWrites_15 : decode cD_limitWrites 15 = .ok (.iconst 3, 1) := by decide +kernel
theorem dD_limitWrites_16 : decode cD_limitWrites 16 = .ok (.iload_n 2, 1) := by decide +kernel
theorem dD_limitWrites_17 : decode cD_limitWrites 17 = .ok (.invokestatic 38, 3) := by decide +kernel
theorem dD_limitWrites_20 : decode cD_limitWrites 20 = .ok (.invokestatic 44, 3) := by decide +kernel
theorem dD_limitWrites_23 : decode cD_limitWrites 23 = .ok (.putfield 19, 3) := by decide +kernel
theorem dD_limitWrites_26 : decode cD_limitWrites 26 = .ok (.return_, 1) := by decide +kernel
theorem dS_arm_0 : decode cS_arm 0 = .ok (.aload_n 0, 1) := by decide +kernel
theorem dS_arm_1 : decode cS_arm 1 = .ok (.getfield 10, 3) := by decide +kernel
theorem dS_arm_4 : decode cS_arm 4 = .ok (.iload_n 1, 1) := by decide +kernel
theorem dS_arm_5 : decode cS_arm 5 = .ok (.iload_n 2, 1) := by decide +kernel
theorem dS_arm_6 : decode cS_arm 6 = .ok (.invokevirtual 147, 3) := by decide +kernel
theorem dS_arm_9 : decode cS_arm 9 = .ok (.return_, 1) := by decide +kernel
set_option maxHeartbeats 4000000 in
set_option maxRecDepth 100000 in
theorem c_keyFrom (l : Launch) (dC : Nat → ClassId) (dI : Nat → Nat → Nat) (cI cZ cJ cT : ClassId) (tb hs ns : Nat) : Met l yT_keyFrom (Cond.code yT_keyFrom cT_keyFrom 3 (some .int) :: wsA) ({ frames := 0, cells := 0, slots := 0, locals := 0 }) (va_Pc [.ref tb, .int 0] (fun U => va_P (dC, dI) vwC [(tb, .inr (1, [.ref hs, .ref ns, .int 0])), (hs, .inl (cZ, 64, .inl (fun _ => 0)))] U.heap ∧ KK dC dI cI cZ cJ cT U)) (vp_Si (fun r => r = (-1))) 0 0 (fun _ => False) := by
  refine Met.ofW (cc := cT_keyFrom) (maxL := 3) (ret := (some .int)) (by decide) rfl ?_
  intro p e s m args below meth c s₁ B hml hv
  obtain ⟨rfl, hP, hKK⟩ := hv
  have hK := hKK.1
  have hx := B.exec
  have hb := B.bytes
  have hr := B.returns
  have hw : ∀ w ∈ wsA, w.before _ s = true := fun w h => atoms_spec (ws := (Cond.code yT_keyFrom cT_keyFrom 3 (some .int) :: wsA)) B.pre w (List.mem_cons_of_mem _ h)
  have hown : s.vm.findClass "LoggedStore$Table" = some m.cls := findClass_of_methodNamed B.named
  have hlocks := B.notSynchronized
  have hl := lv_entry ([.ref tb, .int 0]) (n := 3) (Nat.le_of_ble_eq_true rfl)
  rw [lg_entry_eq]
  generalize (lg_sl ([.ref tb, .int 0]) ++ List.replicate (3 - (lg_sl ([.ref tb, .int 0])).length) Slot.unset).toArray = ls at hl ⊢
  have hl : lv_has ls 3 [(0, .ref tb), (1, .int 0)] := hl
  refine lv_iload_n hx hb dT_keyFrom_0 rfl (lv_at hl 1 rfl) ?_
  refine lv_istore_n hx hb dT_keyFrom_1 rfl hl (by decide) rfl (fun ls hl => ?_)
  have hl : lv_has ls 3 [(2, .int 0), (0, .ref tb), (1, .int 0)] := hl
  refine tk_for (nL := 3) (G := fun ls => W p l e _ s m _ below meth c _ _ _ _ _ (F0 m 2 ls [])) (fun i => [(2, .int (nI i)), (0, .ref tb), (1, .int 0)]) 64 ?_ ?_ ls hl
  · intro ls hl
    have hl : lv_has ls 3 [(2, .int (nI 64)), (0, .ref tb), (1, .int 0)] := hl
    refine lv_iload_n hx hb dT_keyFrom_2 rfl (lv_at hl 0 rfl) ?_
    refine lv_bipush (v := 64) hx hb dT_keyFrom_3 (by decide) ?_
    refine lv_icmp_ge (tgt := 25) hx hb dT_keyFrom_5 (by decide) (fun _ => ?_) (fun h9 => absurd (by decide +kernel) h9)
    refine lv_iconst (v := (-1)) hx hb dT_keyFrom_25 (by decide) ?_
    exact W.iret (v := (-1)) hx hb hr (fun t ht hW => ⟨(-1), rfl, rfl, ht⟩) (fun q h => by cases h) dT_keyFrom_26
  · intro i hi ls hl ih
    have hl : lv_has ls 3 [(2, .int (nI i)), (0, .ref tb), (1, .int 0)] := hl
    refine lv_iload_n hx hb dT_keyFrom_2 rfl (lv_at hl 0 rfl) ?_
    refine lv_bipush (v := 64) hx hb dT_keyFrom_3 (by decide) ?_
    refine lv_icmp_ge (tgt := 25) hx hb dT_keyFrom_5 (by decide) (fun h9 => absurd h9 (nI_ge hi (by decide))) (fun _ => ?_)
    refine lv_aload_n hx hb dT_keyFrom_8 rfl (lv_at hl 1 rfl) ?_
    refine va_get (D := (dC, dI)) (ci := 1) (v := .ref hs) (C := "LoggedStore$Table") (T := uT) (N := 3) hx hb hw inT hown hK hP 0 rfl rfl 0 (by decide) (hw _ w90) (fun _ h9 => h9) rfl dT_keyFrom_9 ?_
    refine lv_iload_n hx hb dT_keyFrom_12 rfl (lv_at hl 0 rfl) ?_
    refine va_zald hx hb hK hP 1 1 rfl rfl (vp_in_nI hi (by decide)) dT_keyFrom_13 ?_
    refine lv_topi (nm_r (e' := 0) (rfl) ?_)
    refine lv_if_eq (tgt := 19) hx hb dT_keyFrom_14 (by decide) (fun _ => ?_) (fun h9 => absurd (by decide) h9)
    refine lv_iinc (k := 0) (v := nI (i + 1)) hx hb dT_keyFrom_19 hl rfl (nI_1 i) (by decide) rfl (fun ls hl => ?_)
    have hl : lv_has ls 3 [(2, .int (nI (i + 1))), (0, .ref tb), (1, .int 0)] := hl
    refine lv_goto (tgt := 2) hx hb dT_keyFrom_22 (by decide) ?_
    exact ih ls hl

set_option maxHeartbeats 4000000 in
set_option maxRecDepth 100000 in
theorem c_writeArea (l : Launch) (dC : Nat → ClassId) (dI : Nat → Nat → Nat) (cI cZ cJ cT : ClassId) (x d w tb wa ts : Nat) (hs ns : Nat) : Met l yS_writeArea (Cond.code yS_writeArea cS_writeArea 6 none :: wsA) ({ frames := 1, cells := 0, slots := 0, locals := 22 }) (va_Pc [.ref x, .int 1] (fun U => va_P (dC, dI) vwC [(x, .inr (3, [.ref d, .ref tb, .ref wa, .ref ts, .int 0, .int 1, .int 0, .int 22])), (tb, .inr (1, [.ref hs, .ref ns, .int 0])), (hs, .inl (cZ, 64, .inl (fun _ => 0)))] U.heap ∧ KK dC dI cI cZ cJ cT U)) (va_Sv (fun _ => True)) 0 0 (fun _ => False) := by
  refine Met.ofW (cc := cS_writeArea) (maxL := 6) (ret := none) (by decide) rfl ?_
  intro p e s m args below meth c s₁ B hml hv
  obtain ⟨rfl, hP, hKK⟩ := hv
  have hK := hKK.1
  have hx := B.exec
  have hb := B.bytes
  have hr := B.returns
  have hw : ∀ w ∈ wsA, w.before _ s = true := fun w h => atoms_spec (ws := (Cond.code yS_writeArea cS_writeArea 6 none :: wsA)) B.pre w (List.mem_cons_of_mem _ h)
  have hown : s.vm.findClass "LoggedStore" = some m.cls := findClass_of_methodNamed B.named
  have hlocks := B.notSynchronized
  have hl := lv_entry ([.ref x, .int 1]) (n := 6) (Nat.le_of_ble_eq_true rfl)
  rw [lg_entry_eq]
  generalize (lg_sl ([.ref x, .int 1]) ++ List.replicate (6 - (lg_sl ([.ref x, .int 1])).length) Slot.unset).toArray = ls at hl ⊢
  have hl : lv_has ls 6 [(0, .ref x), (1, .int 1)] := hl
  refine lv_iload_n hx hb dS_writeArea_0 rfl (lv_at hl 1 rfl) ?_
  have hPc := hP.sub (ws' := []) [] rfl
  refine vp_callSi (W.runS (As := [.int 1]) (rest := []) ⟨hx, hb, hml, hown, hw⟩ (c_areaBegin1 l dC dI cI cZ cJ cT) ⟨callB_of 1 hw (gA0 w236) rfl rfl rfl (hw _ w40) (hw _ w234) (by decide +kernel) ⟨Nat.le_of_ble_eq_true rfl, Nat.le_of_ble_eq_true rfl⟩, (hw _ w235)⟩ ⟨kb_S, fun U hU hW => ⟨rfl, by rw [hU]; exact hPc, hKK.moved hW⟩⟩ rfl rfl hl.1 rfl (lv_room (Nat.le_of_ble_eq_true rfl)) dS_writeArea_1 ⟨Nat.le_of_ble_eq_true rfl, Nat.le_of_ble_eq_true rfl⟩) (fun r1 e2 => ?_)
  obtain rfl : r1 = 12 := e2
  refine lv_istore_n hx hb dS_writeArea_4 rfl hl (by decide) rfl (fun ls hl => ?_)
  have hl : lv_has ls 6 [(2, .int 12), (0, .ref x), (1, .int 1)] := hl
  refine lv_aload_n hx hb dS_writeArea_5 rfl (lv_at hl 1 rfl) ?_
  refine va_get (D := (dC, dI)) (ci := 3) (v := .ref tb) (C := "LoggedStore") (T := uS) (N := 8) hx hb hw inS hown hK hP 0 rfl rfl 1 (by decide) (hw _ w155) (fun _ h9 => h9) rfl dS_writeArea_6 ?_
  refine lv_iconst (v := 0) hx hb dS_writeArea_9 (by decide) ?_
  have hPc := hP.sub (ws' := [(tb, .inr (1, [.ref hs, .ref ns, .int 0])), (hs, .inl (cZ, 64, .inl (fun _ => 0)))]) [1, 2] rfl
  refine vp_callSi (W.runV (C := "LoggedStore$Table") (b := tb) (As := [.int 0]) (rest := []) ⟨hx, hb, hml, hown, hw⟩ (c_keyFrom l dC dI cI cZ cJ cT tb hs ns) ⟨callB_of 1 hw (gA0 w485) rfl rfl rfl (hw _ w42) (hw _ w482) (by decide +kernel) ⟨Nat.le_of_ble_eq_true rfl, Nat.le_of_ble_eq_true rfl⟩, (hw _ w483), (hw _ w484)⟩ ⟨kb_S, va_recv (ci := 1) (q0 := 1) hK hP rfl rfl, fun U hU hW => ⟨rfl, by rw [hU]; exact hPc, hKK.moved hW⟩⟩ rfl rfl hl.1 rfl (lv_room (Nat.le_of_ble_eq_true rfl)) dS_writeArea_10 ⟨Nat.le_of_ble_eq_true rfl, Nat.le_of_ble_eq_true rfl⟩) (fun r3 e4 => ?_)
  obtain rfl : r3 = (-1) := e4
  refine lv_istore_n hx hb dS_writeArea_13 rfl hl (by decide) rfl (fun ls hl => ?_)
  have hl : lv_has ls 6 [(3, .int (-1)), (2, .int 12), (0, .ref x), (1, .int 1)] := hl
  refine lv_iconst (v := 0) hx hb dS_writeArea_14 (by decide) ?_
  refine lv_istore hx hb dS_writeArea_15 hl (by decide) rfl (fun ls hl => ?_)
  have hl : lv_has ls 6 [(4, .int 0), (3, .int (-1)), (2, .int 12), (0, .ref x), (1, .int 1)] := hl
  refine lv_iload hx hb dS_writeArea_17 (lv_at hl 0 rfl) ?_
  refine lv_bipush (v := 10) hx hb dS_writeArea_19 (by decide) ?_
  refine lv_icmp_ge (tgt := 124) hx hb dS_writeArea_21 (by decide) (fun h9 => absurd h9 (by decide)) (fun _ => ?_)
  refine lv_iload_n hx hb dS_writeArea_24 rfl (lv_at hl 1 rfl) ?_
  refine lv_if_lt (tgt := 124) hx hb dS_writeArea_25 (by decide) (fun _ => ?_) (fun h9 => absurd (by decide) h9)
  exact W.vret hx hb hr (fun t ht hW => ⟨rfl, trivial, ht⟩) (fun q h => by cases h) dS_writeArea_124

set_option maxHeartbeats 4000000 in
set_option maxRecDepth 100000 in
theorem c_D_write (l : Launch) (dC : Nat → ClassId) (dI : Nat → Nat → Nat) (cI cZ cJ cT : ClassId) (d w : Nat) (a b c9 e9 : Int32) (f : Nat → Int32) (sz : Nat) : Met l yD_write (Cond.code yD_write cD_write 6 none :: wsA) ({ frames := 1, cells := 0, slots := 0, locals := 27 }) (va_Pc [.ref d, .int 1, .int a, .int b, .int c9, .int e9] (fun U => U.heap.size = sz ∧ va_P (dC, dI) vwC [(d, .inr (0, [.ref w, .int (-1), .int 0, .int 0])), (w, .inl (cI, 384, .inl f))] U.heap ∧ KK dC dI cI cZ cJ cT U ∧ va_D (fun _ => True) [(d, .inr (0, [.ref w, .int (-1), .int 0, .int 0])), (w, .inl (cI, 384, .inl f))])) (va_Qv (S := Nat → Nat) (fun _ => True) (fun u t => va_P (dC, dI) vwC [(d, .inr (0, [.ref w, .int (-1), .int 0, .int 0]))] t.heap ∧ va_D (va_A [(d, .inr (0, [.ref w, .int (-1), .int 0, .int 0])), (w, .inl (cI, 384, .inl f))] sz) [(d, .inr (0, [.ref w, .int (-1), .int 0, .int 0]))]) (va_A [(d, .inr (0, [.ref w, .int (-1), .int 0, .int 0])), (w, .inl (cI, 384, .inl f))] sz)) 0 0 (va_A [(d, .inr (0, [.ref w, .int (-1), .int 0, .int 0])), (w, .inl (cI, 384, .inl f))] sz) := by
  refine Met.ofW (cc := cD_write) (maxL := 6) (ret := none) (by decide) rfl ?_
  intro p e s m args below meth c s₁ B hml hv
  obtain ⟨rfl, hsz, hP, hKK, hD0⟩ := hv
  have hK := hKK.1
  have hx := B.exec
  have hb := B.bytes
  have hr := B.returns
  have hw : ∀ w ∈ wsA, w.before _ s = true := fun w h => atoms_spec (ws := (Cond.code yD_write cD_write 6 none :: wsA)) B.pre w (List.mem_cons_of_mem _ h)
  have hown : s.vm.findClass "LoggedStore$Disk" = some m.cls := findClass_of_methodNamed B.named
  have hlocks := B.notSynchronized
  subst hsz
  have hD := hD0.self (sz := s.heap.size)
  generalize hAe : va_A [(d, .inr (0, [.ref w, .int (-1), .int 0, .int 0])), (w, .inl (cI, 384, .inl f))] s.heap.size = A at hD ⊢
  have hA : ∀ q : Nat, s.heap.size ≤ q → A q := fun q h => by rw [← hAe]; exact Or.inr h
  have hS : va_S A s.heap s.heap [] := va_S.rf
  have hl := lv_entry ([.ref d, .int 1, .int a, .int b, .int c9, .int e9]) (n := 6) (Nat.le_of_ble_eq_true rfl)
  rw [lg_entry_eq]
  generalize (lg_sl ([.ref d, .int 1, .int a, .int b, .int c9, .int e9]) ++ List.replicate (6 - (lg_sl ([.ref d, .int 1, .int a, .int b, .int c9, .int e9])).length) Slot.unset).toArray = ls at hl ⊢
  have hl : lv_has ls 6 [(0, .ref d), (1, .int 1), (2, .int a), (3, .int b), (4, .int c9), (5, .int e9)] := hl
  refine lv_aload_n hx hb dD_write_0 rfl (lv_at hl 0 rfl) ?_
  refine va_get (D := (dC, dI)) (ci := 0) (v := .int (-1)) (C := "LoggedStore$Disk") (T := uD) (N := 4) hx hb hw inD hown hK hP 0 rfl rfl 1 (by decide) (hw _ w70) (fun _ h9 => h9) rfl dD_write_1 ?_
  refine lv_if_ne (tgt := 37) hx hb dD_write_4 (by decide) (fun _ => ?_) (fun h9 => absurd h9 (by decide))
  refine lv_aload_n hx hb dD_write_37 rfl (lv_at hl 0 rfl) ?_
  refine va_get (D := (dC, dI)) (ci := 0) (v := .int (-1)) (C := "LoggedStore$Disk") (T := uD) (N := 4) hx hb hw inD hown hK hP 0 rfl rfl 1 (by decide) (hw _ w70) (fun _ h9 => h9) rfl dD_write_38 ?_
  refine lv_if_le (tgt := 54) hx hb dD_write_41 (by decide) (fun _ => ?_) (fun h9 => absurd (by decide) h9)
  refine lv_aload_n hx hb dD_write_54 rfl (lv_at hl 0 rfl) ?_
  refine lv_iload_n hx hb dD_write_55 rfl (lv_at hl 1 rfl) ?_
  refine lv_iconst (v := 4) hx hb dD_write_56 (by decide) ?_
  refine lv_iload_n hx hb dD_write_57 rfl (lv_at hl 2 rfl) ?_
  refine lv_iload_n hx hb dD_write_58 rfl (lv_at hl 3 rfl) ?_
  refine lv_iload hx hb dD_write_59 (lv_at hl 4 rfl) ?_
  refine lv_iload hx hb dD_write_61 (lv_at hl 5 rfl) ?_
  have hPc := hP.sub (ws' := [(d, .inr (0, [.ref w, .int (-1), .int 0, .int 0])), (w, .inl (cI, 384, .inl f))]) [0, 1] rfl
  have hDc := hD.sub (ws' := [(d, .inr (0, [.ref w, .int (-1), .int 0, .int 0])), (w, .inl (cI, 384, .inl f))]) [0, 1] (by decide) rfl
  have hFc := va_free (wc := [(d, .inr (0, [.ref w, .int (-1), .int 0, .int 0])), (w, .inl (cI, 384, .inl f))]) hD hS hA [0, 1] rfl
  refine va_callv (va_runV (C := "LoggedStore$Disk") (b := d) (As := [.int 1, .int 4, .int a, .int b, .int c9, .int e9]) (rest := []) ⟨hx, hb, hml, hown, hw⟩ (c_setWords1 l dC dI cI cZ cJ cT d w a b c9 e9 f s.heap.size) ⟨callB_of 6 hw (gA0 w153) rfl rfl rfl (hw _ w41) (hw _ w150) (by decide +kernel) ⟨Nat.le_of_ble_eq_true rfl, Nat.le_of_ble_eq_true rfl⟩, (hw _ w152), (hw _ w0)⟩ ⟨kb_Q, va_recv (ci := 0) (q0 := 0) hK hP rfl rfl, fun U hU hW => ⟨rfl, by rw [hU], by rw [hU]; exact hPc, hKK.moved hW, hDc.weaken (fun _ _ _ _ => trivial)⟩⟩ rfl rfl hl.1 rfl (lv_room (Nat.le_of_ble_eq_true rfl)) dD_write_63 ⟨Nat.le_of_ble_eq_true rfl, Nat.le_of_ble_eq_true rfl⟩) hS (fun q _ h => hFc q h) hFc (fun u2 t H1 locs ht hvm he9 hB hz1 hk1 hS => ?_)
  obtain ⟨hP1, hD1⟩ := hB
  rw [ht] at hP1
  obtain ⟨hP, hD⟩ := va_join (wr := []) (w1 := [(d, .inr (0, [.ref w, .int (-1), .int 0, .int 0])), (w, .inl (cI, 384, .inl (upd (upd (upd (upd f (4 : Int32).toNatClampNeg a) (5 : Int32).toNatClampNeg b) (6 : Int32).toNatClampNeg c9) (7 : Int32).toNatClampNeg e9)))]) hP hD [0, 1] [] rfl rfl (by decide) (by decide) hk1 hFc hP1 hD1
  generalize H1 = H at hP hS ⊢
  have hP : va_P (dC, dI) vwC [(d, .inr (0, [.ref w, .int (-1), .int 0, .int 0])), (w, .inl (cI, 384, .inl (upd (upd (upd (upd f (4 : Int32).toNatClampNeg a) (5 : Int32).toNatClampNeg b) (6 : Int32).toNatClampNeg c9) (7 : Int32).toNatClampNeg e9)))] H := hP
  have hD : va_D A [(d, .inr (0, [.ref w, .int (-1), .int 0, .int 0])), (w, .inl (cI, 384, .inl (upd (upd (upd (upd f (4 : Int32).toNatClampNeg a) (5 : Int32).toNatClampNeg b) (6 : Int32).toNatClampNeg c9) (7 : Int32).toNatClampNeg e9)))] := hD
  have hP9 := hP.sub (ws' := [(d, .inr (0, [.ref w, .int (-1), .int 0, .int 0]))]) [0] rfl
  have hD9 := hD.sub (ws' := [(d, .inr (0, [.ref w, .int (-1), .int 0, .int 0]))]) [0] (by decide) rfl
  refine W.widen (k := 0) (n := 0) (by decide) (by decide) ?_
  exact W.vret hx hb hr (fun t ht hW => ⟨⟨fun _ => 0, rfl, trivial, by rw [ht]; exact hP9, hD9⟩, hS.F ht⟩) hS.2.2 dD_write_66

set_option maxHeartbeats 4000000 in
set_option maxRecDepth 100000 in
theorem c_D_writeChecked (l : Launch) (dC : Nat → ClassId) (dI : Nat → Nat → Nat) (cI cZ cJ cT : ClassId) (d w : Nat) (f : Nat → Int32) (sz : Nat) : Met l yD_writeChecked (Cond.code yD_writeChecked cD_writeChecked 5 none :: wsA) ({ frames := 2, cells := 0, slots := 0, locals := 52 }) (va_Pc [.ref d, .int 1, .int 2, .int 64, .int 0] (fun U => U.heap.size = sz ∧ va_P (dC, dI) vwC [(d, .inr (0, [.ref w, .int (-1), .int 0, .int 0])), (w, .inl (cI, 384, .inl f))] U.heap ∧ KK dC dI cI cZ cJ cT U ∧ va_D (fun _ => True) [(d, .inr (0, [.ref w, .int (-1), .int 0, .int 0])), (w, .inl (cI, 384, .inl f))])) (va_Qv (S := Nat → Nat) (fun _ => True) (fun u t => va_P (dC, dI) vwC [(d, .inr (0, [.ref w, .int (-1), .int 0, .int 0]))] t.heap ∧ va_D (va_A [(d, .inr (0, [.ref w, .int (-1), .int 0, .int 0])), (w, .inl (cI, 384, .inl f))] sz) [(d, .inr (0, [.ref w, .int (-1), .int 0, .int 0]))]) (va_A [(d, .inr (0, [.ref w, .int (-1), .int 0, .int 0])), (w, .inl (cI, 384, .inl f))] sz)) 0 0 (va_A [(d, .inr (0, [.ref w, .int (-1), .int 0, .int 0])), (w, .inl (cI, 384, .inl f))] sz) := by
  refine Met.ofW (cc := cD_writeChecked) (maxL := 5) (ret := none) (by decide) rfl ?_
  intro p e s m args below meth c s₁ B hml hv
  obtain ⟨rfl, hsz, hP, hKK, hD0⟩ := hv
  have hK := hKK.1
  have hx := B.exec
  have hb := B.bytes
  have hr := B.returns
  have hw : ∀ w ∈ wsA, w.before _ s = true := fun w h => atoms_spec (ws := (Cond.code yD_writeChecked cD_writeChecked 5 none :: wsA)) B.pre w (List.mem_cons_of_mem _ h)
  have hown : s.vm.findClass "LoggedStore$Disk" = some m.cls := findClass_of_methodNamed B.named
  have hlocks := B.notSynchronized
  subst hsz
  have hD := hD0.self (sz := s.heap.size)
  generalize hAe : va_A [(d, .inr (0, [.ref w, .int (-1), .int 0, .int 0])), (w, .inl (cI, 384, .inl f))] s.heap.size = A at hD ⊢
  have hA : ∀ q : Nat, s.heap.size ≤ q → A q := fun q h => by rw [← hAe]; exact Or.inr h
  have hS : va_S A s.heap s.heap [] := va_S.rf
  have hl := lv_entry ([.ref d, .int 1, .int 2, .int 64, .int 0]) (n := 5) (Nat.le_of_ble_eq_true rfl)
  rw [lg_entry_eq]
  generalize (lg_sl ([.ref d, .int 1, .int 2, .int 64, .int 0]) ++ List.replicate (5 - (lg_sl ([.ref d, .int 1, .int 2, .int 64, .int 0])).length) Slot.unset).toArray = ls at hl ⊢
  have hl : lv_has ls 5 [(0, .ref d), (1, .int 1), (2, .int 2), (3, .int 64), (4, .int 0)] := hl
  refine lv_aload_n hx hb dD_writeChecked_0 rfl (lv_at hl 0 rfl) ?_
  refine lv_iload_n hx hb dD_writeChecked_1 rfl (lv_at hl 1 rfl) ?_
  refine lv_iload_n hx hb dD_writeChecked_2 rfl (lv_at hl 2 rfl) ?_
  refine lv_iload_n hx hb dD_writeChecked_3 rfl (lv_at hl 3 rfl) ?_
  refine lv_iload hx hb dD_writeChecked_4 (lv_at hl 4 rfl) ?_
  refine lv_iload_n hx hb dD_writeChecked_6 rfl (lv_at hl 1 rfl) ?_
  refine lv_iload_n hx hb dD_writeChecked_7 rfl (lv_at hl 2 rfl) ?_
  refine lv_iload_n hx hb dD_writeChecked_8 rfl (lv_at hl 3 rfl) ?_
  refine lv_iload hx hb dD_writeChecked_9 (lv_at hl 4 rfl) ?_
  have hPc := hP.sub (ws' := []) [] rfl
  refine vp_callSi (W.runS (As := [.int 1, .int 2, .int 64, .int 0]) (rest := [.int 0, .int 64, .int 2, .int 1, .ref d]) ⟨hx, hb, hml, hown, hw⟩ (c_chk l dC dI cI cZ cJ cT 1 2 64 0) ⟨callB_of 4 hw (gA0 w146) rfl rfl rfl (hw _ w41) (hw _ w144) (by decide +kernel) ⟨Nat.le_of_ble_eq_true rfl, Nat.le_of_ble_eq_true rfl⟩, (hw _ w145)⟩ ⟨kb_S, fun U hU hW => ⟨rfl, by rw [hU]; exact hPc, hKK.moved hW⟩⟩ rfl rfl hl.1 rfl (lv_room (Nat.le_of_ble_eq_true rfl)) dD_writeChecked_11 ⟨Nat.le_of_ble_eq_true rfl, Nat.le_of_ble_eq_true rfl⟩) (fun r1 e2 => ?_)
  obtain rfl : r1 = 1013773184 := e2.trans (by decide +kernel)
  have hPc := hP.sub (ws' := [(d, .inr (0, [.ref w, .int (-1), .int 0, .int 0])), (w, .inl (cI, 384, .inl f))]) [0, 1] rfl
  have hDc := hD.sub (ws' := [(d, .inr (0, [.ref w, .int (-1), .int 0, .int 0])), (w, .inl (cI, 384, .inl f))]) [0, 1] (by decide) rfl
  have hFc := va_free (wc := [(d, .inr (0, [.ref w, .int (-1), .int 0, .int 0])), (w, .inl (cI, 384, .inl f))]) hD hS hA [0, 1] rfl
  refine va_callv (va_runV (C := "LoggedStore$Disk") (b := d) (As := [.int 1, .int 2, .int 64, .int 0, .int 1013773184]) (rest := []) ⟨hx, hb, hml, hown, hw⟩ (c_D_write l dC dI cI cZ cJ cT d w 2 64 0 1013773184 f s.heap.size) ⟨callB_of 5 hw (gA0 w546) rfl rfl rfl (hw _ w41) (hw _ w543) (by decide +kernel) ⟨Nat.le_of_ble_eq_true rfl, Nat.le_of_ble_eq_true rfl⟩, (hw _ w544), (hw _ w545)⟩ ⟨kb_Q, va_recv (ci := 0) (q0 := 0) hK hP rfl rfl, fun U hU hW => ⟨rfl, by rw [hU], by rw [hU]; exact hPc, hKK.moved hW, hDc.weaken (fun _ _ _ _ => trivial)⟩⟩ rfl rfl hl.1 rfl (lv_room (Nat.le_of_ble_eq_true rfl)) dD_writeChecked_14 ⟨Nat.le_of_ble_eq_true rfl, Nat.le_of_ble_eq_true rfl⟩) hS (fun q _ h => hFc q h) hFc (fun u4 t H1 locs ht hvm he9 hB hz1 hk1 hS => ?_)
  obtain ⟨hP1, hD1⟩ := hB
  rw [ht] at hP1
  obtain ⟨hP, hD⟩ := va_join (wr := []) (w1 := [(d, .inr (0, [.ref w, .int (-1), .int 0, .int 0]))]) hP hD [0, 1] [] rfl rfl (by decide) (by decide) hk1 hFc hP1 hD1
  generalize H1 = H at hP hS ⊢
  have hP : va_P (dC, dI) vwC [(d, .inr (0, [.ref w, .int (-1), .int 0, .int 0]))] H := hP
  have hD : va_D A [(d, .inr (0, [.ref w, .int (-1), .int 0, .int 0]))] := hD
  have hP9 := hP.sub (ws' := [(d, .inr (0, [.ref w, .int (-1), .int 0, .int 0]))]) [0] rfl
  have hD9 := hD.sub (ws' := [(d, .inr (0, [.ref w, .int (-1), .int 0, .int 0]))]) [0] (by decide) rfl
  refine W.widen (k := 0) (n := 0) (by decide) (by decide) ?_
  exact W.vret hx hb hr (fun t ht hW => ⟨⟨fun _ => 0, rfl, trivial, by rw [ht]; exact hP9, hD9⟩, hS.F ht⟩) hS.2.2 dD_writeChecked_17

set_option maxHeartbeats 4000000 in
set_option maxRecDepth 100000 in
theorem c_checkpoint (l : Launch) (dC : Nat → ClassId) (dI : Nat → Nat → Nat) (cI cZ cJ cT : ClassId) (x d w tb wa ts : Nat) (hs ns : Nat) (sz : Nat) : Met l yS_checkpoint (Cond.code yS_checkpoint cS_checkpoint 3 (some .int) :: wsA) ({ frames := 3, cells := 0, slots := 0, locals := 76 }) (va_Pc [.ref x] (fun U => U.heap.size = sz ∧ va_P (dC, dI) vwC [(x, .inr (3, [.ref d, .ref tb, .ref wa, .ref ts, .int 0, .int 1, .int 0, .int 22])), (d, .inr (0, [.ref w, .int (-1), .int 0, .int 0])), (w, .inl (cI, 384, .inl W0)), (tb, .inr (1, [.ref hs, .ref ns, .int 0])), (hs, .inl (cZ, 64, .inl (fun _ => 0)))] U.heap ∧ KK dC dI cI cZ cJ cT U ∧ va_D (fun _ => True) [(x, .inr (3, [.ref d, .ref tb, .ref wa, .ref ts, .int 0, .int 1, .int 0, .int 22])), (d, .inr (0, [.ref w, .int (-1), .int 0, .int 0])), (w, .inl (cI, 384, .inl W0)), (tb, .inr (1, [.ref hs, .ref ns, .int 0])), (hs, .inl (cZ, 64, .inl (fun _ => 0)))])) (va_Qi (S := Nat → Nat) (fun r _ => r = 2) (fun _ _ => True) (va_A [(x, .inr (3, [.ref d, .ref tb, .ref wa, .ref ts, .int 0, .int 1, .int 0, .int 22])), (d, .inr (0, [.ref w, .int (-1), .int 0, .int 0])), (w, .inl (cI, 384, .inl W0)), (tb, .inr (1, [.ref hs, .ref ns, .int 0])), (hs, .inl (cZ, 64, .inl (fun _ => 0)))] sz)) 0 0 (va_A [(x, .inr (3, [.ref d, .ref tb, .ref wa, .ref ts, .int 0, .int 1, .int 0, .int 22])), (d, .inr (0, [.ref w, .int (-1), .int 0, .int 0])), (w, .inl (cI, 384, .inl W0)), (tb, .inr (1, [.ref hs, .ref ns, .int 0])), (hs, .inl (cZ, 64, .inl (fun _ => 0)))] sz) := by
  refine Met.ofW (cc := cS_checkpoint) (maxL := 3) (ret := (some .int)) (by decide) rfl ?_
  intro p e s m args below meth c s₁ B hml hv
  obtain ⟨rfl, hsz, hP, hKK, hD0⟩ := hv
  have hK := hKK.1
  have hx := B.exec
  have hb := B.bytes
  have hr := B.returns
  have hw : ∀ w ∈ wsA, w.before _ s = true := fun w h => atoms_spec (ws := (Cond.code yS_checkpoint cS_checkpoint 3 (some .int) :: wsA)) B.pre w (List.mem_cons_of_mem _ h)
  have hown : s.vm.findClass "LoggedStore" = some m.cls := findClass_of_methodNamed B.named
  have hlocks := B.notSynchronized
  subst hsz
  have hD := hD0.self (sz := s.heap.size)
  generalize hAe : va_A [(x, .inr (3, [.ref d, .ref tb, .ref wa, .ref ts, .int 0, .int 1, .int 0, .int 22])), (d, .inr (0, [.ref w, .int (-1), .int 0, .int 0])), (w, .inl (cI, 384, .inl W0)), (tb, .inr (1, [.ref hs, .ref ns, .int 0])), (hs, .inl (cZ, 64, .inl (fun _ => 0)))] s.heap.size = A at hD ⊢
  have hA : ∀ q : Nat, s.heap.size ≤ q → A q := fun q h => by rw [← hAe]; exact Or.inr h
  have hS : va_S A s.heap s.heap [] := va_S.rf
  have hl := lv_entry ([.ref x]) (n := 3) (Nat.le_of_ble_eq_true rfl)
  rw [lg_entry_eq]
  generalize (lg_sl ([.ref x]) ++ List.replicate (3 - (lg_sl ([.ref x])).length) Slot.unset).toArray = ls at hl ⊢
  have hl : lv_has ls 3 [(0, .ref x)] := hl
  refine lv_aload_n hx hb dS_checkpoint_0 rfl (lv_at hl 0 rfl) ?_
  have hPc := hP.sub (ws' := [(x, .inr (3, [.ref d, .ref tb, .ref wa, .ref ts, .int 0, .int 1, .int 0, .int 22])), (d, .inr (0, [.ref w, .int (-1), .int 0, .int 0]))]) [0, 1] rfl
  refine va_csv (W.runV (C := "LoggedStore") (b := x) (As := []) (rest := []) ⟨hx, hb, hml, hown, hw⟩ (c_requireUp l dC dI cI cZ cJ cT x d w tb wa ts) ⟨callB_of 0 hw (gA0 w292) rfl rfl rfl (hw _ w40) (hw _ w289) (by decide +kernel) ⟨Nat.le_of_ble_eq_true rfl, Nat.le_of_ble_eq_true rfl⟩, (hw _ w291), (hw _ w10)⟩ ⟨kb_S, va_recv (ci := 3) (q0 := 0) hK hP rfl rfl, fun U hU hW => ⟨rfl, by rw [hU]; exact hPc, hKK.moved hW⟩⟩ rfl rfl hl.1 rfl (lv_room (Nat.le_of_ble_eq_true rfl)) dS_checkpoint_1 ⟨Nat.le_of_ble_eq_true rfl, Nat.le_of_ble_eq_true rfl⟩) (fun _ => ?_)
  refine lv_iconst (v := 1) hx hb dS_checkpoint_4 (by decide) ?_
  refine lv_aload_n hx hb dS_checkpoint_5 rfl (lv_at hl 0 rfl) ?_
  refine va_get (D := (dC, dI)) (ci := 3) (v := .int 0) (C := "LoggedStore") (T := uS) (N := 8) hx hb hw inS hown hK hP 0 rfl rfl 6 (by decide) (hw _ w160) (fun _ h9 => h9) rfl dS_checkpoint_6 ?_
  refine lv_isub hx hb dS_checkpoint_9 ?_
  refine lv_topi (nm_r (e' := 1) (by decide +kernel) ?_)
  refine lv_istore_n hx hb dS_checkpoint_10 rfl hl (by decide) rfl (fun ls hl => ?_)
  have hl : lv_has ls 3 [(1, .int 1), (0, .ref x)] := hl
  refine lv_aload_n hx hb dS_checkpoint_11 rfl (lv_at hl 1 rfl) ?_
  refine va_get (D := (dC, dI)) (ci := 3) (v := .int 1) (C := "LoggedStore") (T := uS) (N := 8) hx hb hw inS hown hK hP 0 rfl rfl 5 (by decide) (hw _ w159) (fun _ h9 => h9) rfl dS_checkpoint_12 ?_
  refine lv_iconst (v := 1) hx hb dS_checkpoint_15 (by decide) ?_
  refine lv_iadd hx hb dS_checkpoint_16 ?_
  refine lv_topi (nm_r (e' := 2) (by decide +kernel) ?_)
  refine lv_istore_n hx hb dS_checkpoint_17 rfl hl (by decide) rfl (fun ls hl => ?_)
  have hl : lv_has ls 3 [(2, .int 2), (1, .int 1), (0, .ref x)] := hl
  refine lv_aload_n hx hb dS_checkpoint_18 rfl (lv_at hl 2 rfl) ?_
  refine lv_iload_n hx hb dS_checkpoint_19 rfl (lv_at hl 1 rfl) ?_
  have hPc := hP.sub (ws' := [(x, .inr (3, [.ref d, .ref tb, .ref wa, .ref ts, .int 0, .int 1, .int 0, .int 22])), (tb, .inr (1, [.ref hs, .ref ns, .int 0])), (hs, .inl (cZ, 64, .inl (fun _ => 0)))]) [0, 3, 4] rfl
  refine va_csv (W.runV (C := "LoggedStore") (b := x) (As := [.int 1]) (rest := []) ⟨hx, hb, hml, hown, hw⟩ (c_writeArea l dC dI cI cZ cJ cT x d w tb wa ts hs ns) ⟨callB_of 1 hw (gA0 w570) rfl rfl rfl (hw _ w40) (hw _ w567) (by decide +kernel) ⟨Nat.le_of_ble_eq_true rfl, Nat.le_of_ble_eq_true rfl⟩, (hw _ w569), (hw _ w20)⟩ ⟨kb_S, va_recv (ci := 3) (q0 := 0) hK hP rfl rfl, fun U hU hW => ⟨rfl, by rw [hU]; exact hPc, hKK.moved hW⟩⟩ rfl rfl hl.1 rfl (lv_room (Nat.le_of_ble_eq_true rfl)) dS_checkpoint_20 ⟨Nat.le_of_ble_eq_true rfl, Nat.le_of_ble_eq_true rfl⟩) (fun _ => ?_)
  refine lv_aload_n hx hb dS_checkpoint_23 rfl (lv_at hl 2 rfl) ?_
  refine va_get (D := (dC, dI)) (ci := 3) (v := .ref d) (C := "LoggedStore") (T := uS) (N := 8) hx hb hw inS hown hK hP 0 rfl rfl 0 (by decide) (hw _ w154) (fun _ h9 => h9) rfl dS_checkpoint_24 ?_
  refine lv_iload_n hx hb dS_checkpoint_27 rfl (lv_at hl 0 rfl) ?_
  have hPc := hP.sub (ws' := []) [] rfl
  refine vp_callSi (W.runS (As := [.int 2]) (rest := [.ref d]) ⟨hx, hb, hml, hown, hw⟩ (c_hb2 l dC dI cI cZ cJ cT) ⟨callB_of 1 hw (gA0 w140) rfl rfl rfl (hw _ w40) (hw _ w225) (by decide +kernel) ⟨Nat.le_of_ble_eq_true rfl, Nat.le_of_ble_eq_true rfl⟩, (hw _ w139)⟩ ⟨kb_S, fun U hU hW => ⟨rfl, by rw [hU]; exact hPc, hKK.moved hW⟩⟩ rfl rfl hl.1 rfl (lv_room (Nat.le_of_ble_eq_true rfl)) dS_checkpoint_28 ⟨Nat.le_of_ble_eq_true rfl, Nat.le_of_ble_eq_true rfl⟩) (fun r1 e2 => ?_)
  obtain rfl : r1 = 1 := e2
  refine lv_iload_n hx hb dS_checkpoint_31 rfl (lv_at hl 0 rfl) ?_
  refine lv_bipush (v := 64) hx hb dS_checkpoint_32 (by decide) ?_
  refine lv_iload_n hx hb dS_checkpoint_34 rfl (lv_at hl 1 rfl) ?_
  refine lv_imul hx hb dS_checkpoint_35 ?_
  refine lv_topi (nm_r (e' := 64) (by decide +kernel) ?_)
  refine lv_aload_n hx hb dS_checkpoint_36 rfl (lv_at hl 2 rfl) ?_
  refine va_get (D := (dC, dI)) (ci := 3) (v := .ref tb) (C := "LoggedStore") (T := uS) (N := 8) hx hb hw inS hown hK hP 0 rfl rfl 1 (by decide) (hw _ w155) (fun _ h9 => h9) rfl dS_checkpoint_37 ?_
  refine va_get (D := (dC, dI)) (ci := 1) (v := .int 0) (C := "LoggedStore$Table") (T := uT) (N := 3) hx hb hw inT hown hK hP 3 rfl rfl 2 (by decide) (hw _ w95) (fun _ h9 => h9) rfl dS_checkpoint_40 ?_
  refine lv_iadd hx hb dS_checkpoint_43 ?_
  refine lv_topi (nm_r (e' := 64) (by decide +kernel) ?_)
  refine lv_aload_n hx hb dS_checkpoint_44 rfl (lv_at hl 2 rfl) ?_
  refine va_get (D := (dC, dI)) (ci := 3) (v := .int 0) (C := "LoggedStore") (T := uS) (N := 8) hx hb hw inS hown hK hP 0 rfl rfl 4 (by decide) (hw _ w158) (fun _ h9 => h9) rfl dS_checkpoint_45 ?_
  have hPc := hP.sub (ws' := [(d, .inr (0, [.ref w, .int (-1), .int 0, .int 0])), (w, .inl (cI, 384, .inl W0))]) [1, 2] rfl
  have hDc := hD.sub (ws' := [(d, .inr (0, [.ref w, .int (-1), .int 0, .int 0])), (w, .inl (cI, 384, .inl W0))]) [1, 2] (by decide) rfl
  have hFc := va_free (wc := [(d, .inr (0, [.ref w, .int (-1), .int 0, .int 0])), (w, .inl (cI, 384, .inl W0))]) hD hS hA [1, 2] rfl
  refine va_callv (va_runV (C := "LoggedStore$Disk") (b := d) (As := [.int 1, .int 2, .int 64, .int 0]) (rest := []) ⟨hx, hb, hml, hown, hw⟩ (c_D_writeChecked l dC dI cI cZ cJ cT d w W0 s.heap.size) ⟨callB_of 4 hw (gA0 w542) rfl rfl rfl (hw _ w41) (hw _ w539) (by decide +kernel) ⟨Nat.le_of_ble_eq_true rfl, Nat.le_of_ble_eq_true rfl⟩, (hw _ w540), (hw _ w541)⟩ ⟨kb_Q, va_recv (ci := 0) (q0 := 1) hK hP rfl rfl, fun U hU hW => ⟨rfl, by rw [hU], by rw [hU]; exact hPc, hKK.moved hW, hDc.weaken (fun _ _ _ _ => trivial)⟩⟩ rfl rfl hl.1 rfl (lv_room (Nat.le_of_ble_eq_true rfl)) dS_checkpoint_48 ⟨Nat.le_of_ble_eq_true rfl, Nat.le_of_ble_eq_true rfl⟩) hS (fun q _ h => hFc q h) hFc (fun u4 t H1 locs ht hvm he9 hB hz1 hk1 hS => ?_)
  obtain ⟨hP1, hD1⟩ := hB
  rw [ht] at hP1
  obtain ⟨hP, hD⟩ := va_join (wr := [(x, .inr (3, [.ref d, .ref tb, .ref wa, .ref ts, .int 0, .int 1, .int 0, .int 22])), (tb, .inr (1, [.ref hs, .ref ns, .int 0])), (hs, .inl (cZ, 64, .inl (fun _ => 0)))]) (w1 := [(d, .inr (0, [.ref w, .int (-1), .int 0, .int 0]))]) hP hD [1, 2] [0, 3, 4] rfl rfl (by decide) (by decide) hk1 hFc hP1 hD1
  generalize H1 = H at hP hS ⊢
  have hP : va_P (dC, dI) vwC [(x, .inr (3, [.ref d, .ref tb, .ref wa, .ref ts, .int 0, .int 1, .int 0, .int 22])), (tb, .inr (1, [.ref hs, .ref ns, .int 0])), (hs, .inl (cZ, 64, .inl (fun _ => 0))), (d, .inr (0, [.ref w, .int (-1), .int 0, .int 0]))] H := hP
  have hD : va_D A [(x, .inr (3, [.ref d, .ref tb, .ref wa, .ref ts, .int 0, .int 1, .int 0, .int 22])), (tb, .inr (1, [.ref hs, .ref ns, .int 0])), (hs, .inl (cZ, 64, .inl (fun _ => 0))), (d, .inr (0, [.ref w, .int (-1), .int 0, .int 0]))] := hD
  refine lv_aload_n hx hb dS_checkpoint_51 rfl (lv_at hl 2 rfl) ?_
  refine lv_iload_n hx hb dS_checkpoint_52 rfl (lv_at hl 1 rfl) ?_
  refine va_put (D := (dC, dI)) (ci := 3) (v := .int 1) (ty := .int) (C := "LoggedStore") (T := uS) (N := 8) hx hb hw inS tyS tyS_ok nmS hown hK hP hD hS 0 rfl rfl 6 (by decide) (hw _ w160) (fun _ h9 => h9) rfl (by decide +kernel) rfl rfl (Nat.le_of_ble_eq_true rfl) dS_checkpoint_53 (fun H locs hP hD hS => ?_)
  have hP : va_P (dC, dI) vwC [(x, .inr (3, [.ref d, .ref tb, .ref wa, .ref ts, .int 0, .int 1, .int 1, .int 22])), (tb, .inr (1, [.ref hs, .ref ns, .int 0])), (hs, .inl (cZ, 64, .inl (fun _ => 0))), (d, .inr (0, [.ref w, .int (-1), .int 0, .int 0]))] H := hP
  have hD : va_D A [(x, .inr (3, [.ref d, .ref tb, .ref wa, .ref ts, .int 0, .int 1, .int 1, .int 22])), (tb, .inr (1, [.ref hs, .ref ns, .int 0])), (hs, .inl (cZ, 64, .inl (fun _ => 0))), (d, .inr (0, [.ref w, .int (-1), .int 0, .int 0]))] := hD
  refine lv_aload_n hx hb dS_checkpoint_56 rfl (lv_at hl 2 rfl) ?_
  refine lv_iload_n hx hb dS_checkpoint_57 rfl (lv_at hl 0 rfl) ?_
  refine va_put (D := (dC, dI)) (ci := 3) (v := .int 2) (ty := .int) (C := "LoggedStore") (T := uS) (N := 8) hx hb hw inS tyS tyS_ok nmS hown hK hP hD hS 0 rfl rfl 5 (by decide) (hw _ w159) (fun _ h9 => h9) rfl (by decide +kernel) rfl rfl (Nat.le_of_ble_eq_true rfl) dS_checkpoint_58 (fun H locs hP hD hS => ?_)
  have hP : va_P (dC, dI) vwC [(x, .inr (3, [.ref d, .ref tb, .ref wa, .ref ts, .int 0, .int 2, .int 1, .int 22])), (tb, .inr (1, [.ref hs, .ref ns, .int 0])), (hs, .inl (cZ, 64, .inl (fun _ => 0))), (d, .inr (0, [.ref w, .int (-1), .int 0, .int 0]))] H := hP
  have hD : va_D A [(x, .inr (3, [.ref d, .ref tb, .ref wa, .ref ts, .int 0, .int 2, .int 1, .int 22])), (tb, .inr (1, [.ref hs, .ref ns, .int 0])), (hs, .inl (cZ, 64, .inl (fun _ => 0))), (d, .inr (0, [.ref w, .int (-1), .int 0, .int 0]))] := hD
  refine lv_aload_n hx hb dS_checkpoint_61 rfl (lv_at hl 2 rfl) ?_
  refine lv_bipush (v := 22) hx hb dS_checkpoint_62 (by decide) ?_
  refine va_put (D := (dC, dI)) (ci := 3) (v := .int 22) (ty := .int) (C := "LoggedStore") (T := uS) (N := 8) hx hb hw inS tyS tyS_ok nmS hown hK hP hD hS 0 rfl rfl 7 (by decide) (hw _ w161) (fun _ h9 => h9) rfl (by decide +kernel) rfl rfl (Nat.le_of_ble_eq_true rfl) dS_checkpoint_64 (fun H locs hP hD hS => ?_)
  have hP : va_P (dC, dI) vwC [(x, .inr (3, [.ref d, .ref tb, .ref wa, .ref ts, .int 0, .int 2, .int 1, .int 22])), (tb, .inr (1, [.ref hs, .ref ns, .int 0])), (hs, .inl (cZ, 64, .inl (fun _ => 0))), (d, .inr (0, [.ref w, .int (-1), .int 0, .int 0]))] H := hP
  have hD : va_D A [(x, .inr (3, [.ref d, .ref tb, .ref wa, .ref ts, .int 0, .int 2, .int 1, .int 22])), (tb, .inr (1, [.ref hs, .ref ns, .int 0])), (hs, .inl (cZ, 64, .inl (fun _ => 0))), (d, .inr (0, [.ref w, .int (-1), .int 0, .int 0]))] := hD
  refine lv_aload_n hx hb dS_checkpoint_67 rfl (lv_at hl 2 rfl) ?_
  refine va_get (D := (dC, dI)) (ci := 3) (v := .int 2) (C := "LoggedStore") (T := uS) (N := 8) hx hb hw inS hown hK hP 0 rfl rfl 5 (by decide) (hw _ w159) (fun _ h9 => h9) rfl dS_checkpoint_68 ?_
  refine W.widen (k := 0) (n := 0) (by decide) (by decide) ?_
  exact W.iret (v := 2) hx hb hr (fun t ht hW => ⟨⟨2, fun _ => 0, rfl, rfl, trivial⟩, hS.F ht⟩) hS.2.2 dS_checkpoint_71

set_option maxHeartbeats 4000000 in
set_option maxRecDepth 100000 in
theorem c_copyAll (l : Launch) (dC : Nat → ClassId) (dI : Nat → Nat → Nat) (cI cZ cJ cT : ClassId) (v vh vn tb hs ns : Nat) (sz : Nat) : Met l yT_copyAll (Cond.code yT_copyAll cT_copyAll 3 none :: wsA) ({ frames := 0, cells := 0, slots := 0, locals := 0 }) (va_Pc [.ref v, .ref tb] (fun U => U.heap.size = sz ∧ va_P (dC, dI) vwC [(v, .inr (1, [.ref vh, .ref vn, .int 0])), (vh, .inl (cZ, 64, .inl (fun _ => 0))), (vn, .inl (cI, 64, .inl (fun _ => 0))), (tb, .inr (1, [.ref hs, .ref ns, .int 0])), (hs, .inl (cZ, 64, .inl (fun _ => 0))), (ns, .inl (cI, 64, .inl (fun _ => 0)))] U.heap ∧ KK dC dI cI cZ cJ cT U ∧ va_D (fun _ => True) [(v, .inr (1, [.ref vh, .ref vn, .int 0])), (vh, .inl (cZ, 64, .inl (fun _ => 0))), (vn, .inl (cI, 64, .inl (fun _ => 0))), (tb, .inr (1, [.ref hs, .ref ns, .int 0])), (hs, .inl (cZ, 64, .inl (fun _ => 0))), (ns, .inl (cI, 64, .inl (fun _ => 0)))])) (va_Qv (S := Nat → Nat) (fun _ => True) (fun u t => va_P (dC, dI) vwC [(tb, .inr (1, [.ref hs, .ref ns, .int 0])), (hs, .inl (cZ, 64, .inl (fun _ => 0))), (ns, .inl (cI, 64, .inl (fun _ => 0)))] t.heap ∧ va_D (va_A [(v, .inr (1, [.ref vh, .ref vn, .int 0])), (vh, .inl (cZ, 64, .inl (fun _ => 0))), (vn, .inl (cI, 64, .inl (fun _ => 0))), (tb, .inr (1, [.ref hs, .ref ns, .int 0])), (hs, .inl (cZ, 64, .inl (fun _ => 0))), (ns, .inl (cI, 64, .inl (fun _ => 0)))] sz) [(tb, .inr (1, [.ref hs, .ref ns, .int 0])), (hs, .inl (cZ, 64, .inl (fun _ => 0))), (ns, .inl (cI, 64, .inl (fun _ => 0)))]) (va_A [(v, .inr (1, [.ref vh, .ref vn, .int 0])), (vh, .inl (cZ, 64, .inl (fun _ => 0))), (vn, .inl (cI, 64, .inl (fun _ => 0))), (tb, .inr (1, [.ref hs, .ref ns, .int 0])), (hs, .inl (cZ, 64, .inl (fun _ => 0))), (ns, .inl (cI, 64, .inl (fun _ => 0)))] sz)) 0 0 (va_A [(v, .inr (1, [.ref vh, .ref vn, .int 0])), (vh, .inl (cZ, 64, .inl (fun _ => 0))), (vn, .inl (cI, 64, .inl (fun _ => 0))), (tb, .inr (1, [.ref hs, .ref ns, .int 0])), (hs, .inl (cZ, 64, .inl (fun _ => 0))), (ns, .inl (cI, 64, .inl (fun _ => 0)))] sz) := by
  refine Met.ofW (cc := cT_copyAll) (maxL := 3) (ret := none) (by decide) rfl ?_
  intro p e s m args below meth c s₁ B hml hv
  obtain ⟨rfl, hsz, hP, hKK, hD0⟩ := hv
  have hK := hKK.1
  have hx := B.exec
  have hb := B.bytes
  have hr := B.returns
  have hw : ∀ w ∈ wsA, w.before _ s = true := fun w h => atoms_spec (ws := (Cond.code yT_copyAll cT_copyAll 3 none :: wsA)) B.pre w (List.mem_cons_of_mem _ h)
  have hown : s.vm.findClass "LoggedStore$Table" = some m.cls := findClass_of_methodNamed B.named
  have hlocks := B.notSynchronized
  subst hsz
  have hD := hD0.self (sz := s.heap.size)
  generalize hAe : va_A [(v, .inr (1, [.ref vh, .ref vn, .int 0])), (vh, .inl (cZ, 64, .inl (fun _ => 0))), (vn, .inl (cI, 64, .inl (fun _ => 0))), (tb, .inr (1, [.ref hs, .ref ns, .int 0])), (hs, .inl (cZ, 64, .inl (fun _ => 0))), (ns, .inl (cI, 64, .inl (fun _ => 0)))] s.heap.size = A at hD ⊢
  have hA : ∀ q : Nat, s.heap.size ≤ q → A q := fun q h => by rw [← hAe]; exact Or.inr h
  have hS : va_S A s.heap s.heap [] := va_S.rf
  have hl := lv_entry ([.ref v, .ref tb]) (n := 3) (Nat.le_of_ble_eq_true rfl)
  rw [lg_entry_eq]
  generalize (lg_sl ([.ref v, .ref tb]) ++ List.replicate (3 - (lg_sl ([.ref v, .ref tb])).length) Slot.unset).toArray = ls at hl ⊢
  have hl : lv_has ls 3 [(0, .ref v), (1, .ref tb)] := hl
  refine lv_iconst (v := 0) hx hb dT_copyAll_0 (by decide) ?_
  refine lv_istore_n hx hb dT_copyAll_1 rfl hl (by decide) rfl (fun ls hl => ?_)
  have hl : lv_has ls 3 [(2, .int 0), (0, .ref v), (1, .ref tb)] := hl
  refine tk_forW (nL := 3) (D := (dC, dI)) (cl := vwC) (A := A) (H0 := s.heap) (σ := (Nat → Int32) × (Nat → Int32)) (G := fun ls H locs => W p l e _ s m _ below meth c H locs _ _ _ (F0 m 2 ls [])) (fun i => [(2, .int (nI i)), (0, .ref v), (1, .ref tb)]) (fun z => [(v, .inr (1, [.ref vh, .ref vn, .int 0])), (vh, .inl (cZ, 64, .inl z.1)), (vn, .inl (cI, 64, .inl z.2)), (tb, .inr (1, [.ref hs, .ref ns, .int 0])), (hs, .inl (cZ, 64, .inl (fun _ => 0))), (ns, .inl (cI, 64, .inl (fun _ => 0)))]) 64 ?_ ?_ (fun _ => 0, fun _ => 0) ls s.heap [] hl hP hD hS
  · intro z ls H locs hl hP hD hS
    have hl : lv_has ls 3 [(2, .int (nI 64)), (0, .ref v), (1, .ref tb)] := hl
    have hP : va_P (dC, dI) vwC [(v, .inr (1, [.ref vh, .ref vn, .int 0])), (vh, .inl (cZ, 64, .inl z.1)), (vn, .inl (cI, 64, .inl z.2)), (tb, .inr (1, [.ref hs, .ref ns, .int 0])), (hs, .inl (cZ, 64, .inl (fun _ => 0))), (ns, .inl (cI, 64, .inl (fun _ => 0)))] H := hP
    have hD : va_D A [(v, .inr (1, [.ref vh, .ref vn, .int 0])), (vh, .inl (cZ, 64, .inl z.1)), (vn, .inl (cI, 64, .inl z.2)), (tb, .inr (1, [.ref hs, .ref ns, .int 0])), (hs, .inl (cZ, 64, .inl (fun _ => 0))), (ns, .inl (cI, 64, .inl (fun _ => 0)))] := hD
    refine lv_iload_n hx hb dT_copyAll_2 rfl (lv_at hl 0 rfl) ?_
    refine lv_bipush (v := 64) hx hb dT_copyAll_3 (by decide) ?_
    refine lv_icmp_ge (tgt := 38) hx hb dT_copyAll_5 (by decide) (fun _ => ?_) (fun h9 => absurd (by decide +kernel) h9)
    refine lv_aload_n hx hb dT_copyAll_38 rfl (lv_at hl 1 rfl) ?_
    refine lv_aload_n hx hb dT_copyAll_39 rfl (lv_at hl 2 rfl) ?_
    refine va_get (D := (dC, dI)) (ci := 1) (v := .int 0) (C := "LoggedStore$Table") (T := uT) (N := 3) hx hb hw inT hown hK hP 3 rfl rfl 2 (by decide) (hw _ w94) (fun _ h9 => h9) rfl dT_copyAll_40 ?_
    refine va_put (D := (dC, dI)) (ci := 1) (v := .int 0) (ty := .int) (C := "LoggedStore$Table") (T := uT) (N := 3) hx hb hw inT tyT tyT_ok nmT hown hK hP hD hS 0 rfl rfl 2 (by decide) (hw _ w94) (fun _ h9 => h9) rfl (by decide +kernel) rfl rfl (Nat.le_of_ble_eq_true rfl) dT_copyAll_43 (fun H locs hP hD hS => ?_)
    have hP : va_P (dC, dI) vwC [(v, .inr (1, [.ref vh, .ref vn, .int 0])), (vh, .inl (cZ, 64, .inl z.1)), (vn, .inl (cI, 64, .inl z.2)), (tb, .inr (1, [.ref hs, .ref ns, .int 0])), (hs, .inl (cZ, 64, .inl (fun _ => 0))), (ns, .inl (cI, 64, .inl (fun _ => 0)))] H := hP
    have hD : va_D A [(v, .inr (1, [.ref vh, .ref vn, .int 0])), (vh, .inl (cZ, 64, .inl z.1)), (vn, .inl (cI, 64, .inl z.2)), (tb, .inr (1, [.ref hs, .ref ns, .int 0])), (hs, .inl (cZ, 64, .inl (fun _ => 0))), (ns, .inl (cI, 64, .inl (fun _ => 0)))] := hD
    have hP9 := hP.sub (ws' := [(tb, .inr (1, [.ref hs, .ref ns, .int 0])), (hs, .inl (cZ, 64, .inl (fun _ => 0))), (ns, .inl (cI, 64, .inl (fun _ => 0)))]) [3, 4, 5] rfl
    have hD9 := hD.sub (ws' := [(tb, .inr (1, [.ref hs, .ref ns, .int 0])), (hs, .inl (cZ, 64, .inl (fun _ => 0))), (ns, .inl (cI, 64, .inl (fun _ => 0)))]) [3, 4, 5] (by decide) rfl
    refine W.widen (k := 0) (n := 0) (by decide) (by decide) ?_
    exact W.vret hx hb hr (fun t ht hW => ⟨⟨fun _ => 0, rfl, trivial, by rw [ht]; exact hP9, hD9⟩, hS.F ht⟩) hS.2.2 dT_copyAll_46
  · intro i hi z ls H locs hl hP hD hS ih
    have hl : lv_has ls 3 [(2, .int (nI i)), (0, .ref v), (1, .ref tb)] := hl
    have hP : va_P (dC, dI) vwC [(v, .inr (1, [.ref vh, .ref vn, .int 0])), (vh, .inl (cZ, 64, .inl z.1)), (vn, .inl (cI, 64, .inl z.2)), (tb, .inr (1, [.ref hs, .ref ns, .int 0])), (hs, .inl (cZ, 64, .inl (fun _ => 0))), (ns, .inl (cI, 64, .inl (fun _ => 0)))] H := hP
    have hD : va_D A [(v, .inr (1, [.ref vh, .ref vn, .int 0])), (vh, .inl (cZ, 64, .inl z.1)), (vn, .inl (cI, 64, .inl z.2)), (tb, .inr (1, [.ref hs, .ref ns, .int 0])), (hs, .inl (cZ, 64, .inl (fun _ => 0))), (ns, .inl (cI, 64, .inl (fun _ => 0)))] := hD
    refine lv_iload_n hx hb dT_copyAll_2 rfl (lv_at hl 0 rfl) ?_
    refine lv_bipush (v := 64) hx hb dT_copyAll_3 (by decide) ?_
    refine lv_icmp_ge (tgt := 38) hx hb dT_copyAll_5 (by decide) (fun h9 => absurd h9 (nI_ge hi (by decide))) (fun _ => ?_)
    refine lv_aload_n hx hb dT_copyAll_8 rfl (lv_at hl 1 rfl) ?_
    refine va_get (D := (dC, dI)) (ci := 1) (v := .ref vh) (C := "LoggedStore$Table") (T := uT) (N := 3) hx hb hw inT hown hK hP 0 rfl rfl 0 (by decide) (hw _ w90) (fun _ h9 => h9) rfl dT_copyAll_9 ?_
    refine lv_iload_n hx hb dT_copyAll_12 rfl (lv_at hl 0 rfl) ?_
    refine lv_aload_n hx hb dT_copyAll_13 rfl (lv_at hl 2 rfl) ?_
    refine va_get (D := (dC, dI)) (ci := 1) (v := .ref hs) (C := "LoggedStore$Table") (T := uT) (N := 3) hx hb hw inT hown hK hP 3 rfl rfl 0 (by decide) (hw _ w90) (fun _ h9 => h9) rfl dT_copyAll_14 ?_
    refine lv_iload_n hx hb dT_copyAll_17 rfl (lv_at hl 0 rfl) ?_
    refine va_zald hx hb hK hP 4 1 rfl rfl (vp_in_nI hi (by decide)) dT_copyAll_18 ?_
    refine lv_topi (nm_r (e' := 0) (rfl) ?_)
    refine va_zast hx hb hK hP hD hS 1 1 rfl rfl (vp_in_nI hi (by decide)) dT_copyAll_19 (fun H locs hP hD hS => ?_)
    have hP : va_P (dC, dI) vwC [(v, .inr (1, [.ref vh, .ref vn, .int 0])), (vh, .inl (cZ, 64, .inl (upd z.1 (nI i : Int32).toNatClampNeg (vp_nar .boolean 0)))), (vn, .inl (cI, 64, .inl z.2)), (tb, .inr (1, [.ref hs, .ref ns, .int 0])), (hs, .inl (cZ, 64, .inl (fun _ => 0))), (ns, .inl (cI, 64, .inl (fun _ => 0)))] H := hP
    have hD : va_D A [(v, .inr (1, [.ref vh, .ref vn, .int 0])), (vh, .inl (cZ, 64, .inl (upd z.1 (nI i : Int32).toNatClampNeg (vp_nar .boolean 0)))), (vn, .inl (cI, 64, .inl z.2)), (tb, .inr (1, [.ref hs, .ref ns, .int 0])), (hs, .inl (cZ, 64, .inl (fun _ => 0))), (ns, .inl (cI, 64, .inl (fun _ => 0)))] := hD
    refine lv_aload_n hx hb dT_copyAll_20 rfl (lv_at hl 1 rfl) ?_
    refine va_get (D := (dC, dI)) (ci := 1) (v := .ref vn) (C := "LoggedStore$Table") (T := uT) (N := 3) hx hb hw inT hown hK hP 0 rfl rfl 1 (by decide) (hw _ w92) (fun _ h9 => h9) rfl dT_copyAll_21 ?_
    refine lv_iload_n hx hb dT_copyAll_24 rfl (lv_at hl 0 rfl) ?_
    refine lv_aload_n hx hb dT_copyAll_25 rfl (lv_at hl 2 rfl) ?_
    refine va_get (D := (dC, dI)) (ci := 1) (v := .ref ns) (C := "LoggedStore$Table") (T := uT) (N := 3) hx hb hw inT hown hK hP 3 rfl rfl 1 (by decide) (hw _ w92) (fun _ h9 => h9) rfl dT_copyAll_26 ?_
    refine lv_iload_n hx hb dT_copyAll_29 rfl (lv_at hl 0 rfl) ?_
    refine va_iald hx hb hK hP 5 0 rfl rfl (vp_in_nI hi (by decide)) dT_copyAll_30 ?_
    refine lv_topi (nm_r (e' := 0) (rfl) ?_)
    refine va_iast hx hb hK hP hD hS 2 0 rfl rfl (vp_in_nI hi (by decide)) dT_copyAll_31 (fun H locs hP hD hS => ?_)
    have hP : va_P (dC, dI) vwC [(v, .inr (1, [.ref vh, .ref vn, .int 0])), (vh, .inl (cZ, 64, .inl (upd z.1 (nI i : Int32).toNatClampNeg (vp_nar .boolean 0)))), (vn, .inl (cI, 64, .inl (upd z.2 (nI i : Int32).toNatClampNeg 0))), (tb, .inr (1, [.ref hs, .ref ns, .int 0])), (hs, .inl (cZ, 64, .inl (fun _ => 0))), (ns, .inl (cI, 64, .inl (fun _ => 0)))] H := hP
    have hD : va_D A [(v, .inr (1, [.ref vh, .ref vn, .int 0])), (vh, .inl (cZ, 64, .inl (upd z.1 (nI i : Int32).toNatClampNeg (vp_nar .boolean 0)))), (vn, .inl (cI, 64, .inl (upd z.2 (nI i : Int32).toNatClampNeg 0))), (tb, .inr (1, [.ref hs, .ref ns, .int 0])), (hs, .inl (cZ, 64, .inl (fun _ => 0))), (ns, .inl (cI, 64, .inl (fun _ => 0)))] := hD
    refine lv_iinc (k := 0) (v := nI (i + 1)) hx hb dT_copyAll_32 hl rfl (nI_1 i) (by decide) rfl (fun ls hl => ?_)
    have hl : lv_has ls 3 [(2, .int (nI (i + 1))), (0, .ref v), (1, .ref tb)] := hl
    refine lv_goto (tgt := 2) hx hb dT_copyAll_35 (by decide) ?_
    exact ih (upd z.1 (nI i : Int32).toNatClampNeg (vp_nar .boolean 0), upd z.2 (nI i : Int32).toNatClampNeg 0) ls H locs hl hP hD hS

set_option maxHeartbeats 4000000 in
set_option maxRecDepth 100000 in
theorem c_start (l : Launch) (dC : Nat → ClassId) (dI : Nat → Nat → Nat) (cI cZ cJ cT : ClassId) (tr v vh vn wr tb hs ns : Nat) (sz : Nat) : Met l yR_start (Cond.code yR_start cR_start 4 none :: wsA) ({ frames := 1, cells := 0, slots := 0, locals := 22 }) (va_Pc [.ref tr, .ref tb, .int 0] (fun U => U.heap.size = sz ∧ va_P (dC, dI) vwC [(tr, .inr (2, [.ref v, .ref wr, .int 0, .int 0, .int 0])), (v, .inr (1, [.ref vh, .ref vn, .int 0])), (vh, .inl (cZ, 64, .inl (fun _ => 0))), (vn, .inl (cI, 64, .inl (fun _ => 0))), (wr, .inl (cZ, 64, .inl (fun _ => 0))), (tb, .inr (1, [.ref hs, .ref ns, .int 0])), (hs, .inl (cZ, 64, .inl (fun _ => 0))), (ns, .inl (cI, 64, .inl (fun _ => 0)))] U.heap ∧ KK dC dI cI cZ cJ cT U ∧ va_D (fun _ => True) [(tr, .inr (2, [.ref v, .ref wr, .int 0, .int 0, .int 0])), (v, .inr (1, [.ref vh, .ref vn, .int 0])), (vh, .inl (cZ, 64, .inl (fun _ => 0))), (vn, .inl (cI, 64, .inl (fun _ => 0))), (wr, .inl (cZ, 64, .inl (fun _ => 0))), (tb, .inr (1, [.ref hs, .ref ns, .int 0])), (hs, .inl (cZ, 64, .inl (fun _ => 0))), (ns, .inl (cI, 64, .inl (fun _ => 0)))])) (va_Qv (S := Nat → Nat) (fun _ => True) (fun _ _ => True) (va_A [(tr, .inr (2, [.ref v, .ref wr, .int 0, .int 0, .int 0])), (v, .inr (1, [.ref vh, .ref vn, .int 0])), (vh, .inl (cZ, 64, .inl (fun _ => 0))), (vn, .inl (cI, 64, .inl (fun _ => 0))), (wr, .inl (cZ, 64, .inl (fun _ => 0))), (tb, .inr (1, [.ref hs, .ref ns, .int 0])), (hs, .inl (cZ, 64, .inl (fun _ => 0))), (ns, .inl (cI, 64, .inl (fun _ => 0)))] sz)) 0 0 (va_A [(tr, .inr (2, [.ref v, .ref wr, .int 0, .int 0, .int 0])), (v, .inr (1, [.ref vh, .ref vn, .int 0])), (vh, .inl (cZ, 64, .inl (fun _ => 0))), (vn, .inl (cI, 64, .inl (fun _ => 0))), (wr, .inl (cZ, 64, .inl (fun _ => 0))), (tb, .inr (1, [.ref hs, .ref ns, .int 0])), (hs, .inl (cZ, 64, .inl (fun _ => 0))), (ns, .inl (cI, 64, .inl (fun _ => 0)))] sz) := by
  refine Met.ofW (cc := cR_start) (maxL := 4) (ret := none) (by decide) rfl ?_
  intro p e s m args below meth c s₁ B hml hv
  obtain ⟨rfl, hsz, hP, hKK, hD0⟩ := hv
  have hK := hKK.1
  have hx := B.exec
  have hb := B.bytes
  have hr := B.returns
  have hw : ∀ w ∈ wsA, w.before _ s = true := fun w h => atoms_spec (ws := (Cond.code yR_start cR_start 4 none :: wsA)) B.pre w (List.mem_cons_of_mem _ h)
  have hown : s.vm.findClass "LoggedStore$Transaction" = some m.cls := findClass_of_methodNamed B.named
  have hlocks := B.notSynchronized
  subst hsz
  have hD := hD0.self (sz := s.heap.size)
  generalize hAe : va_A [(tr, .inr (2, [.ref v, .ref wr, .int 0, .int 0, .int 0])), (v, .inr (1, [.ref vh, .ref vn, .int 0])), (vh, .inl (cZ, 64, .inl (fun _ => 0))), (vn, .inl (cI, 64, .inl (fun _ => 0))), (wr, .inl (cZ, 64, .inl (fun _ => 0))), (tb, .inr (1, [.ref hs, .ref ns, .int 0])), (hs, .inl (cZ, 64, .inl (fun _ => 0))), (ns, .inl (cI, 64, .inl (fun _ => 0)))] s.heap.size = A at hD ⊢
  have hA : ∀ q : Nat, s.heap.size ≤ q → A q := fun q h => by rw [← hAe]; exact Or.inr h
  have hS : va_S A s.heap s.heap [] := va_S.rf
  have hl := lv_entry ([.ref tr, .ref tb, .int 0]) (n := 4) (Nat.le_of_ble_eq_true rfl)
  rw [lg_entry_eq]
  generalize (lg_sl ([.ref tr, .ref tb, .int 0]) ++ List.replicate (4 - (lg_sl ([.ref tr, .ref tb, .int 0])).length) Slot.unset).toArray = ls at hl ⊢
  have hl : lv_has ls 4 [(0, .ref tr), (1, .ref tb), (2, .int 0)] := hl
  refine lv_aload_n hx hb dR_start_0 rfl (lv_at hl 0 rfl) ?_
  refine va_get (D := (dC, dI)) (ci := 2) (v := .ref v) (C := "LoggedStore$Transaction") (T := uR) (N := 5) hx hb hw inR hown hK hP 0 rfl rfl 0 (by decide) (hw _ w113) (fun _ h9 => h9) rfl dR_start_1 ?_
  refine lv_aload_n hx hb dR_start_4 rfl (lv_at hl 1 rfl) ?_
  have hPc := hP.sub (ws' := [(v, .inr (1, [.ref vh, .ref vn, .int 0])), (vh, .inl (cZ, 64, .inl (fun _ => 0))), (vn, .inl (cI, 64, .inl (fun _ => 0))), (tb, .inr (1, [.ref hs, .ref ns, .int 0])), (hs, .inl (cZ, 64, .inl (fun _ => 0))), (ns, .inl (cI, 64, .inl (fun _ => 0)))]) [1, 2, 3, 5, 6, 7] rfl
  have hDc := hD.sub (ws' := [(v, .inr (1, [.ref vh, .ref vn, .int 0])), (vh, .inl (cZ, 64, .inl (fun _ => 0))), (vn, .inl (cI, 64, .inl (fun _ => 0))), (tb, .inr (1, [.ref hs, .ref ns, .int 0])), (hs, .inl (cZ, 64, .inl (fun _ => 0))), (ns, .inl (cI, 64, .inl (fun _ => 0)))]) [1, 2, 3, 5, 6, 7] (by decide) rfl
  have hFc := va_free (wc := [(v, .inr (1, [.ref vh, .ref vn, .int 0])), (vh, .inl (cZ, 64, .inl (fun _ => 0))), (vn, .inl (cI, 64, .inl (fun _ => 0))), (tb, .inr (1, [.ref hs, .ref ns, .int 0])), (hs, .inl (cZ, 64, .inl (fun _ => 0))), (ns, .inl (cI, 64, .inl (fun _ => 0)))]) hD hS hA [1, 2, 3, 5, 6, 7] rfl
  refine va_callv (va_runV (C := "LoggedStore$Table") (b := v) (As := [.ref tb]) (rest := []) ⟨hx, hb, hml, hown, hw⟩ (c_copyAll l dC dI cI cZ cJ cT v vh vn tb hs ns s.heap.size) ⟨callB_of 1 hw (gA0 w405) rfl rfl rfl (hw _ w42) (hw _ w402) (by decide +kernel) ⟨Nat.le_of_ble_eq_true rfl, Nat.le_of_ble_eq_true rfl⟩, (hw _ w403), (hw _ w404)⟩ ⟨kb_Q, va_recv (ci := 1) (q0 := 1) hK hP rfl rfl, fun U hU hW => ⟨rfl, by rw [hU], by rw [hU]; exact hPc, hKK.moved hW, hDc.weaken (fun _ _ _ _ => trivial)⟩⟩ rfl rfl hl.1 rfl (lv_room (Nat.le_of_ble_eq_true rfl)) dR_start_5 ⟨Nat.le_of_ble_eq_true rfl, Nat.le_of_ble_eq_true rfl⟩) hS (fun q _ h => hFc q h) hFc (fun u2 t H1 locs ht hvm he9 hB hz1 hk1 hS => ?_)
  obtain ⟨hP1, hD1⟩ := hB
  rw [ht] at hP1
  obtain ⟨hP, hD⟩ := va_join (wr := [(tr, .inr (2, [.ref v, .ref wr, .int 0, .int 0, .int 0])), (wr, .inl (cZ, 64, .inl (fun _ => 0)))]) (w1 := [(tb, .inr (1, [.ref hs, .ref ns, .int 0])), (hs, .inl (cZ, 64, .inl (fun _ => 0))), (ns, .inl (cI, 64, .inl (fun _ => 0)))]) hP hD [1, 2, 3, 5, 6, 7] [0, 4] rfl rfl (by decide) (by decide) hk1 hFc hP1 hD1
  generalize H1 = H at hP hS ⊢
  have hP : va_P (dC, dI) vwC [(tr, .inr (2, [.ref v, .ref wr, .int 0, .int 0, .int 0])), (wr, .inl (cZ, 64, .inl (fun _ => 0))), (tb, .inr (1, [.ref hs, .ref ns, .int 0])), (hs, .inl (cZ, 64, .inl (fun _ => 0))), (ns, .inl (cI, 64, .inl (fun _ => 0)))] H := hP
  have hD : va_D A [(tr, .inr (2, [.ref v, .ref wr, .int 0, .int 0, .int 0])), (wr, .inl (cZ, 64, .inl (fun _ => 0))), (tb, .inr (1, [.ref hs, .ref ns, .int 0])), (hs, .inl (cZ, 64, .inl (fun _ => 0))), (ns, .inl (cI, 64, .inl (fun _ => 0)))] := hD
  refine lv_iconst (v := 0) hx hb dR_start_8 (by decide) ?_
  refine lv_istore_n hx hb dR_start_9 rfl hl (by decide) rfl (fun ls hl => ?_)
  have hl : lv_has ls 4 [(3, .int 0), (0, .ref tr), (1, .ref tb), (2, .int 0)] := hl
  refine tk_forW (nL := 4) (D := (dC, dI)) (cl := vwC) (A := A) (H0 := s.heap) (σ := (Nat → Int32)) (G := fun ls H locs => W p l e _ s m _ below meth c H locs _ _ _ (F0 m 10 ls [])) (fun i => [(3, .int (nI i)), (0, .ref tr), (1, .ref tb), (2, .int 0)]) (fun z => [(tr, .inr (2, [.ref v, .ref wr, .int 0, .int 0, .int 0])), (wr, .inl (cZ, 64, .inl z)), (tb, .inr (1, [.ref hs, .ref ns, .int 0])), (hs, .inl (cZ, 64, .inl (fun _ => 0))), (ns, .inl (cI, 64, .inl (fun _ => 0)))]) 64 ?_ ?_ (fun _ => 0) ls H locs hl hP hD hS
  · intro z ls H locs hl hP hD hS
    have hl : lv_has ls 4 [(3, .int (nI 64)), (0, .ref tr), (1, .ref tb), (2, .int 0)] := hl
    have hP : va_P (dC, dI) vwC [(tr, .inr (2, [.ref v, .ref wr, .int 0, .int 0, .int 0])), (wr, .inl (cZ, 64, .inl z)), (tb, .inr (1, [.ref hs, .ref ns, .int 0])), (hs, .inl (cZ, 64, .inl (fun _ => 0))), (ns, .inl (cI, 64, .inl (fun _ => 0)))] H := hP
    have hD : va_D A [(tr, .inr (2, [.ref v, .ref wr, .int 0, .int 0, .int 0])), (wr, .inl (cZ, 64, .inl z)), (tb, .inr (1, [.ref hs, .ref ns, .int 0])), (hs, .inl (cZ, 64, .inl (fun _ => 0))), (ns, .inl (cI, 64, .inl (fun _ => 0)))] := hD
    refine lv_iload_n hx hb dR_start_10 rfl (lv_at hl 0 rfl) ?_
    refine lv_bipush (v := 64) hx hb dR_start_11 (by decide) ?_
    refine lv_icmp_ge (tgt := 29) hx hb dR_start_13 (by decide) (fun _ => ?_) (fun h9 => absurd (by decide +kernel) h9)
    refine lv_aload_n hx hb dR_start_29 rfl (lv_at hl 1 rfl) ?_
    refine lv_iconst (v := 0) hx hb dR_start_30 (by decide) ?_
    refine va_put (D := (dC, dI)) (ci := 2) (v := .int 0) (ty := .int) (C := "LoggedStore$Transaction") (T := uR) (N := 5) hx hb hw inR tyR tyR_ok nmR hown hK hP hD hS 0 rfl rfl 2 (by decide) (hw _ w117) (fun _ h9 => h9) rfl (by decide +kernel) rfl rfl (Nat.le_of_ble_eq_true rfl) dR_start_31 (fun H locs hP hD hS => ?_)
    have hP : va_P (dC, dI) vwC [(tr, .inr (2, [.ref v, .ref wr, .int 0, .int 0, .int 0])), (wr, .inl (cZ, 64, .inl z)), (tb, .inr (1, [.ref hs, .ref ns, .int 0])), (hs, .inl (cZ, 64, .inl (fun _ => 0))), (ns, .inl (cI, 64, .inl (fun _ => 0)))] H := hP
    have hD : va_D A [(tr, .inr (2, [.ref v, .ref wr, .int 0, .int 0, .int 0])), (wr, .inl (cZ, 64, .inl z)), (tb, .inr (1, [.ref hs, .ref ns, .int 0])), (hs, .inl (cZ, 64, .inl (fun _ => 0))), (ns, .inl (cI, 64, .inl (fun _ => 0)))] := hD
    refine lv_aload_n hx hb dR_start_34 rfl (lv_at hl 1 rfl) ?_
    refine lv_iload_n hx hb dR_start_35 rfl (lv_at hl 3 rfl) ?_
    refine va_put (D := (dC, dI)) (ci := 2) (v := .int 0) (ty := .int) (C := "LoggedStore$Transaction") (T := uR) (N := 5) hx hb hw inR tyR tyR_ok nmR hown hK hP hD hS 0 rfl rfl 3 (by decide) (hw _ w119) (fun _ h9 => h9) rfl (by decide +kernel) rfl rfl (Nat.le_of_ble_eq_true rfl) dR_start_36 (fun H locs hP hD hS => ?_)
    have hP : va_P (dC, dI) vwC [(tr, .inr (2, [.ref v, .ref wr, .int 0, .int 0, .int 0])), (wr, .inl (cZ, 64, .inl z)), (tb, .inr (1, [.ref hs, .ref ns, .int 0])), (hs, .inl (cZ, 64, .inl (fun _ => 0))), (ns, .inl (cI, 64, .inl (fun _ => 0)))] H := hP
    have hD : va_D A [(tr, .inr (2, [.ref v, .ref wr, .int 0, .int 0, .int 0])), (wr, .inl (cZ, 64, .inl z)), (tb, .inr (1, [.ref hs, .ref ns, .int 0])), (hs, .inl (cZ, 64, .inl (fun _ => 0))), (ns, .inl (cI, 64, .inl (fun _ => 0)))] := hD
    refine lv_aload_n hx hb dR_start_39 rfl (lv_at hl 1 rfl) ?_
    refine lv_iconst (v := 1) hx hb dR_start_40 (by decide) ?_
    refine va_put (D := (dC, dI)) (ci := 2) (v := .int 1) (ty := .boolean) (C := "LoggedStore$Transaction") (T := uR) (N := 5) hx hb hw inR tyR tyR_ok nmR hown hK hP hD hS 0 rfl rfl 4 (by decide) (hw _ w121) (fun _ h9 => h9) rfl (by decide +kernel) rfl rfl (Nat.le_of_ble_eq_true rfl) dR_start_41 (fun H locs hP hD hS => ?_)
    have hP : va_P (dC, dI) vwC [(tr, .inr (2, [.ref v, .ref wr, .int 0, .int 0, .int 1])), (wr, .inl (cZ, 64, .inl z)), (tb, .inr (1, [.ref hs, .ref ns, .int 0])), (hs, .inl (cZ, 64, .inl (fun _ => 0))), (ns, .inl (cI, 64, .inl (fun _ => 0)))] H := hP
    have hD : va_D A [(tr, .inr (2, [.ref v, .ref wr, .int 0, .int 0, .int 1])), (wr, .inl (cZ, 64, .inl z)), (tb, .inr (1, [.ref hs, .ref ns, .int 0])), (hs, .inl (cZ, 64, .inl (fun _ => 0))), (ns, .inl (cI, 64, .inl (fun _ => 0)))] := hD
    refine W.widen (k := 0) (n := 0) (by decide) (by decide) ?_
    exact W.vret hx hb hr (fun t ht hW => ⟨⟨fun _ => 0, rfl, trivial, trivial⟩, hS.F ht⟩) hS.2.2 dR_start_44
  · intro i hi z ls H locs hl hP hD hS ih
    have hl : lv_has ls 4 [(3, .int (nI i)), (0, .ref tr), (1, .ref tb), (2, .int 0)] := hl
    have hP : va_P (dC, dI) vwC [(tr, .inr (2, [.ref v, .ref wr, .int 0, .int 0, .int 0])), (wr, .inl (cZ, 64, .inl z)), (tb, .inr (1, [.ref hs, .ref ns, .int 0])), (hs, .inl (cZ, 64, .inl (fun _ => 0))), (ns, .inl (cI, 64, .inl (fun _ => 0)))] H := hP
    have hD : va_D A [(tr, .inr (2, [.ref v, .ref wr, .int 0, .int 0, .int 0])), (wr, .inl (cZ, 64, .inl z)), (tb, .inr (1, [.ref hs, .ref ns, .int 0])), (hs, .inl (cZ, 64, .inl (fun _ => 0))), (ns, .inl (cI, 64, .inl (fun _ => 0)))] := hD
    refine lv_iload_n hx hb dR_start_10 rfl (lv_at hl 0 rfl) ?_
    refine lv_bipush (v := 64) hx hb dR_start_11 (by decide) ?_
    refine lv_icmp_ge (tgt := 29) hx hb dR_start_13 (by decide) (fun h9 => absurd h9 (nI_ge hi (by decide))) (fun _ => ?_)
    refine lv_aload_n hx hb dR_start_16 rfl (lv_at hl 1 rfl) ?_
    refine va_get (D := (dC, dI)) (ci := 2) (v := .ref wr) (C := "LoggedStore$Transaction") (T := uR) (N := 5) hx hb hw inR hown hK hP 0 rfl rfl 1 (by decide) (hw _ w115) (fun _ h9 => h9) rfl dR_start_17 ?_
    refine lv_iload_n hx hb dR_start_20 rfl (lv_at hl 0 rfl) ?_
    refine lv_iconst (v := 0) hx hb dR_start_21 (by decide) ?_
    refine va_zast hx hb hK hP hD hS 1 1 rfl rfl (vp_in_nI hi (by decide)) dR_start_22 (fun H locs hP hD hS => ?_)
    have hP : va_P (dC, dI) vwC [(tr, .inr (2, [.ref v, .ref wr, .int 0, .int 0, .int 0])), (wr, .inl (cZ, 64, .inl (upd z (nI i : Int32).toNatClampNeg (vp_nar .boolean 0)))), (tb, .inr (1, [.ref hs, .ref ns, .int 0])), (hs, .inl (cZ, 64, .inl (fun _ => 0))), (ns, .inl (cI, 64, .inl (fun _ => 0)))] H := hP
    have hD : va_D A [(tr, .inr (2, [.ref v, .ref wr, .int 0, .int 0, .int 0])), (wr, .inl (cZ, 64, .inl (upd z (nI i : Int32).toNatClampNeg (vp_nar .boolean 0)))), (tb, .inr (1, [.ref hs, .ref ns, .int 0])), (hs, .inl (cZ, 64, .inl (fun _ => 0))), (ns, .inl (cI, 64, .inl (fun _ => 0)))] := hD
    refine lv_iinc (k := 0) (v := nI (i + 1)) hx hb dR_start_23 hl rfl (nI_1 i) (by decide) rfl (fun ls hl => ?_)
    have hl : lv_has ls 4 [(3, .int (nI (i + 1))), (0, .ref tr), (1, .ref tb), (2, .int 0)] := hl
    refine lv_goto (tgt := 10) hx hb dR_start_26 (by decide) ?_
    exact ih (upd z (nI i : Int32).toNatClampNeg (vp_nar .boolean 0)) ls H locs hl hP hD hS

set_option maxHeartbeats 4000000 in
set_option maxRecDepth 100000 in
theorem c_limitWrites (l : Launch) (dC : Nat → ClassId) (dI : Nat → Nat → Nat) (cI cZ cJ cT : ClassId) (d w : Nat) (n9 w9 : Int32) (sz : Nat) : Met l yD_limitWrites (Cond.code yD_limitWrites cD_limitWrites 3 none :: wsA) ({ frames := 1, cells := 0, slots := 0, locals := 16 }) (va_Pc [.ref d, .int n9, .int w9] (fun U => U.heap.size = sz ∧ va_P (dC, dI) vwC [(d, .inr (0, [.ref w, .int (-1), .int 0, .int 0]))] U.heap ∧ KK dC dI cI cZ cJ cT U ∧ va_D (fun _ => True) [(d, .inr (0, [.ref w, .int (-1), .int 0, .int 0]))])) (va_Qv (S := Nat → Nat) (fun _ => True) (fun _ _ => True) (va_A [(d, .inr (0, [.ref w, .int (-1), .int 0, .int 0]))] sz)) 0 0 (va_A [(d, .inr (0, [.ref w, .int (-1), .int 0, .int 0]))] sz) := by
  refine Met.ofW (cc := cD_limitWrites) (maxL := 3) (ret := none) (by decide) rfl ?_
  intro p e s m args below meth c s₁ B hml hv
  obtain ⟨rfl, hsz, hP, hKK, hD0⟩ := hv
  have hK := hKK.1
  have hx := B.exec
  have hb := B.bytes
  have hr := B.returns
  have hw : ∀ w ∈ wsA, w.before _ s = true := fun w h => atoms_spec (ws := (Cond.code yD_limitWrites cD_limitWrites 3 none :: wsA)) B.pre w (List.mem_cons_of_mem _ h)
  have hown : s.vm.findClass "LoggedStore$Disk" = some m.cls := findClass_of_methodNamed B.named
  have hlocks := B.notSynchronized
  subst hsz
  have hD := hD0.self (sz := s.heap.size)
  generalize hAe : va_A [(d, .inr (0, [.ref w, .int (-1), .int 0, .int 0]))] s.heap.size = A at hD ⊢
  have hA : ∀ q : Nat, s.heap.size ≤ q → A q := fun q h => by rw [← hAe]; exact Or.inr h
  have hS : va_S A s.heap s.heap [] := va_S.rf
  have hl := lv_entry ([.ref d, .int n9, .int w9]) (n := 3) (Nat.le_of_ble_eq_true rfl)
  rw [lg_entry_eq]
  generalize (lg_sl ([.ref d, .int n9, .int w9]) ++ List.replicate (3 - (lg_sl ([.ref d, .int n9, .int w9])).length) Slot.unset).toArray = ls at hl ⊢
  have hl : lv_has ls 3 [(0, .ref d), (1, .int n9), (2, .int w9)] := hl
  refine lv_aload_n hx hb dD_limitWrites_0 rfl (lv_at hl 0 rfl) ?_
  refine lv_iload_n hx hb dD_limitWrites_1 rfl (lv_at hl 1 rfl) ?_
  refine lv_if_ge (tgt := 9) hx hb dD_limitWrites_2 (by decide) (fun h7 => ?_) (fun h7 => ?_)
  · refine lv_iload_n hx hb dD_limitWrites_9 rfl (lv_at hl 1 rfl) ?_
    refine va_put (D := (dC, dI)) (ci := 0) (v := .int n9) (ty := .int) (C := "LoggedStore$Disk") (T := uD) (N := 4) hx hb hw inD tyD tyD_ok nmD hown hK hP hD hS 0 rfl rfl 1 (by decide) (hw _ w70) (fun _ h9 => h9) rfl (by decide +kernel) rfl rfl (Nat.le_of_ble_eq_true rfl) dD_limitWrites_10 (fun H locs hP hD hS => ?_)
    have hP : va_P (dC, dI) vwC [(d, .inr (0, [.ref w, .int n9, .int 0, .int 0]))] H := hP
    have hD : va_D A [(d, .inr (0, [.ref w, .int n9, .int 0, .int 0]))] := hD
    refine lv_aload_n hx hb dD_limitWrites_13 rfl (lv_at hl 0 rfl) ?_
    refine lv_iconst (v := 0) hx hb dD_limitWrites_14 (by decide) ?_
    refine lv_iconst (v := 3) hx hb dD_limitWrites_15 (by decide) ?_
    refine lv_iload_n hx hb dD_limitWrites_16 rfl (lv_at hl 2 rfl) ?_
    refine va_mmin hx hb (hml.trans hl.1.symm) hown (hw _ w187) (hw _ w188) (hw _ w44) (hw _ w189) (Nat.le_of_ble_eq_true rfl) (Nat.le_of_ble_eq_true rfl) (Nat.le_of_ble_eq_true rfl) (Nat.le_of_ble_eq_true rfl) dD_limitWrites_17 ?_
    refine va_mmax hx hb (hml.trans hl.1.symm) hown (hw _ w190) (hw _ w191) (hw _ w44) (hw _ w192) (Nat.le_of_ble_eq_true rfl) (Nat.le_of_ble_eq_true rfl) (Nat.le_of_ble_eq_true rfl) (Nat.le_of_ble_eq_true rfl) dD_limitWrites_20 ?_
    refine va_put (D := (dC, dI)) (ci := 0) (v := .int (if 0 < (if w9 < 3 then w9 else 3) then (if w9 < 3 then w9 else 3) else 0)) (ty := .int) (C := "LoggedStore$Disk") (T := uD) (N := 4) hx hb hw inD tyD tyD_ok nmD hown hK hP hD hS 0 rfl rfl 2 (by decide) (hw _ w71) (fun _ h9 => h9) rfl (by decide +kernel) rfl rfl (Nat.le_of_ble_eq_true rfl) dD_limitWrites_23 (fun H locs hP hD hS => ?_)
    have hP : va_P (dC, dI) vwC [(d, .inr (0, [.ref w, .int n9, .int (if 0 < (if w9 < 3 then w9 else 3) then (if w9 < 3 then w9 else 3) else 0), .int 0]))] H := hP
    have hD : va_D A [(d, .inr (0, [.ref w, .int n9, .int (if 0 < (if w9 < 3 then w9 else 3) then (if w9 < 3 then w9 else 3) else 0), .int 0]))] := hD
    refine W.widen (k := 0) (n := 0) (by decide) (by decide) ?_
    exact W.vret hx hb hr (fun t ht hW => ⟨⟨fun _ => 0, rfl, trivial, trivial⟩, hS.F ht⟩) hS.2.2 dD_limitWrites_26
  · refine lv_iconst (v := (-1)) hx hb dD_limitWrites_5 (by decide) ?_
    refine lv_goto (tgt := 10) hx hb dD_limitWrites_6 (by decide) ?_
    refine va_put (D := (dC, dI)) (ci := 0) (v := .int (-1)) (ty := .int) (C := "LoggedStore$Disk") (T := uD) (N := 4) hx hb hw inD tyD tyD_ok nmD hown hK hP hD hS 0 rfl rfl 1 (by decide) (hw _ w70) (fun _ h9 => h9) rfl (by decide +kernel) rfl rfl (Nat.le_of_ble_eq_true rfl) dD_limitWrites_10 (fun H locs hP hD hS => ?_)
    have hP : va_P (dC, dI) vwC [(d, .inr (0, [.ref w, .int (-1), .int 0, .int 0]))] H := hP
    have hD : va_D A [(d, .inr (0, [.ref w, .int (-1), .int 0, .int 0]))] := hD
    refine lv_aload_n hx hb dD_limitWrites_13 rfl (lv_at hl 0 rfl) ?_
    refine lv_iconst (v := 0) hx hb dD_limitWrites_14 (by decide) ?_
    refine lv_iconst (v := 3) hx hb dD_limitWrites_15 (by decide) ?_
    refine lv_iload_n hx hb dD_limitWrites_16 rfl (lv_at hl 2 rfl) ?_
    refine va_mmin hx hb (hml.trans hl.1.symm) hown (hw _ w187) (hw _ w188) (hw _ w44) (hw _ w189) (Nat.le_of_ble_eq_true rfl) (Nat.le_of_ble_eq_true rfl) (Nat.le_of_ble_eq_true rfl) (Nat.le_of_ble_eq_true rfl) dD_limitWrites_17 ?_
    refine va_mmax hx hb (hml.trans hl.1.symm) hown (hw _ w190) (hw _ w191) (hw _ w44) (hw _ w192) (Nat.le_of_ble_eq_true rfl) (Nat.le_of_ble_eq_true rfl) (Nat.le_of_ble_eq_true rfl) (Nat.le_of_ble_eq_true rfl) dD_limitWrites_20 ?_
    refine va_put (D := (dC, dI)) (ci := 0) (v := .int (if 0 < (if w9 < 3 then w9 else 3) then (if w9 < 3 then w9 else 3) else 0)) (ty := .int) (C := "LoggedStore$Disk") (T := uD) (N := 4) hx hb hw inD tyD tyD_ok nmD hown hK hP hD hS 0 rfl rfl 2 (by decide) (hw _ w71) (fun _ h9 => h9) rfl (by decide +kernel) rfl rfl (Nat.le_of_ble_eq_true rfl) dD_limitWrites_23 (fun H locs hP hD hS => ?_)
    have hP : va_P (dC, dI) vwC [(d, .inr (0, [.ref w, .int (-1), .int (if 0 < (if w9 < 3 then w9 else 3) then (if w9 < 3 then w9 else 3) else 0), .int 0]))] H := hP
    have hD : va_D A [(d, .inr (0, [.ref w, .int (-1), .int (if 0 < (if w9 < 3 then w9 else 3) then (if w9 < 3 then w9 else 3) else 0), .int 0]))] := hD
    refine W.widen (k := 0) (n := 0) (by decide) (by decide) ?_
    exact W.vret hx hb hr (fun t ht hW => ⟨⟨fun _ => 0, rfl, trivial, trivial⟩, hS.F ht⟩) hS.2.2 dD_limitWrites_26

set_option maxHeartbeats 4000000 in
set_option maxRecDepth 100000 in
theorem c_arm (l : Launch) (dC : Nat → ClassId) (dI : Nat → Nat → Nat) (cI cZ cJ cT : ClassId) (x d w tb wa ts : Nat) (n9 w9 : Int32) (sz : Nat) : Met l yS_arm (Cond.code yS_arm cS_arm 3 none :: wsA) ({ frames := 2, cells := 0, slots := 0, locals := 38 }) (va_Pc [.ref x, .int n9, .int w9] (fun U => U.heap.size = sz ∧ va_P (dC, dI) vwC [(x, .inr (3, [.ref d, .ref tb, .ref wa, .ref ts, .int 0, .int 1, .int 0, .int 22])), (d, .inr (0, [.ref w, .int (-1), .int 0, .int 0]))] U.heap ∧ KK dC dI cI cZ cJ cT U ∧ va_D (fun _ => True) [(x, .inr (3, [.ref d, .ref tb, .ref wa, .ref ts, .int 0, .int 1, .int 0, .int 22])), (d, .inr (0, [.ref w, .int (-1), .int 0, .int 0]))])) (va_Qv (S := Nat → Nat) (fun _ => True) (fun _ _ => True) (va_A [(x, .inr (3, [.ref d, .ref tb, .ref wa, .ref ts, .int 0, .int 1, .int 0, .int 22])), (d, .inr (0, [.ref w, .int (-1), .int 0, .int 0]))] sz)) 0 0 (va_A [(x, .inr (3, [.ref d, .ref tb, .ref wa, .ref ts, .int 0, .int 1, .int 0, .int 22])), (d, .inr (0, [.ref w, .int (-1), .int 0, .int 0]))] sz) := by
  refine Met.ofW (cc := cS_arm) (maxL := 3) (ret := none) (by decide) rfl ?_
  intro p e s m args below meth c s₁ B hml hv
  obtain ⟨rfl, hsz, hP, hKK, hD0⟩ := hv
  have hK := hKK.1
  have hx := B.exec
  have hb := B.bytes
  have hr := B.returns
  have hw : ∀ w ∈ wsA, w.before _ s = true := fun w h => atoms_spec (ws := (Cond.code yS_arm cS_arm 3 none :: wsA)) B.pre w (List.mem_cons_of_mem _ h)
  have hown : s.vm.findClass "LoggedStore" = some m.cls := findClass_of_methodNamed B.named
  have hlocks := B.notSynchronized
  subst hsz
  have hD := hD0.self (sz := s.heap.size)
  generalize hAe : va_A [(x, .inr (3, [.ref d, .ref tb, .ref wa, .ref ts, .int 0, .int 1, .int 0, .int 22])), (d, .inr (0, [.ref w, .int (-1), .int 0, .int 0]))] s.heap.size = A at hD ⊢
  have hA : ∀ q : Nat, s.heap.size ≤ q → A q := fun q h => by rw [← hAe]; exact Or.inr h
  have hS : va_S A s.heap s.heap [] := va_S.rf
  have hl := lv_entry ([.ref x, .int n9, .int w9]) (n := 3) (Nat.le_of_ble_eq_true rfl)
  rw [lg_entry_eq]
  generalize (lg_sl ([.ref x, .int n9, .int w9]) ++ List.replicate (3 - (lg_sl ([.ref x, .int n9, .int w9])).length) Slot.unset).toArray = ls at hl ⊢
  have hl : lv_has ls 3 [(0, .ref x), (1, .int n9), (2, .int w9)] := hl
  refine lv_aload_n hx hb dS_arm_0 rfl (lv_at hl 0 rfl) ?_
  refine va_get (D := (dC, dI)) (ci := 3) (v := .ref d) (C := "LoggedStore") (T := uS) (N := 8) hx hb hw inS hown hK hP 0 rfl rfl 0 (by decide) (hw _ w154) (fun _ h9 => h9) rfl dS_arm_1 ?_
  refine lv_iload_n hx hb dS_arm_4 rfl (lv_at hl 1 rfl) ?_
  refine lv_iload_n hx hb dS_arm_5 rfl (lv_at hl 2 rfl) ?_
  have hPc := hP.sub (ws' := [(d, .inr (0, [.ref w, .int (-1), .int 0, .int 0]))]) [1] rfl
  have hDc := hD.sub (ws' := [(d, .inr (0, [.ref w, .int (-1), .int 0, .int 0]))]) [1] (by decide) rfl
  have hFc := va_free (wc := [(d, .inr (0, [.ref w, .int (-1), .int 0, .int 0]))]) hD hS hA [1] rfl
  refine va_callv (va_runV (C := "LoggedStore$Disk") (b := d) (As := [.int n9, .int w9]) (rest := []) ⟨hx, hb, hml, hown, hw⟩ (c_limitWrites l dC dI cI cZ cJ cT d w n9 w9 s.heap.size) ⟨callB_of 2 hw (gA0 w186) rfl rfl rfl (hw _ w41) (hw _ w183) (by decide +kernel) ⟨Nat.le_of_ble_eq_true rfl, Nat.le_of_ble_eq_true rfl⟩, (hw _ w184), (hw _ w185)⟩ ⟨kb_Q, va_recv (ci := 0) (q0 := 1) hK hP rfl rfl, fun U hU hW => ⟨rfl, by rw [hU], by rw [hU]; exact hPc, hKK.moved hW, hDc.weaken (fun _ _ _ _ => trivial)⟩⟩ rfl rfl hl.1 rfl (lv_room (Nat.le_of_ble_eq_true rfl)) dS_arm_6 ⟨Nat.le_of_ble_eq_true rfl, Nat.le_of_ble_eq_true rfl⟩) hS (fun q _ h => hFc q h) hFc (fun u2 t H1 locs ht hvm he9 hB hz1 hk1 hS => ?_)
  obtain ⟨hP, hD⟩ := va_join (wr := [(x, .inr (3, [.ref d, .ref tb, .ref wa, .ref ts, .int 0, .int 1, .int 0, .int 22]))]) (w1 := []) hP hD [1] [0] rfl rfl (by decide) (by decide) hk1 hFc tk_P0 tk_D0
  generalize H1 = H at hP hS ⊢
  have hP : va_P (dC, dI) vwC [(x, .inr (3, [.ref d, .ref tb, .ref wa, .ref ts, .int 0, .int 1, .int 0, .int 22]))] H := hP
  have hD : va_D A [(x, .inr (3, [.ref d, .ref tb, .ref wa, .ref ts, .int 0, .int 1, .int 0, .int 22]))] := hD
  refine W.widen (k := 0) (n := 0) (by decide) (by decide) ?_
  exact W.vret hx hb hr (fun t ht hW => ⟨⟨fun _ => 0, rfl, trivial, trivial⟩, hS.F ht⟩) hS.2.2 dS_arm_9

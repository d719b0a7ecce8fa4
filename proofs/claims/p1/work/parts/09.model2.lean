set_option maxRecDepth 100000 in
theorem w32 : (Cond.selects "LoggedStoreModel" yM_countNow yM_countNow) ∈ wsA := List.mem_filter.mpr ⟨List.mem_of_getElem? (i := 32) rfl, rfl⟩
set_option maxRecDepth 100000 in
theorem w616 : (Cond.fieldLink "LoggedStoreModel" 58 "LoggedStoreModel" "words" "I") ∈ wsA := List.mem_filter.mpr ⟨List.mem_of_getElem? (i := 616) rfl, rfl⟩
set_option maxRecDepth 100000 in
theorem w620 : (Cond.fieldLink "LoggedStoreModel" 81 "LoggedStoreModel" "version" "I") ∈ wsA := List.mem_filter.mpr ⟨List.mem_of_getElem? (i := 620) rfl, rfl⟩
set_option maxRecDepth 100000 in
theorem w623 : (Cond.fieldLink "LoggedStoreModel" 95 "LoggedStoreModel" "logged" "I") ∈ wsA := List.mem_filter.mpr ⟨List.mem_of_getElem? (i := 623) rfl, rfl⟩
set_option maxRecDepth 100000 in
theorem w674 : (Cond.code yM_begin cM_begin 3 (some .int)) ∈ wsA := List.mem_filter.mpr ⟨List.mem_of_getElem? (i := 674) rfl, rfl⟩
set_option maxRecDepth 100000 in
theorem w750 : (Cond.methodLink "LoggedStoreModel" 117 yM_countNow) ∈ wsA := List.mem_filter.mpr ⟨List.mem_of_getElem? (i := 750) rfl, rfl⟩
set_option maxRecDepth 100000 in
theorem w752 : (Cond.instanceMethod yM_countNow) ∈ wsA := List.mem_filter.mpr ⟨List.mem_of_getElem? (i := 752) rfl, rfl⟩
set_option maxRecDepth 100000 in
theorem w753 : (Cond.code yM_countNow cM_countNow 3 (some .int)) ∈ wsA := List.mem_filter.mpr ⟨List.mem_of_getElem? (i := 753) rfl, rfl⟩
set_option maxRecDepth 100000 in
theorem w785 : (Cond.code yM_arm cM_arm 3 none) ∈ wsA := List.mem_filter.mpr ⟨List.mem_of_getElem? (i := 785) rfl, rfl⟩
set_option maxRecDepth 100000 in
theorem w789 : (Cond.code yM_isDown cM_isDown 1 (some .boolean)) ∈ wsA := List.mem_filter.mpr ⟨List.mem_of_getElem? (i := 789) rfl, rfl⟩
set_option maxRecDepth 100000 in
theorem w793 : (Cond.code yM_number cM_number 2 (some .int)) ∈ wsA := List.mem_filter.mpr ⟨List.mem_of_getElem? (i := 793) rfl, rfl⟩
set_option maxRecDepth 100000 in
theorem w797 : (Cond.code yM_count cM_count 1 (some .int)) ∈ wsA := List.mem_filter.mpr ⟨List.mem_of_getElem? (i := 797) rfl, rfl⟩
set_option maxRecDepth 100000 in
theorem w801 : (Cond.code yM_version cM_version 1 (some .int)) ∈ wsA := List.mem_filter.mpr ⟨List.mem_of_getElem? (i := 801) rfl, rfl⟩
set_option maxRecDepth 100000 in
theorem w805 : (Cond.code yM_left cM_left 1 (some .int)) ∈ wsA := List.mem_filter.mpr ⟨List.mem_of_getElem? (i := 805) rfl, rfl⟩
theorem dM_begin_0 : decode cM_begin 0 = .ok (.aload_n 0, 1) := by decide +kernel
theorem dM_begin_1 : decode cM_begin 1 = .ok (.aload_n 0, 1) := by decide +kernel
theorem dM_begin_2 : decode cM_begin 2 = .ok (.getfield 61, 3) := by decide +kernel
theorem dM_begin_5 : decode cM_begin 5 = .ok (.ifCond .eq 7, 3) := by decide +kernel
theorem dM_begin_12 : decode cM_begin 12 = .ok (.iload_n 1, 1) := by decide +kernel
theorem dM_begin_13 : decode cM_begin 13 = .ok (.iconst 0, 1) := by decide +kernel
theorem dM_begin_14 : decode cM_begin 14 = .ok (.iconst 2, 1) := by decide +kernel
theorem dM_begin_15 : decode cM_begin 15 = .ok (.invokestatic 73, 3) := by decide +kernel
theorem dM_begin_18 : decode cM_begin 18 = .ok (.ifCond .ne 7, 3) := by decide +kernel
theorem dM_begin_21 : decode cM_begin 21 = .ok (.iconst 2, 1) := by decide +kernel
theorem dM_begin_22 : decode cM_begin 22 = .ok (.goto 17, 3) := by decide +kernel
theorem dM_begin_25 : decode cM_begin 25 = .ok (.aload_n 0, 1) := by decide +kernel
theorem dM_begin_26 : decode cM_begin 26 = .ok (.getfield 30, 3) := by decide +kernel
theorem dM_begin_29 : decode cM_begin 29 = .ok (.iload_n 1, 1) := by decide +kernel
theorem dM_begin_30 : decode cM_begin 30 = .ok (.baload, 1) := by decide +kernel
theorem dM_begin_31 : decode cM_begin 31 = .ok (.ifCond .eq 7, 3) := by decide +kernel
theorem dM_begin_38 : decode cM_begin 38 = .ok (.iconst 0, 1) := by decide +kernel
theorem dM_begin_39 : decode cM_begin 39 = .ok (.putfield 52, 3) := by decide +kernel
theorem dM_begin_42 : decode cM_begin 42 = .ok (.aload_n 0, 1) := by decide +kernel
theorem dM_begin_43 : decode cM_begin 43 = .ok (.getfield 52, 3) := by decide +kernel
theorem dM_begin_46 : decode cM_begin 46 = .ok (.ifCond .le 5, 3) := by decide +kernel
theorem dM_begin_49 : decode cM_begin 49 = .ok (.iconst 0, 1) := by decide +kernel
theorem dM_begin_50 : decode cM_begin 50 = .ok (.ireturn, 1) := by decide +kernel
theorem dM_begin_51 : decode cM_begin 51 = .ok (.aload_n 0, 1) := by decide +kernel
theorem dM_begin_52 : decode cM_begin 52 = .ok (.getfield 30, 3) := by decide +kernel
theorem dM_begin_55 : decode cM_begin 55 = .ok (.iload_n 1, 1) := by decide +kernel
theorem dM_begin_56 : decode cM_begin 56 = .ok (.iconst 1, 1) := by decide +kernel
theorem dM_begin_57 : decode cM_begin 57 = .ok (.bastore, 1) := by decide +kernel
theorem dM_begin_58 : decode cM_begin 58 = .ok (.aload_n 0, 1) := by decide +kernel
theorem dM_begin_59 : decode cM_begin 59 = .ok (.getfield 33, 3) := by decide +kernel
theorem dM_begin_62 : decode cM_begin 62 = .ok (.iload_n 1, 1) := by decide +kernel
theorem dM_begin_63 : decode cM_begin 63 = .ok (.aload_n 0, 1) := by decide +kernel
theorem dM_begin_64 : decode cM_begin 64 = .ok (.getfield 81, 3) := by decide +kernel
theorem dM_begin_67 : decode cM_begin 67 = .ok (.iastore, 1) := by decide +kernel
theorem dM_begin_68 : decode cM_begin 68 = .ok (.iconst 0, 1) := by decide +kernel
theorem dM_begin_69 : decode cM_begin 69 = .ok (.istore_n 2, 1) := by decide +kernel
theorem dM_begin_70 : decode cM_begin 70 = .ok (.iload_n 2, 1) := by decide +kernel
theorem dM_begin_71 : decode cM_begin 71 = .ok (.bipush 64, 2) := by decide +kernel
theorem dM_begin_73 : decode cM_begin 73 = .ok (.if_icmp .ge 55, 3) := by decide +kernel
theorem dM_begin_76 : decode cM_begin 76 = .ok (.aload_n 0, 1) := by decide +kernel
theorem dM_begin_77 : decode cM_begin 77 = .ok (.getfield 36, 3) := by decide +kernel
theorem dM_begin_80 : decode cM_begin 80 = .ok (.bipush 64, 2) := by decide +kernel
theorem dM_begin_82 : decode cM_begin 82 = .ok (.iload_n 1, 1) := by decide +kernel
theorem dM_begin_83 : decode cM_begin 83 = .ok (.imul, 1) := by decide +kernel
theorem dM_begin_84 : decode cM_begin 84 = .ok (.iload_n 2, 1) := by decide +kernel
theorem dM_begin_85 : decode cM_begin 85 = .ok (.iadd, 1) := by decide +kernel
theorem dM_begin_86 : decode cM_begin 86 = .ok (.aload_n 0, 1) := by decide +kernel
theorem dM_begin_87 : decode cM_begin 87 = .ok (.getfield 17, 3) := by decide +kernel
theorem dM_begin_90 : decode cM_begin 90 = .ok (.iload_n 2, 1) := by decide +kernel
theorem dM_begin_91 : decode cM_begin 91 = .ok (.baload, 1) := by decide +kernel
theorem dM_begin_92 : decode cM_begin 92 = .ok (.bastore, 1) := by decide +kernel
theorem dM_begin_93 : decode cM_begin 93 = .ok (.aload_n 0, 1) := by decide +kernel
theorem dM_begin_94 : decode cM_begin 94 = .ok (.getfield 39, 3) := by decide +kernel
theorem dM_begin_97 : decode cM_begin 97 = .ok (.bipush 64, 2) := by decide +kernel
theorem dM_begin_99 : decode cM_begin 99 = .ok (.iload_n 1, 1) := by decide +kernel
theorem dM_begin_100 : decode cM_begin 100 = .ok (.imul, 1) := by decide +kernel
theorem dM_begin_101 : decode cM_begin 101 = .ok (.iload_n 2, 1) := by decide +kernel
theorem dM_begin_102 : decode cM_begin 102 = .ok (.iadd, 1) := by decide +kernel
theorem dM_begin_103 : decode cM_begin 103 = .ok (.aload_n 0, 1) := by decide +kernel
theorem dM_begin_104 : decode cM_begin 104 = .ok (.getfield 21, 3) := by decide +kernel
theorem dM_begin_107 : decode cM_begin 107 = .ok (.iload_n 2, 1) := by decide +kernel
theorem dM_begin_108 : decode cM_begin 108 = .ok (.iaload, 1) := by decide +kernel
theorem dM_begin_109 : decode cM_begin 109 = .ok (.iastore, 1) := by decide +kernel
theorem dM_begin_110 : decode cM_begin 110 = .ok (.aload_n 0, 1) := by decide +kernel
theorem dM_begin_111 : decode cM_begin 111 = .ok (.getfield 42, 3) := by decide +kernel
theorem dM_begin_114 : decode cM_begin 114 = .ok (.bipush 64, 2) := by decide +kernel
theorem dM_begin_116 : decode cM_begin 116 = .ok (.iload_n 1, 1) := by decide +kernel
theorem dM_begin_117 : decode cM_begin 117 = .ok (.imul, 1) := by decide +kernel
theorem dM_begin_118 : decode cM_begin 118 = .ok (.iload_n 2, 1) := by decide +kernel
theorem dM_begin_119 : decode cM_begin 119 = .ok (.iadd, 1) := by decide +kernel
theorem dM_begin_120 : decode cM_begin 120 = .ok (.iconst 0, 1) := by decide +kernel
theorem dM_begin_121 : decode cM_begin 121 = .ok (.iastore, 1) := by decide +kernel
theorem dM_begin_122 : decode cM_begin 122 = .ok (.iinc 2 1, 3) := by decide +kernel
theorem dM_begin_125 : decode cM_begin 125 = .ok (.goto (-55), 3) := by decide +kernel
theorem dM_begin_128 : decode cM_begin 128 = .ok (.aload_n 0, 1) := by decide +kernel
theorem dM_begin_129 : decode cM_begin 129 = .ok (.getfield 81, 3) := by decide +kernel
theorem dM_begin_132 : decode cM_begin 132 = .ok (.ireturn, 1) := by decide +kernel
theorem dM_countNow_0 : decode cM_countNow 0 = .ok (.iconst 0, 1) := by decide +kernel
theorem dM_countNow_1 : decode cM_countNow 1 = .ok (.istore_n 1, 1) := by decide +kernel
theorem dM_countNow_2 : decode cM_countNow 2 = .ok (.iconst 0, 1) := by decide +kernel
theorem dM_countNow_3 : decode cM_countNow 3 = .ok (.istore_n 2, 1) := by decide +kernel
theorem dM_countNow_4 : decode cM_countNow 4 = .ok (.iload_n 2, 1) := by decide +kernel
theorem dM_countNow_5 : decode cM_countNow 5 = .ok (.bipush 64, 2) := by decide +kernel
theorem dM_countNow_7 : decode cM_countNow 7 = .ok (.if_icmp .ge 26, 3) := by decide +kernel
theorem dM_countNow_10 : decode cM_countNow 10 = .ok (.aload_n 0, 1) := by decide +kernel
theorem dM_countNow_11 : decode cM_countNow 11 = .ok (.getfield 17, 3) := by decide +kernel
theorem dM_countNow_14 : decode cM_countNow 14 = .ok (.iload_n 2, 1) := by decide +kernel
theorem dM_countNow_15 : decode cM_countNow 15 = .ok (.baload, 1) := by decide +kernel
theorem dM_countNow_16 : decode cM_countNow 16 = .ok (.ifCond .eq 9, 3) := by decide +kernel
theorem dM_countNow_25 : decode cM_countNow 25 = .ok (.iload_n 1, 1) := by decide +kernel
theorem dM_countNow_26 : decode cM_countNow 26 = .ok (.istore_n 1, 1) := by decide +kernel
theorem dM_countNow_27 : decode cM_countNow 27 = .ok (.iinc 2 1, 3) := by decide +kernel
theorem dM_countNow_30 : decode cM_countNow 30 = .ok (.goto (-26), 3) := by decide +kernel
theorem dM_countNow_33 : decode cM_countNow 33 = .ok (.iload_n 1, 1) := by decide +kernel
theorem dM_countNow_34 : decode cM_countNow 34 = .ok (.ireturn, 1) := by decide +kernel
theorem dM_count_0 : decode cM_count 0 = .ok (.aload_n 0, 1) := by decide +kernel
theorem dM_count_1 : decode cM_count 1 = .ok (.aload_n 0, 1) := by decide +kernel
theorem dM_count_2 : decode cM_count 2 = .ok (.getfield 61, 3) := by decide +kernel
theorem dM_count_5 : decode cM_count 5 = .ok (.ifCond .eq 7, 3) := by decide +kernel
theorem dM_count_12 : decode cM_count 12 = .ok (.iconst 0, 1) := by decide +kernel
theorem dM_count_13 : decode cM_count 13 = .ok (.putfield 52, 3) := by decide +kernel
theorem dM_count_16 : decode cM_count 16 = .ok (.aload_n 0, 1) := by decide +kernel
theorem dM_count_17 : decode cM_count 17 = .ok (.getfield 61, 3) := by decide +kernel
theorem dM_count_20 : decode cM_count 20 = .ok (.ifCond .eq 7, 3) := by decide +kernel
theorem dM_count_27 : decode cM_count 27 = .ok (.aload_n 0, 1) := by decide +kernel
theorem dM_count_28 : decode cM_count 28 = .ok (.invokevirtual 117, 3) := by decide +kernel
theorem dM_count_31 : decode cM_count 31 = .ok (.ireturn, 1) := by decide +kernel
theorem dM_version_0 : decode cM_version 0 = .ok (.aload_n 0, 1) := by decide +kernel
theorem dM_version_1 : decode cM_version 1 = .ok (.aload_n 0, 1) := by decide +kernel
theorem dM_version_2 : decode cM_version 2 = .ok (.getfield 61, 3) := by decide +kernel
theorem dM_version_5 : decode cM_version 5 = .ok (.ifCond .eq 7, 3) := by decide +kernel
theorem dM_version_12 : decode cM_version 12 = .ok (.iconst 0, 1) := by decide +kernel
theorem dM_version_13 : decode cM_version 13 = .ok (.putfield 52, 3) := by decide +kernel
theorem dM_version_16 : decode cM_version 16 = .ok (.aload_n 0, 1) := by decide +kernel
theorem dM_version_17 : decode cM_version 17 = .ok (.getfield 61, 3) := by decide +kernel
theorem dM_version_20 : decode cM_version 20 = .ok (.ifCond .eq 7, 3) := by decide +kernel
theorem dM_version_27 : decode cM_version 27 = .ok (.aload_n 0, 1) := by decide +kernel
theorem dM_version_28 : decode cM_version 28 = .ok (.getfield 81, 3) := by decide +kernel
theorem dM_version_31 : decode cM_version 31 = .ok (.ireturn, 1) := by decide +kernel
theorem dM_left_0 : decode cM_left 0 = .ok (.aload_n 0, 1) := by decide +kernel
theorem dM_left_1 : decode cM_left 1 = .ok (.aload_n 0, 1) := by decide +kernel
theorem dM_left_2 : decode cM_left 2 = .ok (.getfield 61, 3) := by decide +kernel
theorem dM_left_5 : decode cM_left 5 = .ok (.ifCond .eq 7, 3) := by decide +kernel
theorem dM_left_12 : decode cM_left 12 = .ok (.iconst 0, 1) := by decide +kernel
theorem dM_left_13 : decode cM_left 13 = .ok (.putfield 52, 3) := by decide +kernel
theorem dM_left_16 : decode cM_left 16 = .ok (.aload_n 0, 1) := by decide +kernel
theorem dM_left_17 : decode cM_left 17 = .ok (.getfield 61, 3) := by decide +kernel
theorem dM_left_20 : decode cM_left 20 = .ok (.ifCond .eq 7, 3) := by decide +kernel
theorem dM_left_27 : decode cM_left 27 = .ok (.bipush 74, 2) := by decide +kernel
theorem dM_left_29 : decode cM_left 29 = .ok (.aload_n 0, 1) := by decide +kernel
theorem dM_left_30 : decode cM_left 30 = .ok (.getfield 95, 3) := by decide +kernel
theorem dM_left_33 : decode cM_left 33 = .ok (.isub, 1) := by decide +kernel
theorem dM_left_34 : decode cM_left 34 = .ok (.ireturn, 1) := by decide +kernel
theorem dM_isDown_0 : decode cM_isDown 0 = .ok (.aload_n 0, 1) := by decide +kernel
theorem dM_isDown_1 : decode cM_isDown 1 = .ok (.iconst 0, 1) := by decide +kernel
theorem dM_isDown_2 : decode cM_isDown 2 = .ok (.putfield 52, 3) := by decide +kernel
theorem dM_isDown_5 : decode cM_isDown 5 = .ok (.aload_n 0, 1) := by decide +kernel
theorem dM_isDown_6 : decode cM_isDown 6 = .ok (.getfield 61, 3) := by decide +kernel
theorem dM_isDown_9 : decode cM_isDown 9 = .ok (.ireturn, 1) := by decide +kernel
theorem dM_arm_0 : decode cM_arm 0 = .ok (.aload_n 0, 1) := by decide +kernel
theorem dM_arm_1 : decode cM_arm 1 = .ok (.iconst 0, 1) := by decide +kernel
theorem dM_arm_2 : decode cM_arm 2 = .ok (.putfield 52, 3) := by decide +kernel
theorem dM_arm_5 : decode cM_arm 5 = .ok (.aload_n 0, 1) := by decide +kernel
theorem dM_arm_6 : decode cM_arm 6 = .ok (.iload_n 1, 1) := by decide +kernel
theorem dM_arm_7 : decode cM_arm 7 = .ok (.ifCond .ge 7, 3) := by decide +kernel
theorem dM_arm_10 : decode cM_arm 10 = .ok (.iconst (-1), 1) := by decide +kernel
theorem dM_arm_11 : decode cM_arm 11 = .ok (.goto 4, 3) := by decide +kernel
theorem dM_arm_14 : decode cM_arm 14 = .ok (.iload_n 1, 1) := by decide +kernel
theorem dM_arm_15 : decode cM_arm 15 = .ok (.putfield 13, 3) := by decide +kernel
theorem dM_arm_18 : decode cM_arm 18 = .ok (.aload_n 0, 1) := by decide +kernel
theorem dM_arm_19 : decode cM_arm 19 = .ok (.iload_n 2, 1) := by decide +kernel
theorem dM_arm_20 : decode cM_arm 20 = .ok (.ifCond .ge 7, 3) := by decide +kernel
theorem dM_arm_23 : decode cM_arm 23 = .ok (.iconst 0, 1) := by decide +kernel
theorem dM_arm_24 : decode cM_arm 24 = .ok (.goto 13, 3) := by decide +kernel
theorem dM_arm_27 : decode cM_arm 27 = .ok (.iload_n 2, 1) := by decide +kernel
theorem dM_arm_28 : decode cM_arm 28 = .ok (.iconst 3, 1) := by decide +kernel
theorem dM_arm_29 : decode cM_arm 29 = .ok (.if_icmp .le 7, 3) := by decide +kernel
theorem dM_arm_32 : decode cM_arm 32 = .ok (.iconst 3, 1) := by decide +kernel
theorem dM_arm_33 : decode cM_arm 33 = .ok (.goto 4, 3) := by decide +kernel
theorem dM_arm_36 : decode cM_arm 36 = .ok (.iload_n 2, 1) := by decide +kernel
theorem dM_arm_37 : decode cM_arm 37 = .ok (.putfield 58, 3) := by decide +kernel
theorem dM_arm_40 : decode cM_arm 40 = .ok (.return_, 1) := by decide +kernel
theorem dM_number_0 : decode cM_number 0 = .ok (.aload_n 0, 1) := by decide +kernel
theorem dM_number_1 : decode cM_number 1 = .ok (.aload_n 0, 1) := by decide +kernel
theorem dM_number_2 : decode cM_number 2 = .ok (.getfield 61, 3) := by decide +kernel
theorem dM_number_5 : decode cM_number 5 = .ok (.ifCond .eq 7, 3) := by decide +kernel
theorem dM_number_12 : decode cM_number 12 = .ok (.iload_n 1, 1) := by decide +kernel
theorem dM_number_13 : decode cM_number 13 = .ok (.iconst 0, 1) := by decide +kernel
theorem dM_number_14 : decode cM_number 14 = .ok (.bipush 63, 2) := by decide +kernel
theorem dM_number_16 : decode cM_number 16 = .ok (.invokestatic 73, 3) := by decide +kernel
theorem dM_number_19 : decode cM_number 19 = .ok (.ifCond .ne 7, 3) := by decide +kernel
theorem dM_number_22 : decode cM_number 22 = .ok (.iconst 2, 1) := by decide +kernel
theorem dM_number_23 : decode cM_number 23 = .ok (.goto 17, 3) := by decide +kernel
theorem dM_number_26 : decode cM_number 26 = .ok (.aload_n 0, 1) := by decide +kernel
theorem dM_number_27 : decode cM_number 27 = .ok (.getfield 17, 3) := by decide +kernel
theorem dM_number_30 : decode cM_number 30 = .ok (.iload_n 1, 1) := by decide +kernel
theorem dM_number_31 : decode cM_number 31 = .ok (.baload, 1) := by decide +kernel
theorem dM_number_32 : decode cM_number 32 = .ok (.ifCond .eq 7, 3) := by decide +kernel
theorem dM_number_39 : decode cM_number 39 = .ok (.iconst 3, 1) := by decide +kernel
theorem dM_number_40 : decode cM_number 40 = .ok (.putfield 52, 3) := by decide +kernel
theorem dM_number_43 : decode cM_number 43 = .ok (.aload_n 0, 1) := by decide +kernel
theorem dM_number_44 : decode cM_number 44 = .ok (.getfield 52, 3) := by decide +kernel
theorem dM_number_47 : decode cM_number 47 = .ok (.ifCond .le 7, 3) := by decide +kernel
theorem dM_number_50 : decode cM_number 50 = .ok (.iconst 0, 1) := by decide +kernel
theorem dM_number_51 : decode cM_number 51 = .ok (.goto 9, 3) := by decide +kernel
theorem dM_number_60 : decode cM_number 60 = .ok (.ireturn, 1) := by decide +kernel
set_option maxHeartbeats 4000000 in
set_option maxRecDepth 100000 in
theorem c_M_begin_x (l : Launch) (dC : Nat → ClassId) (dI : Nat → Nat → Nat) (cI cZ cJ cT : ClassId) (m0 md mh mn mc mo mb mk ml ms mw : Nat) (t9 : Int32) (sz : Nat) (hb9 : t9 < 0 ∨ (¬ t9 < 0 ∧ 2 < t9)) : Met l yM_begin (Cond.code yM_begin cM_begin 3 (some .int) :: wsA) ({ frames := 1, cells := 0, slots := 0, locals := 22 }) (va_Pc [.ref m0, .int t9] (fun U => U.heap.size = sz ∧ va_P (dC, dI) vwC [(m0, .inr (4, [.int 0, .ref md, .int 0, .int (-1), .int 0, .ref mh, .ref mn, .ref mc, .int 0, .int 1, .int 0, .int 0, .ref mo, .ref mb, .ref mk, .ref ml, .ref ms, .ref mw])), (mo, .inl (cZ, 3, .inl (fun _ => 0)))] U.heap ∧ KK dC dI cI cZ cJ cT U ∧ va_D (fun _ => True) [(m0, .inr (4, [.int 0, .ref md, .int 0, .int (-1), .int 0, .ref mh, .ref mn, .ref mc, .int 0, .int 1, .int 0, .int 0, .ref mo, .ref mb, .ref mk, .ref ml, .ref ms, .ref mw])), (mo, .inl (cZ, 3, .inl (fun _ => 0)))])) (va_Qi (S := Nat → Nat) (fun r _ => r = 0) (fun u t => va_P (dC, dI) vwC [(m0, .inr (4, [.int 2, .ref md, .int 0, .int (-1), .int 0, .ref mh, .ref mn, .ref mc, .int 0, .int 1, .int 0, .int 0, .ref mo, .ref mb, .ref mk, .ref ml, .ref ms, .ref mw]))] t.heap ∧ va_D (va_A [(m0, .inr (4, [.int 0, .ref md, .int 0, .int (-1), .int 0, .ref mh, .ref mn, .ref mc, .int 0, .int 1, .int 0, .int 0, .ref mo, .ref mb, .ref mk, .ref ml, .ref ms, .ref mw])), (mo, .inl (cZ, 3, .inl (fun _ => 0)))] sz) [(m0, .inr (4, [.int 2, .ref md, .int 0, .int (-1), .int 0, .ref mh, .ref mn, .ref mc, .int 0, .int 1, .int 0, .int 0, .ref mo, .ref mb, .ref mk, .ref ml, .ref ms, .ref mw]))]) (va_A [(m0, .inr (4, [.int 0, .ref md, .int 0, .int (-1), .int 0, .ref mh, .ref mn, .ref mc, .int 0, .int 1, .int 0, .int 0, .ref mo, .ref mb, .ref mk, .ref ml, .ref ms, .ref mw])), (mo, .inl (cZ, 3, .inl (fun _ => 0)))] sz)) 0 0 (va_A [(m0, .inr (4, [.int 0, .ref md, .int 0, .int (-1), .int 0, .ref mh, .ref mn, .ref mc, .int 0, .int 1, .int 0, .int 0, .ref mo, .ref mb, .ref mk, .ref ml, .ref ms, .ref mw])), (mo, .inl (cZ, 3, .inl (fun _ => 0)))] sz) := by
  refine Met.ofW (cc := cM_begin) (maxL := 3) (ret := (some .int)) (by decide) rfl ?_
  intro p e s m args below meth c s₁ B hml hv
  obtain ⟨rfl, hsz, hP, hKK, hD0⟩ := hv
  rcases hb9 with h1 | ⟨h1, h3⟩
  · have hK := hKK.1
    have hx := B.exec
    have hb := B.bytes
    have hr := B.returns
    have hw : ∀ w ∈ wsA, w.before _ s = true := fun w h => atoms_spec (ws := (Cond.code yM_begin cM_begin 3 (some .int) :: wsA)) B.pre w (List.mem_cons_of_mem _ h)
    have hown : s.vm.findClass "LoggedStoreModel" = some m.cls := findClass_of_methodNamed B.named
    have hlocks := B.notSynchronized
    subst hsz
    have hD := hD0.self (sz := s.heap.size)
    generalize hAe : va_A [(m0, .inr (4, [.int 0, .ref md, .int 0, .int (-1), .int 0, .ref mh, .ref mn, .ref mc, .int 0, .int 1, .int 0, .int 0, .ref mo, .ref mb, .ref mk, .ref ml, .ref ms, .ref mw])), (mo, .inl (cZ, 3, .inl (fun _ => 0)))] s.heap.size = A at hD ⊢
    have hA : ∀ q : Nat, s.heap.size ≤ q → A q := fun q h => by rw [← hAe]; exact Or.inr h
    have hS : va_S A s.heap s.heap [] := va_S.rf
    have hl := lv_entry ([.ref m0, .int t9]) (n := 3) (Nat.le_of_ble_eq_true rfl)
    rw [lg_entry_eq]
    generalize (lg_sl ([.ref m0, .int t9]) ++ List.replicate (3 - (lg_sl ([.ref m0, .int t9])).length) Slot.unset).toArray = ls at hl ⊢
    have hl : lv_has ls 3 [(0, .ref m0), (1, .int t9)] := hl
    refine lv_aload_n hx hb dM_begin_0 rfl (lv_at hl 0 rfl) ?_
    refine lv_aload_n hx hb dM_begin_1 rfl (lv_at hl 0 rfl) ?_
    refine va_get (D := (dC, dI)) (ci := 4) (v := .int 0) (C := "LoggedStoreModel") (T := uM) (N := 18) hx hb hw inM hown hK hP 0 rfl rfl 2 (by decide) (hw _ w614) (fun _ h9 => h9) rfl dM_begin_2 ?_
    refine lv_if_eq (tgt := 12) hx hb dM_begin_5 (by decide) (fun _ => ?_) (fun h9 => absurd (by decide) h9)
    refine lv_iload_n hx hb dM_begin_12 rfl (lv_at hl 1 rfl) ?_
    refine lv_iconst (v := 0) hx hb dM_begin_13 (by decide) ?_
    refine lv_iconst (v := 2) hx hb dM_begin_14 (by decide) ?_
    have hPc := hP.sub (ws' := []) [] rfl
    refine vp_callSi (W.runS (As := [.int t9, .int 0, .int 2]) (rest := [.ref m0]) ⟨hx, hb, hml, hown, hw⟩ (c_within_f l dC dI cI cZ cJ cT t9 0 2 h1) ⟨callB_of 3 hw (gA0 w677) rfl rfl rfl (hw _ w45) (hw _ w675) (by decide +kernel) ⟨Nat.le_of_ble_eq_true rfl, Nat.le_of_ble_eq_true rfl⟩, (hw _ w676)⟩ ⟨kb_S, fun U hU hW => ⟨rfl, by rw [hU]; exact hPc, hKK.moved hW⟩⟩ rfl rfl hl.1 rfl (lv_room (Nat.le_of_ble_eq_true rfl)) dM_begin_15 ⟨Nat.le_of_ble_eq_true rfl, Nat.le_of_ble_eq_true rfl⟩) (fun r1 e2 => ?_)
    obtain rfl : r1 = 0 := e2
    refine lv_if_ne (tgt := 25) hx hb dM_begin_18 (by decide) (fun h9 => absurd (by decide) h9) (fun _ => ?_)
    refine lv_iconst (v := 2) hx hb dM_begin_21 (by decide) ?_
    refine lv_goto (tgt := 39) hx hb dM_begin_22 (by decide) ?_
    refine va_put (D := (dC, dI)) (ci := 4) (v := .int 2) (ty := .int) (C := "LoggedStoreModel") (T := uM) (N := 18) hx hb hw inM tyM tyM_ok nmM hown hK hP hD hS 0 rfl rfl 0 (by decide) (hw _ w612) (fun _ h9 => h9) rfl (by decide +kernel) rfl rfl (Nat.le_of_ble_eq_true rfl) dM_begin_39 (fun H locs hP hD hS => ?_)
    have hP : va_P (dC, dI) vwC [(m0, .inr (4, [.int 2, .ref md, .int 0, .int (-1), .int 0, .ref mh, .ref mn, .ref mc, .int 0, .int 1, .int 0, .int 0, .ref mo, .ref mb, .ref mk, .ref ml, .ref ms, .ref mw])), (mo, .inl (cZ, 3, .inl (fun _ => 0)))] H := hP
    have hD : va_D A [(m0, .inr (4, [.int 2, .ref md, .int 0, .int (-1), .int 0, .ref mh, .ref mn, .ref mc, .int 0, .int 1, .int 0, .int 0, .ref mo, .ref mb, .ref mk, .ref ml, .ref ms, .ref mw])), (mo, .inl (cZ, 3, .inl (fun _ => 0)))] := hD
    refine lv_aload_n hx hb dM_begin_42 rfl (lv_at hl 0 rfl) ?_
    refine va_get (D := (dC, dI)) (ci := 4) (v := .int 2) (C := "LoggedStoreModel") (T := uM) (N := 18) hx hb hw inM hown hK hP 0 rfl rfl 0 (by decide) (hw _ w612) (fun _ h9 => h9) rfl dM_begin_43 ?_
    refine lv_if_le (tgt := 51) hx hb dM_begin_46 (by decide) (fun h9 => absurd h9 (by decide)) (fun _ => ?_)
    refine lv_iconst (v := 0) hx hb dM_begin_49 (by decide) ?_
    have hP9 := hP.sub (ws' := [(m0, .inr (4, [.int 2, .ref md, .int 0, .int (-1), .int 0, .ref mh, .ref mn, .ref mc, .int 0, .int 1, .int 0, .int 0, .ref mo, .ref mb, .ref mk, .ref ml, .ref ms, .ref mw]))]) [0] rfl
    have hD9 := hD.sub (ws' := [(m0, .inr (4, [.int 2, .ref md, .int 0, .int (-1), .int 0, .ref mh, .ref mn, .ref mc, .int 0, .int 1, .int 0, .int 0, .ref mo, .ref mb, .ref mk, .ref ml, .ref ms, .ref mw]))]) [0] (by decide) rfl
    refine W.widen (k := 0) (n := 0) (by decide) (by decide) ?_
    exact W.iret (v := 0) hx hb hr (fun t ht hW => ⟨⟨0, fun _ => 0, rfl, rfl, by rw [ht]; exact hP9, hD9⟩, hS.F ht⟩) hS.2.2 dM_begin_50
  · have hK := hKK.1
    have hx := B.exec
    have hb := B.bytes
    have hr := B.returns
    have hw : ∀ w ∈ wsA, w.before _ s = true := fun w h => atoms_spec (ws := (Cond.code yM_begin cM_begin 3 (some .int) :: wsA)) B.pre w (List.mem_cons_of_mem _ h)
    have hown : s.vm.findClass "LoggedStoreModel" = some m.cls := findClass_of_methodNamed B.named
    have hlocks := B.notSynchronized
    subst hsz
    have hD := hD0.self (sz := s.heap.size)
    generalize hAe : va_A [(m0, .inr (4, [.int 0, .ref md, .int 0, .int (-1), .int 0, .ref mh, .ref mn, .ref mc, .int 0, .int 1, .int 0, .int 0, .ref mo, .ref mb, .ref mk, .ref ml, .ref ms, .ref mw])), (mo, .inl (cZ, 3, .inl (fun _ => 0)))] s.heap.size = A at hD ⊢
    have hA : ∀ q : Nat, s.heap.size ≤ q → A q := fun q h => by rw [← hAe]; exact Or.inr h
    have hS : va_S A s.heap s.heap [] := va_S.rf
    have hl := lv_entry ([.ref m0, .int t9]) (n := 3) (Nat.le_of_ble_eq_true rfl)
    rw [lg_entry_eq]
    generalize (lg_sl ([.ref m0, .int t9]) ++ List.replicate (3 - (lg_sl ([.ref m0, .int t9])).length) Slot.unset).toArray = ls at hl ⊢
    have hl : lv_has ls 3 [(0, .ref m0), (1, .int t9)] := hl
    refine lv_aload_n hx hb dM_begin_0 rfl (lv_at hl 0 rfl) ?_
    refine lv_aload_n hx hb dM_begin_1 rfl (lv_at hl 0 rfl) ?_
    refine va_get (D := (dC, dI)) (ci := 4) (v := .int 0) (C := "LoggedStoreModel") (T := uM) (N := 18) hx hb hw inM hown hK hP 0 rfl rfl 2 (by decide) (hw _ w614) (fun _ h9 => h9) rfl dM_begin_2 ?_
    refine lv_if_eq (tgt := 12) hx hb dM_begin_5 (by decide) (fun _ => ?_) (fun h9 => absurd (by decide) h9)
    refine lv_iload_n hx hb dM_begin_12 rfl (lv_at hl 1 rfl) ?_
    refine lv_iconst (v := 0) hx hb dM_begin_13 (by decide) ?_
    refine lv_iconst (v := 2) hx hb dM_begin_14 (by decide) ?_
    have hPc := hP.sub (ws' := []) [] rfl
    refine vp_callSi (W.runS (As := [.int t9, .int 0, .int 2]) (rest := [.ref m0]) ⟨hx, hb, hml, hown, hw⟩ (c_within_g l dC dI cI cZ cJ cT t9 0 2 h1 h3) ⟨callB_of 3 hw (gA0 w677) rfl rfl rfl (hw _ w45) (hw _ w675) (by decide +kernel) ⟨Nat.le_of_ble_eq_true rfl, Nat.le_of_ble_eq_true rfl⟩, (hw _ w676)⟩ ⟨kb_S, fun U hU hW => ⟨rfl, by rw [hU]; exact hPc, hKK.moved hW⟩⟩ rfl rfl hl.1 rfl (lv_room (Nat.le_of_ble_eq_true rfl)) dM_begin_15 ⟨Nat.le_of_ble_eq_true rfl, Nat.le_of_ble_eq_true rfl⟩) (fun r1 e2 => ?_)
    obtain rfl : r1 = 0 := e2
    refine lv_if_ne (tgt := 25) hx hb dM_begin_18 (by decide) (fun h9 => absurd (by decide) h9) (fun _ => ?_)
    refine lv_iconst (v := 2) hx hb dM_begin_21 (by decide) ?_
    refine lv_goto (tgt := 39) hx hb dM_begin_22 (by decide) ?_
    refine va_put (D := (dC, dI)) (ci := 4) (v := .int 2) (ty := .int) (C := "LoggedStoreModel") (T := uM) (N := 18) hx hb hw inM tyM tyM_ok nmM hown hK hP hD hS 0 rfl rfl 0 (by decide) (hw _ w612) (fun _ h9 => h9) rfl (by decide +kernel) rfl rfl (Nat.le_of_ble_eq_true rfl) dM_begin_39 (fun H locs hP hD hS => ?_)
    have hP : va_P (dC, dI) vwC [(m0, .inr (4, [.int 2, .ref md, .int 0, .int (-1), .int 0, .ref mh, .ref mn, .ref mc, .int 0, .int 1, .int 0, .int 0, .ref mo, .ref mb, .ref mk, .ref ml, .ref ms, .ref mw])), (mo, .inl (cZ, 3, .inl (fun _ => 0)))] H := hP
    have hD : va_D A [(m0, .inr (4, [.int 2, .ref md, .int 0, .int (-1), .int 0, .ref mh, .ref mn, .ref mc, .int 0, .int 1, .int 0, .int 0, .ref mo, .ref mb, .ref mk, .ref ml, .ref ms, .ref mw])), (mo, .inl (cZ, 3, .inl (fun _ => 0)))] := hD
    refine lv_aload_n hx hb dM_begin_42 rfl (lv_at hl 0 rfl) ?_
    refine va_get (D := (dC, dI)) (ci := 4) (v := .int 2) (C := "LoggedStoreModel") (T := uM) (N := 18) hx hb hw inM hown hK hP 0 rfl rfl 0 (by decide) (hw _ w612) (fun _ h9 => h9) rfl dM_begin_43 ?_
    refine lv_if_le (tgt := 51) hx hb dM_begin_46 (by decide) (fun h9 => absurd h9 (by decide)) (fun _ => ?_)
    refine lv_iconst (v := 0) hx hb dM_begin_49 (by decide) ?_
    have hP9 := hP.sub (ws' := [(m0, .inr (4, [.int 2, .ref md, .int 0, .int (-1), .int 0, .ref mh, .ref mn, .ref mc, .int 0, .int 1, .int 0, .int 0, .ref mo, .ref mb, .ref mk, .ref ml, .ref ms, .ref mw]))]) [0] rfl
    have hD9 := hD.sub (ws' := [(m0, .inr (4, [.int 2, .ref md, .int 0, .int (-1), .int 0, .ref mh, .ref mn, .ref mc, .int 0, .int 1, .int 0, .int 0, .ref mo, .ref mb, .ref mk, .ref ml, .ref ms, .ref mw]))]) [0] (by decide) rfl
    refine W.widen (k := 0) (n := 0) (by decide) (by decide) ?_
    exact W.iret (v := 0) hx hb hr (fun t ht hW => ⟨⟨0, fun _ => 0, rfl, rfl, by rw [ht]; exact hP9, hD9⟩, hS.F ht⟩) hS.2.2 dM_begin_50

set_option maxHeartbeats 4000000 in
set_option maxRecDepth 100000 in
theorem c_M_begin_0 (l : Launch) (dC : Nat → ClassId) (dI : Nat → Nat → Nat) (cI cZ cJ cT : ClassId) (m0 md mh mn mc mo mb mk ml ms mw : Nat) (sz : Nat) : Met l yM_begin (Cond.code yM_begin cM_begin 3 (some .int) :: wsA) ({ frames := 1, cells := 0, slots := 0, locals := 22 }) (va_Pc [.ref m0, .int 0] (fun U => U.heap.size = sz ∧ va_P (dC, dI) vwC [(m0, .inr (4, [.int 0, .ref md, .int 0, .int (-1), .int 0, .ref mh, .ref mn, .ref mc, .int 0, .int 1, .int 0, .int 0, .ref mo, .ref mb, .ref mk, .ref ml, .ref ms, .ref mw])), (mo, .inl (cZ, 3, .inl (fun _ => 0))), (mb, .inl (cI, 3, .inl (fun _ => 0))), (mk, .inl (cZ, 192, .inl (fun _ => 0))), (mh, .inl (cZ, 64, .inl (fun _ => 0))), (ml, .inl (cI, 192, .inl (fun _ => 0))), (mn, .inl (cI, 64, .inl (fun _ => 0))), (ms, .inl (cI, 192, .inl (fun _ => 0)))] U.heap ∧ KK dC dI cI cZ cJ cT U ∧ va_D (fun _ => True) [(m0, .inr (4, [.int 0, .ref md, .int 0, .int (-1), .int 0, .ref mh, .ref mn, .ref mc, .int 0, .int 1, .int 0, .int 0, .ref mo, .ref mb, .ref mk, .ref ml, .ref ms, .ref mw])), (mo, .inl (cZ, 3, .inl (fun _ => 0))), (mb, .inl (cI, 3, .inl (fun _ => 0))), (mk, .inl (cZ, 192, .inl (fun _ => 0))), (mh, .inl (cZ, 64, .inl (fun _ => 0))), (ml, .inl (cI, 192, .inl (fun _ => 0))), (mn, .inl (cI, 64, .inl (fun _ => 0))), (ms, .inl (cI, 192, .inl (fun _ => 0)))])) (va_Qi (S := Nat → Nat) (fun r _ => r = 0) (fun u t => va_P (dC, dI) vwC [(m0, .inr (4, [.int 0, .ref md, .int 0, .int (-1), .int 0, .ref mh, .ref mn, .ref mc, .int 0, .int 1, .int 0, .int 0, .ref mo, .ref mb, .ref mk, .ref ml, .ref ms, .ref mw]))] t.heap ∧ va_D (va_A [(m0, .inr (4, [.int 0, .ref md, .int 0, .int (-1), .int 0, .ref mh, .ref mn, .ref mc, .int 0, .int 1, .int 0, .int 0, .ref mo, .ref mb, .ref mk, .ref ml, .ref ms, .ref mw])), (mo, .inl (cZ, 3, .inl (fun _ => 0))), (mb, .inl (cI, 3, .inl (fun _ => 0))), (mk, .inl (cZ, 192, .inl (fun _ => 0))), (mh, .inl (cZ, 64, .inl (fun _ => 0))), (ml, .inl (cI, 192, .inl (fun _ => 0))), (mn, .inl (cI, 64, .inl (fun _ => 0))), (ms, .inl (cI, 192, .inl (fun _ => 0)))] sz) [(m0, .inr (4, [.int 0, .ref md, .int 0, .int (-1), .int 0, .ref mh, .ref mn, .ref mc, .int 0, .int 1, .int 0, .int 0, .ref mo, .ref mb, .ref mk, .ref ml, .ref ms, .ref mw]))]) (va_A [(m0, .inr (4, [.int 0, .ref md, .int 0, .int (-1), .int 0, .ref mh, .ref mn, .ref mc, .int 0, .int 1, .int 0, .int 0, .ref mo, .ref mb, .ref mk, .ref ml, .ref ms, .ref mw])), (mo, .inl (cZ, 3, .inl (fun _ => 0))), (mb, .inl (cI, 3, .inl (fun _ => 0))), (mk, .inl (cZ, 192, .inl (fun _ => 0))), (mh, .inl (cZ, 64, .inl (fun _ => 0))), (ml, .inl (cI, 192, .inl (fun _ => 0))), (mn, .inl (cI, 64, .inl (fun _ => 0))), (ms, .inl (cI, 192, .inl (fun _ => 0)))] sz)) 0 0 (va_A [(m0, .inr (4, [.int 0, .ref md, .int 0, .int (-1), .int 0, .ref mh, .ref mn, .ref mc, .int 0, .int 1, .int 0, .int 0, .ref mo, .ref mb, .ref mk, .ref ml, .ref ms, .ref mw])), (mo, .inl (cZ, 3, .inl (fun _ => 0))), (mb, .inl (cI, 3, .inl (fun _ => 0))), (mk, .inl (cZ, 192, .inl (fun _ => 0))), (mh, .inl (cZ, 64, .inl (fun _ => 0))), (ml, .inl (cI, 192, .inl (fun _ => 0))), (mn, .inl (cI, 64, .inl (fun _ => 0))), (ms, .inl (cI, 192, .inl (fun _ => 0)))] sz) := by
  refine Met.ofW (cc := cM_begin) (maxL := 3) (ret := (some .int)) (by decide) rfl ?_
  intro p e s m args below meth c s₁ B hml hv
  obtain ⟨rfl, hsz, hP, hKK, hD0⟩ := hv
  have hK := hKK.1
  have hx := B.exec
  have hb := B.bytes
  have hr := B.returns
  have hw : ∀ w ∈ wsA, w.before _ s = true := fun w h => atoms_spec (ws := (Cond.code yM_begin cM_begin 3 (some .int) :: wsA)) B.pre w (List.mem_cons_of_mem _ h)
  have hown : s.vm.findClass "LoggedStoreModel" = some m.cls := findClass_of_methodNamed B.named
  have hlocks := B.notSynchronized
  subst hsz
  have hD := hD0.self (sz := s.heap.size)
  generalize hAe : va_A [(m0, .inr (4, [.int 0, .ref md, .int 0, .int (-1), .int 0, .ref mh, .ref mn, .ref mc, .int 0, .int 1, .int 0, .int 0, .ref mo, .ref mb, .ref mk, .ref ml, .ref ms, .ref mw])), (mo, .inl (cZ, 3, .inl (fun _ => 0))), (mb, .inl (cI, 3, .inl (fun _ => 0))), (mk, .inl (cZ, 192, .inl (fun _ => 0))), (mh, .inl (cZ, 64, .inl (fun _ => 0))), (ml, .inl (cI, 192, .inl (fun _ => 0))), (mn, .inl (cI, 64, .inl (fun _ => 0))), (ms, .inl (cI, 192, .inl (fun _ => 0)))] s.heap.size = A at hD ⊢
  have hA : ∀ q : Nat, s.heap.size ≤ q → A q := fun q h => by rw [← hAe]; exact Or.inr h
  have hS : va_S A s.heap s.heap [] := va_S.rf
  have hl := lv_entry ([.ref m0, .int 0]) (n := 3) (Nat.le_of_ble_eq_true rfl)
  rw [lg_entry_eq]
  generalize (lg_sl ([.ref m0, .int 0]) ++ List.replicate (3 - (lg_sl ([.ref m0, .int 0])).length) Slot.unset).toArray = ls at hl ⊢
  have hl : lv_has ls 3 [(0, .ref m0), (1, .int 0)] := hl
  refine lv_aload_n hx hb dM_begin_0 rfl (lv_at hl 0 rfl) ?_
  refine lv_aload_n hx hb dM_begin_1 rfl (lv_at hl 0 rfl) ?_
  refine va_get (D := (dC, dI)) (ci := 4) (v := .int 0) (C := "LoggedStoreModel") (T := uM) (N := 18) hx hb hw inM hown hK hP 0 rfl rfl 2 (by decide) (hw _ w614) (fun _ h9 => h9) rfl dM_begin_2 ?_
  refine lv_if_eq (tgt := 12) hx hb dM_begin_5 (by decide) (fun _ => ?_) (fun h9 => absurd (by decide) h9)
  refine lv_iload_n hx hb dM_begin_12 rfl (lv_at hl 1 rfl) ?_
  refine lv_iconst (v := 0) hx hb dM_begin_13 (by decide) ?_
  refine lv_iconst (v := 2) hx hb dM_begin_14 (by decide) ?_
  have hPc := hP.sub (ws' := []) [] rfl
  refine vp_callSi (W.runS (As := [.int 0, .int 0, .int 2]) (rest := [.ref m0]) ⟨hx, hb, hml, hown, hw⟩ (c_within_t l dC dI cI cZ cJ cT 0 0 2 (by decide) (by decide)) ⟨callB_of 3 hw (gA0 w677) rfl rfl rfl (hw _ w45) (hw _ w675) (by decide +kernel) ⟨Nat.le_of_ble_eq_true rfl, Nat.le_of_ble_eq_true rfl⟩, (hw _ w676)⟩ ⟨kb_S, fun U hU hW => ⟨rfl, by rw [hU]; exact hPc, hKK.moved hW⟩⟩ rfl rfl hl.1 rfl (lv_room (Nat.le_of_ble_eq_true rfl)) dM_begin_15 ⟨Nat.le_of_ble_eq_true rfl, Nat.le_of_ble_eq_true rfl⟩) (fun r1 e2 => ?_)
  obtain rfl : r1 = 1 := e2
  refine lv_if_ne (tgt := 25) hx hb dM_begin_18 (by decide) (fun _ => ?_) (fun h9 => absurd h9 (by decide))
  refine lv_aload_n hx hb dM_begin_25 rfl (lv_at hl 0 rfl) ?_
  refine va_get (D := (dC, dI)) (ci := 4) (v := .ref mo) (C := "LoggedStoreModel") (T := uM) (N := 18) hx hb hw inM hown hK hP 0 rfl rfl 12 (by decide) (hw _ w624) (fun _ h9 => h9) rfl dM_begin_26 ?_
  refine lv_iload_n hx hb dM_begin_29 rfl (lv_at hl 1 rfl) ?_
  refine va_zald hx hb hK hP 1 1 rfl rfl (tv_in (by decide +kernel)) dM_begin_30 ?_
  refine lv_topi (nm_r (e' := 0) (rfl) ?_)
  refine lv_if_eq (tgt := 38) hx hb dM_begin_31 (by decide) (fun _ => ?_) (fun h9 => absurd (by decide) h9)
  refine lv_iconst (v := 0) hx hb dM_begin_38 (by decide) ?_
  refine va_put (D := (dC, dI)) (ci := 4) (v := .int 0) (ty := .int) (C := "LoggedStoreModel") (T := uM) (N := 18) hx hb hw inM tyM tyM_ok nmM hown hK hP hD hS 0 rfl rfl 0 (by decide) (hw _ w612) (fun _ h9 => h9) rfl (by decide +kernel) rfl rfl (Nat.le_of_ble_eq_true rfl) dM_begin_39 (fun H locs hP hD hS => ?_)
  have hP : va_P (dC, dI) vwC [(m0, .inr (4, [.int 0, .ref md, .int 0, .int (-1), .int 0, .ref mh, .ref mn, .ref mc, .int 0, .int 1, .int 0, .int 0, .ref mo, .ref mb, .ref mk, .ref ml, .ref ms, .ref mw])), (mo, .inl (cZ, 3, .inl (fun _ => 0))), (mb, .inl (cI, 3, .inl (fun _ => 0))), (mk, .inl (cZ, 192, .inl (fun _ => 0))), (mh, .inl (cZ, 64, .inl (fun _ => 0))), (ml, .inl (cI, 192, .inl (fun _ => 0))), (mn, .inl (cI, 64, .inl (fun _ => 0))), (ms, .inl (cI, 192, .inl (fun _ => 0)))] H := hP
  have hD : va_D A [(m0, .inr (4, [.int 0, .ref md, .int 0, .int (-1), .int 0, .ref mh, .ref mn, .ref mc, .int 0, .int 1, .int 0, .int 0, .ref mo, .ref mb, .ref mk, .ref ml, .ref ms, .ref mw])), (mo, .inl (cZ, 3, .inl (fun _ => 0))), (mb, .inl (cI, 3, .inl (fun _ => 0))), (mk, .inl (cZ, 192, .inl (fun _ => 0))), (mh, .inl (cZ, 64, .inl (fun _ => 0))), (ml, .inl (cI, 192, .inl (fun _ => 0))), (mn, .inl (cI, 64, .inl (fun _ => 0))), (ms, .inl (cI, 192, .inl (fun _ => 0)))] := hD
  refine lv_aload_n hx hb dM_begin_42 rfl (lv_at hl 0 rfl) ?_
  refine va_get (D := (dC, dI)) (ci := 4) (v := .int 0) (C := "LoggedStoreModel") (T := uM) (N := 18) hx hb hw inM hown hK hP 0 rfl rfl 0 (by decide) (hw _ w612) (fun _ h9 => h9) rfl dM_begin_43 ?_
  refine lv_if_le (tgt := 51) hx hb dM_begin_46 (by decide) (fun _ => ?_) (fun h9 => absurd (by decide) h9)
  refine lv_aload_n hx hb dM_begin_51 rfl (lv_at hl 0 rfl) ?_
  refine va_get (D := (dC, dI)) (ci := 4) (v := .ref mo) (C := "LoggedStoreModel") (T := uM) (N := 18) hx hb hw inM hown hK hP 0 rfl rfl 12 (by decide) (hw _ w624) (fun _ h9 => h9) rfl dM_begin_52 ?_
  refine lv_iload_n hx hb dM_begin_55 rfl (lv_at hl 1 rfl) ?_
  refine lv_iconst (v := 1) hx hb dM_begin_56 (by decide) ?_
  refine va_zast hx hb hK hP hD hS 1 1 rfl rfl (tv_in (by decide +kernel)) dM_begin_57 (fun H locs hP hD hS => ?_)
  have hP : va_P (dC, dI) vwC [(m0, .inr (4, [.int 0, .ref md, .int 0, .int (-1), .int 0, .ref mh, .ref mn, .ref mc, .int 0, .int 1, .int 0, .int 0, .ref mo, .ref mb, .ref mk, .ref ml, .ref ms, .ref mw])), (mo, .inl (cZ, 3, .inl (upd (fun _ => 0) (0 : Int32).toNatClampNeg (vp_nar .boolean 1)))), (mb, .inl (cI, 3, .inl (fun _ => 0))), (mk, .inl (cZ, 192, .inl (fun _ => 0))), (mh, .inl (cZ, 64, .inl (fun _ => 0))), (ml, .inl (cI, 192, .inl (fun _ => 0))), (mn, .inl (cI, 64, .inl (fun _ => 0))), (ms, .inl (cI, 192, .inl (fun _ => 0)))] H := hP
  have hD : va_D A [(m0, .inr (4, [.int 0, .ref md, .int 0, .int (-1), .int 0, .ref mh, .ref mn, .ref mc, .int 0, .int 1, .int 0, .int 0, .ref mo, .ref mb, .ref mk, .ref ml, .ref ms, .ref mw])), (mo, .inl (cZ, 3, .inl (upd (fun _ => 0) (0 : Int32).toNatClampNeg (vp_nar .boolean 1)))), (mb, .inl (cI, 3, .inl (fun _ => 0))), (mk, .inl (cZ, 192, .inl (fun _ => 0))), (mh, .inl (cZ, 64, .inl (fun _ => 0))), (ml, .inl (cI, 192, .inl (fun _ => 0))), (mn, .inl (cI, 64, .inl (fun _ => 0))), (ms, .inl (cI, 192, .inl (fun _ => 0)))] := hD
  refine lv_aload_n hx hb dM_begin_58 rfl (lv_at hl 0 rfl) ?_
  refine va_get (D := (dC, dI)) (ci := 4) (v := .ref mb) (C := "LoggedStoreModel") (T := uM) (N := 18) hx hb hw inM hown hK hP 0 rfl rfl 13 (by decide) (hw _ w625) (fun _ h9 => h9) rfl dM_begin_59 ?_
  refine lv_iload_n hx hb dM_begin_62 rfl (lv_at hl 1 rfl) ?_
  refine lv_aload_n hx hb dM_begin_63 rfl (lv_at hl 0 rfl) ?_
  refine va_get (D := (dC, dI)) (ci := 4) (v := .int 0) (C := "LoggedStoreModel") (T := uM) (N := 18) hx hb hw inM hown hK hP 0 rfl rfl 8 (by decide) (hw _ w620) (fun _ h9 => h9) rfl dM_begin_64 ?_
  refine va_iast hx hb hK hP hD hS 2 0 rfl rfl (tv_in (by decide +kernel)) dM_begin_67 (fun H locs hP hD hS => ?_)
  have hP : va_P (dC, dI) vwC [(m0, .inr (4, [.int 0, .ref md, .int 0, .int (-1), .int 0, .ref mh, .ref mn, .ref mc, .int 0, .int 1, .int 0, .int 0, .ref mo, .ref mb, .ref mk, .ref ml, .ref ms, .ref mw])), (mo, .inl (cZ, 3, .inl (upd (fun _ => 0) (0 : Int32).toNatClampNeg (vp_nar .boolean 1)))), (mb, .inl (cI, 3, .inl (upd (fun _ => 0) (0 : Int32).toNatClampNeg 0))), (mk, .inl (cZ, 192, .inl (fun _ => 0))), (mh, .inl (cZ, 64, .inl (fun _ => 0))), (ml, .inl (cI, 192, .inl (fun _ => 0))), (mn, .inl (cI, 64, .inl (fun _ => 0))), (ms, .inl (cI, 192, .inl (fun _ => 0)))] H := hP
  have hD : va_D A [(m0, .inr (4, [.int 0, .ref md, .int 0, .int (-1), .int 0, .ref mh, .ref mn, .ref mc, .int 0, .int 1, .int 0, .int 0, .ref mo, .ref mb, .ref mk, .ref ml, .ref ms, .ref mw])), (mo, .inl (cZ, 3, .inl (upd (fun _ => 0) (0 : Int32).toNatClampNeg (vp_nar .boolean 1)))), (mb, .inl (cI, 3, .inl (upd (fun _ => 0) (0 : Int32).toNatClampNeg 0))), (mk, .inl (cZ, 192, .inl (fun _ => 0))), (mh, .inl (cZ, 64, .inl (fun _ => 0))), (ml, .inl (cI, 192, .inl (fun _ => 0))), (mn, .inl (cI, 64, .inl (fun _ => 0))), (ms, .inl (cI, 192, .inl (fun _ => 0)))] := hD
  refine lv_iconst (v := 0) hx hb dM_begin_68 (by decide) ?_
  refine lv_istore_n hx hb dM_begin_69 rfl hl (by decide) rfl (fun ls hl => ?_)
  have hl : lv_has ls 3 [(2, .int 0), (0, .ref m0), (1, .int 0)] := hl
  refine tk_forW (nL := 3) (D := (dC, dI)) (cl := vwC) (A := A) (H0 := s.heap) (σ := (Nat → Int32) × (Nat → Int32) × (Nat → Int32)) (G := fun ls H locs => W p l e _ s m _ below meth c H locs _ _ _ (F0 m 70 ls [])) (fun i => [(2, .int (nI i)), (0, .ref m0), (1, .int 0)]) (fun z => [(m0, .inr (4, [.int 0, .ref md, .int 0, .int (-1), .int 0, .ref mh, .ref mn, .ref mc, .int 0, .int 1, .int 0, .int 0, .ref mo, .ref mb, .ref mk, .ref ml, .ref ms, .ref mw])), (mo, .inl (cZ, 3, .inl (upd (fun _ => 0) (0 : Int32).toNatClampNeg (vp_nar .boolean 1)))), (mb, .inl (cI, 3, .inl (upd (fun _ => 0) (0 : Int32).toNatClampNeg 0))), (mk, .inl (cZ, 192, .inl z.1)), (mh, .inl (cZ, 64, .inl (fun _ => 0))), (ml, .inl (cI, 192, .inl z.2.1)), (mn, .inl (cI, 64, .inl (fun _ => 0))), (ms, .inl (cI, 192, .inl z.2.2))]) 64 ?_ ?_ (fun _ => 0, fun _ => 0, fun _ => 0) ls H locs hl hP hD hS
  · intro z ls H locs hl hP hD hS
    have hl : lv_has ls 3 [(2, .int (nI 64)), (0, .ref m0), (1, .int 0)] := hl
    have hP : va_P (dC, dI) vwC [(m0, .inr (4, [.int 0, .ref md, .int 0, .int (-1), .int 0, .ref mh, .ref mn, .ref mc, .int 0, .int 1, .int 0, .int 0, .ref mo, .ref mb, .ref mk, .ref ml, .ref ms, .ref mw])), (mo, .inl (cZ, 3, .inl (upd (fun _ => 0) (0 : Int32).toNatClampNeg (vp_nar .boolean 1)))), (mb, .inl (cI, 3, .inl (upd (fun _ => 0) (0 : Int32).toNatClampNeg 0))), (mk, .inl (cZ, 192, .inl z.1)), (mh, .inl (cZ, 64, .inl (fun _ => 0))), (ml, .inl (cI, 192, .inl z.2.1)), (mn, .inl (cI, 64, .inl (fun _ => 0))), (ms, .inl (cI, 192, .inl z.2.2))] H := hP
    have hD : va_D A [(m0, .inr (4, [.int 0, .ref md, .int 0, .int (-1), .int 0, .ref mh, .ref mn, .ref mc, .int 0, .int 1, .int 0, .int 0, .ref mo, .ref mb, .ref mk, .ref ml, .ref ms, .ref mw])), (mo, .inl (cZ, 3, .inl (upd (fun _ => 0) (0 : Int32).toNatClampNeg (vp_nar .boolean 1)))), (mb, .inl (cI, 3, .inl (upd (fun _ => 0) (0 : Int32).toNatClampNeg 0))), (mk, .inl (cZ, 192, .inl z.1)), (mh, .inl (cZ, 64, .inl (fun _ => 0))), (ml, .inl (cI, 192, .inl z.2.1)), (mn, .inl (cI, 64, .inl (fun _ => 0))), (ms, .inl (cI, 192, .inl z.2.2))] := hD
    refine lv_iload_n hx hb dM_begin_70 rfl (lv_at hl 0 rfl) ?_
    refine lv_bipush (v := 64) hx hb dM_begin_71 (by decide) ?_
    refine lv_icmp_ge (tgt := 128) hx hb dM_begin_73 (by decide) (fun _ => ?_) (fun h9 => absurd (by decide +kernel) h9)
    refine lv_aload_n hx hb dM_begin_128 rfl (lv_at hl 1 rfl) ?_
    refine va_get (D := (dC, dI)) (ci := 4) (v := .int 0) (C := "LoggedStoreModel") (T := uM) (N := 18) hx hb hw inM hown hK hP 0 rfl rfl 8 (by decide) (hw _ w620) (fun _ h9 => h9) rfl dM_begin_129 ?_
    have hP9 := hP.sub (ws' := [(m0, .inr (4, [.int 0, .ref md, .int 0, .int (-1), .int 0, .ref mh, .ref mn, .ref mc, .int 0, .int 1, .int 0, .int 0, .ref mo, .ref mb, .ref mk, .ref ml, .ref ms, .ref mw]))]) [0] rfl
    have hD9 := hD.sub (ws' := [(m0, .inr (4, [.int 0, .ref md, .int 0, .int (-1), .int 0, .ref mh, .ref mn, .ref mc, .int 0, .int 1, .int 0, .int 0, .ref mo, .ref mb, .ref mk, .ref ml, .ref ms, .ref mw]))]) [0] (by decide) rfl
    refine W.widen (k := 0) (n := 0) (by decide) (by decide) ?_
    exact W.iret (v := 0) hx hb hr (fun t ht hW => ⟨⟨0, fun _ => 0, rfl, rfl, by rw [ht]; exact hP9, hD9⟩, hS.F ht⟩) hS.2.2 dM_begin_132
  · intro i hi z ls H locs hl hP hD hS ih
    have hl : lv_has ls 3 [(2, .int (nI i)), (0, .ref m0), (1, .int 0)] := hl
    have hP : va_P (dC, dI) vwC [(m0, .inr (4, [.int 0, .ref md, .int 0, .int (-1), .int 0, .ref mh, .ref mn, .ref mc, .int 0, .int 1, .int 0, .int 0, .ref mo, .ref mb, .ref mk, .ref ml, .ref ms, .ref mw])), (mo, .inl (cZ, 3, .inl (upd (fun _ => 0) (0 : Int32).toNatClampNeg (vp_nar .boolean 1)))), (mb, .inl (cI, 3, .inl (upd (fun _ => 0) (0 : Int32).toNatClampNeg 0))), (mk, .inl (cZ, 192, .inl z.1)), (mh, .inl (cZ, 64, .inl (fun _ => 0))), (ml, .inl (cI, 192, .inl z.2.1)), (mn, .inl (cI, 64, .inl (fun _ => 0))), (ms, .inl (cI, 192, .inl z.2.2))] H := hP
    have hD : va_D A [(m0, .inr (4, [.int 0, .ref md, .int 0, .int (-1), .int 0, .ref mh, .ref mn, .ref mc, .int 0, .int 1, .int 0, .int 0, .ref mo, .ref mb, .ref mk, .ref ml, .ref ms, .ref mw])), (mo, .inl (cZ, 3, .inl (upd (fun _ => 0) (0 : Int32).toNatClampNeg (vp_nar .boolean 1)))), (mb, .inl (cI, 3, .inl (upd (fun _ => 0) (0 : Int32).toNatClampNeg 0))), (mk, .inl (cZ, 192, .inl z.1)), (mh, .inl (cZ, 64, .inl (fun _ => 0))), (ml, .inl (cI, 192, .inl z.2.1)), (mn, .inl (cI, 64, .inl (fun _ => 0))), (ms, .inl (cI, 192, .inl z.2.2))] := hD
    refine lv_iload_n hx hb dM_begin_70 rfl (lv_at hl 0 rfl) ?_
    refine lv_bipush (v := 64) hx hb dM_begin_71 (by decide) ?_
    refine lv_icmp_ge (tgt := 128) hx hb dM_begin_73 (by decide) (fun h9 => absurd h9 (nI_ge hi (by decide))) (fun _ => ?_)
    refine lv_aload_n hx hb dM_begin_76 rfl (lv_at hl 1 rfl) ?_
    refine va_get (D := (dC, dI)) (ci := 4) (v := .ref mk) (C := "LoggedStoreModel") (T := uM) (N := 18) hx hb hw inM hown hK hP 0 rfl rfl 14 (by decide) (hw _ w626) (fun _ h9 => h9) rfl dM_begin_77 ?_
    refine lv_bipush (v := 64) hx hb dM_begin_80 (by decide) ?_
    refine lv_iload_n hx hb dM_begin_82 rfl (lv_at hl 2 rfl) ?_
    refine lv_imul hx hb dM_begin_83 ?_
    refine lv_topi (nm_r (e' := 0) (by decide +kernel) ?_)
    refine lv_iload_n hx hb dM_begin_84 rfl (lv_at hl 0 rfl) ?_
    refine lv_iadd hx hb dM_begin_85 ?_
    refine lv_aload_n hx hb dM_begin_86 rfl (lv_at hl 1 rfl) ?_
    refine va_get (D := (dC, dI)) (ci := 4) (v := .ref mh) (C := "LoggedStoreModel") (T := uM) (N := 18) hx hb hw inM hown hK hP 0 rfl rfl 5 (by decide) (hw _ w617) (fun _ h9 => h9) rfl dM_begin_87 ?_
    refine lv_iload_n hx hb dM_begin_90 rfl (lv_at hl 0 rfl) ?_
    refine va_zald hx hb hK hP 4 1 rfl rfl (vp_in_nI hi (by decide)) dM_begin_91 ?_
    refine lv_topi (nm_r (e' := 0) (rfl) ?_)
    refine va_zast hx hb hK hP hD hS 3 1 rfl rfl (by rw [show (0 : Int32) + nI i = nI (0 + i) from nI_add 0 i]; exact vp_in_nI (by omega) (by decide)) dM_begin_92 (fun H locs hP hD hS => ?_)
    have hP : va_P (dC, dI) vwC [(m0, .inr (4, [.int 0, .ref md, .int 0, .int (-1), .int 0, .ref mh, .ref mn, .ref mc, .int 0, .int 1, .int 0, .int 0, .ref mo, .ref mb, .ref mk, .ref ml, .ref ms, .ref mw])), (mo, .inl (cZ, 3, .inl (upd (fun _ => 0) (0 : Int32).toNatClampNeg (vp_nar .boolean 1)))), (mb, .inl (cI, 3, .inl (upd (fun _ => 0) (0 : Int32).toNatClampNeg 0))), (mk, .inl (cZ, 192, .inl (upd z.1 ((0 + (nI i)) : Int32).toNatClampNeg (vp_nar .boolean 0)))), (mh, .inl (cZ, 64, .inl (fun _ => 0))), (ml, .inl (cI, 192, .inl z.2.1)), (mn, .inl (cI, 64, .inl (fun _ => 0))), (ms, .inl (cI, 192, .inl z.2.2))] H := hP
    have hD : va_D A [(m0, .inr (4, [.int 0, .ref md, .int 0, .int (-1), .int 0, .ref mh, .ref mn, .ref mc, .int 0, .int 1, .int 0, .int 0, .ref mo, .ref mb, .ref mk, .ref ml, .ref ms, .ref mw])), (mo, .inl (cZ, 3, .inl (upd (fun _ => 0) (0 : Int32).toNatClampNeg (vp_nar .boolean 1)))), (mb, .inl (cI, 3, .inl (upd (fun _ => 0) (0 : Int32).toNatClampNeg 0))), (mk, .inl (cZ, 192, .inl (upd z.1 ((0 + (nI i)) : Int32).toNatClampNeg (vp_nar .boolean 0)))), (mh, .inl (cZ, 64, .inl (fun _ => 0))), (ml, .inl (cI, 192, .inl z.2.1)), (mn, .inl (cI, 64, .inl (fun _ => 0))), (ms, .inl (cI, 192, .inl z.2.2))] := hD
    refine lv_aload_n hx hb dM_begin_93 rfl (lv_at hl 1 rfl) ?_
    refine va_get (D := (dC, dI)) (ci := 4) (v := .ref ml) (C := "LoggedStoreModel") (T := uM) (N := 18) hx hb hw inM hown hK hP 0 rfl rfl 15 (by decide) (hw _ w627) (fun _ h9 => h9) rfl dM_begin_94 ?_
    refine lv_bipush (v := 64) hx hb dM_begin_97 (by decide) ?_
    refine lv_iload_n hx hb dM_begin_99 rfl (lv_at hl 2 rfl) ?_
    refine lv_imul hx hb dM_begin_100 ?_
    refine lv_topi (nm_r (e' := 0) (by decide +kernel) ?_)
    refine lv_iload_n hx hb dM_begin_101 rfl (lv_at hl 0 rfl) ?_
    refine lv_iadd hx hb dM_begin_102 ?_
    refine lv_aload_n hx hb dM_begin_103 rfl (lv_at hl 1 rfl) ?_
    refine va_get (D := (dC, dI)) (ci := 4) (v := .ref mn) (C := "LoggedStoreModel") (T := uM) (N := 18) hx hb hw inM hown hK hP 0 rfl rfl 6 (by decide) (hw _ w618) (fun _ h9 => h9) rfl dM_begin_104 ?_
    refine lv_iload_n hx hb dM_begin_107 rfl (lv_at hl 0 rfl) ?_
    refine va_iald hx hb hK hP 6 0 rfl rfl (vp_in_nI hi (by decide)) dM_begin_108 ?_
    refine lv_topi (nm_r (e' := 0) (rfl) ?_)
    refine va_iast hx hb hK hP hD hS 5 0 rfl rfl (by rw [show (0 : Int32) + nI i = nI (0 + i) from nI_add 0 i]; exact vp_in_nI (by omega) (by decide)) dM_begin_109 (fun H locs hP hD hS => ?_)
    have hP : va_P (dC, dI) vwC [(m0, .inr (4, [.int 0, .ref md, .int 0, .int (-1), .int 0, .ref mh, .ref mn, .ref mc, .int 0, .int 1, .int 0, .int 0, .ref mo, .ref mb, .ref mk, .ref ml, .ref ms, .ref mw])), (mo, .inl (cZ, 3, .inl (upd (fun _ => 0) (0 : Int32).toNatClampNeg (vp_nar .boolean 1)))), (mb, .inl (cI, 3, .inl (upd (fun _ => 0) (0 : Int32).toNatClampNeg 0))), (mk, .inl (cZ, 192, .inl (upd z.1 ((0 + (nI i)) : Int32).toNatClampNeg (vp_nar .boolean 0)))), (mh, .inl (cZ, 64, .inl (fun _ => 0))), (ml, .inl (cI, 192, .inl (upd z.2.1 ((0 + (nI i)) : Int32).toNatClampNeg 0))), (mn, .inl (cI, 64, .inl (fun _ => 0))), (ms, .inl (cI, 192, .inl z.2.2))] H := hP
    have hD : va_D A [(m0, .inr (4, [.int 0, .ref md, .int 0, .int (-1), .int 0, .ref mh, .ref mn, .ref mc, .int 0, .int 1, .int 0, .int 0, .ref mo, .ref mb, .ref mk, .ref ml, .ref ms, .ref mw])), (mo, .inl (cZ, 3, .inl (upd (fun _ => 0) (0 : Int32).toNatClampNeg (vp_nar .boolean 1)))), (mb, .inl (cI, 3, .inl (upd (fun _ => 0) (0 : Int32).toNatClampNeg 0))), (mk, .inl (cZ, 192, .inl (upd z.1 ((0 + (nI i)) : Int32).toNatClampNeg (vp_nar .boolean 0)))), (mh, .inl (cZ, 64, .inl (fun _ => 0))), (ml, .inl (cI, 192, .inl (upd z.2.1 ((0 + (nI i)) : Int32).toNatClampNeg 0))), (mn, .inl (cI, 64, .inl (fun _ => 0))), (ms, .inl (cI, 192, .inl z.2.2))] := hD
    refine lv_aload_n hx hb dM_begin_110 rfl (lv_at hl 1 rfl) ?_
    refine va_get (D := (dC, dI)) (ci := 4) (v := .ref ms) (C := "LoggedStoreModel") (T := uM) (N := 18) hx hb hw inM hown hK hP 0 rfl rfl 16 (by decide) (hw _ w628) (fun _ h9 => h9) rfl dM_begin_111 ?_
    refine lv_bipush (v := 64) hx hb dM_begin_114 (by decide) ?_
    refine lv_iload_n hx hb dM_begin_116 rfl (lv_at hl 2 rfl) ?_
    refine lv_imul hx hb dM_begin_117 ?_
    refine lv_topi (nm_r (e' := 0) (by decide +kernel) ?_)
    refine lv_iload_n hx hb dM_begin_118 rfl (lv_at hl 0 rfl) ?_
    refine lv_iadd hx hb dM_begin_119 ?_
    refine lv_iconst (v := 0) hx hb dM_begin_120 (by decide) ?_
    refine va_iast hx hb hK hP hD hS 7 0 rfl rfl (by rw [show (0 : Int32) + nI i = nI (0 + i) from nI_add 0 i]; exact vp_in_nI (by omega) (by decide)) dM_begin_121 (fun H locs hP hD hS => ?_)
    have hP : va_P (dC, dI) vwC [(m0, .inr (4, [.int 0, .ref md, .int 0, .int (-1), .int 0, .ref mh, .ref mn, .ref mc, .int 0, .int 1, .int 0, .int 0, .ref mo, .ref mb, .ref mk, .ref ml, .ref ms, .ref mw])), (mo, .inl (cZ, 3, .inl (upd (fun _ => 0) (0 : Int32).toNatClampNeg (vp_nar .boolean 1)))), (mb, .inl (cI, 3, .inl (upd (fun _ => 0) (0 : Int32).toNatClampNeg 0))), (mk, .inl (cZ, 192, .inl (upd z.1 ((0 + (nI i)) : Int32).toNatClampNeg (vp_nar .boolean 0)))), (mh, .inl (cZ, 64, .inl (fun _ => 0))), (ml, .inl (cI, 192, .inl (upd z.2.1 ((0 + (nI i)) : Int32).toNatClampNeg 0))), (mn, .inl (cI, 64, .inl (fun _ => 0))), (ms, .inl (cI, 192, .inl (upd z.2.2 ((0 + (nI i)) : Int32).toNatClampNeg 0)))] H := hP
    have hD : va_D A [(m0, .inr (4, [.int 0, .ref md, .int 0, .int (-1), .int 0, .ref mh, .ref mn, .ref mc, .int 0, .int 1, .int 0, .int 0, .ref mo, .ref mb, .ref mk, .ref ml, .ref ms, .ref mw])), (mo, .inl (cZ, 3, .inl (upd (fun _ => 0) (0 : Int32).toNatClampNeg (vp_nar .boolean 1)))), (mb, .inl (cI, 3, .inl (upd (fun _ => 0) (0 : Int32).toNatClampNeg 0))), (mk, .inl (cZ, 192, .inl (upd z.1 ((0 + (nI i)) : Int32).toNatClampNeg (vp_nar .boolean 0)))), (mh, .inl (cZ, 64, .inl (fun _ => 0))), (ml, .inl (cI, 192, .inl (upd z.2.1 ((0 + (nI i)) : Int32).toNatClampNeg 0))), (mn, .inl (cI, 64, .inl (fun _ => 0))), (ms, .inl (cI, 192, .inl (upd z.2.2 ((0 + (nI i)) : Int32).toNatClampNeg 0)))] := hD
    refine lv_iinc (k := 0) (v := nI (i + 1)) hx hb dM_begin_122 hl rfl (nI_1 i) (by decide) rfl (fun ls hl => ?_)
    have hl : lv_has ls 3 [(2, .int (nI (i + 1))), (0, .ref m0), (1, .int 0)] := hl
    refine lv_goto (tgt := 70) hx hb dM_begin_125 (by decide) ?_
    exact ih (upd z.1 ((0 + (nI i)) : Int32).toNatClampNeg (vp_nar .boolean 0), upd z.2.1 ((0 + (nI i)) : Int32).toNatClampNeg 0, upd z.2.2 ((0 + (nI i)) : Int32).toNatClampNeg 0) ls H locs hl hP hD hS

set_option maxHeartbeats 4000000 in
set_option maxRecDepth 100000 in
theorem c_M_begin_1 (l : Launch) (dC : Nat → ClassId) (dI : Nat → Nat → Nat) (cI cZ cJ cT : ClassId) (m0 md mh mn mc mo mb mk ml ms mw : Nat) (sz : Nat) : Met l yM_begin (Cond.code yM_begin cM_begin 3 (some .int) :: wsA) ({ frames := 1, cells := 0, slots := 0, locals := 22 }) (va_Pc [.ref m0, .int 1] (fun U => U.heap.size = sz ∧ va_P (dC, dI) vwC [(m0, .inr (4, [.int 0, .ref md, .int 0, .int (-1), .int 0, .ref mh, .ref mn, .ref mc, .int 0, .int 1, .int 0, .int 0, .ref mo, .ref mb, .ref mk, .ref ml, .ref ms, .ref mw])), (mo, .inl (cZ, 3, .inl (fun _ => 0))), (mb, .inl (cI, 3, .inl (fun _ => 0))), (mk, .inl (cZ, 192, .inl (fun _ => 0))), (mh, .inl (cZ, 64, .inl (fun _ => 0))), (ml, .inl (cI, 192, .inl (fun _ => 0))), (mn, .inl (cI, 64, .inl (fun _ => 0))), (ms, .inl (cI, 192, .inl (fun _ => 0)))] U.heap ∧ KK dC dI cI cZ cJ cT U ∧ va_D (fun _ => True) [(m0, .inr (4, [.int 0, .ref md, .int 0, .int (-1), .int 0, .ref mh, .ref mn, .ref mc, .int 0, .int 1, .int 0, .int 0, .ref mo, .ref mb, .ref mk, .ref ml, .ref ms, .ref mw])), (mo, .inl (cZ, 3, .inl (fun _ => 0))), (mb, .inl (cI, 3, .inl (fun _ => 0))), (mk, .inl (cZ, 192, .inl (fun _ => 0))), (mh, .inl (cZ, 64, .inl (fun _ => 0))), (ml, .inl (cI, 192, .inl (fun _ => 0))), (mn, .inl (cI, 64, .inl (fun _ => 0))), (ms, .inl (cI, 192, .inl (fun _ => 0)))])) (va_Qi (S := Nat → Nat) (fun r _ => r = 0) (fun u t => va_P (dC, dI) vwC [(m0, .inr (4, [.int 0, .ref md, .int 0, .int (-1), .int 0, .ref mh, .ref mn, .ref mc, .int 0, .int 1, .int 0, .int 0, .ref mo, .ref mb, .ref mk, .ref ml, .ref ms, .ref mw]))] t.heap ∧ va_D (va_A [(m0, .inr (4, [.int 0, .ref md, .int 0, .int (-1), .int 0, .ref mh, .ref mn, .ref mc, .int 0, .int 1, .int 0, .int 0, .ref mo, .ref mb, .ref mk, .ref ml, .ref ms, .ref mw])), (mo, .inl (cZ, 3, .inl (fun _ => 0))), (mb, .inl (cI, 3, .inl (fun _ => 0))), (mk, .inl (cZ, 192, .inl (fun _ => 0))), (mh, .inl (cZ, 64, .inl (fun _ => 0))), (ml, .inl (cI, 192, .inl (fun _ => 0))), (mn, .inl (cI, 64, .inl (fun _ => 0))), (ms, .inl (cI, 192, .inl (fun _ => 0)))] sz) [(m0, .inr (4, [.int 0, .ref md, .int 0, .int (-1), .int 0, .ref mh, .ref mn, .ref mc, .int 0, .int 1, .int 0, .int 0, .ref mo, .ref mb, .ref mk, .ref ml, .ref ms, .ref mw]))]) (va_A [(m0, .inr (4, [.int 0, .ref md, .int 0, .int (-1), .int 0, .ref mh, .ref mn, .ref mc, .int 0, .int 1, .int 0, .int 0, .ref mo, .ref mb, .ref mk, .ref ml, .ref ms, .ref mw])), (mo, .inl (cZ, 3, .inl (fun _ => 0))), (mb, .inl (cI, 3, .inl (fun _ => 0))), (mk, .inl (cZ, 192, .inl (fun _ => 0))), (mh, .inl (cZ, 64, .inl (fun _ => 0))), (ml, .inl (cI, 192, .inl (fun _ => 0))), (mn, .inl (cI, 64, .inl (fun _ => 0))), (ms, .inl (cI, 192, .inl (fun _ => 0)))] sz)) 0 0 (va_A [(m0, .inr (4, [.int 0, .ref md, .int 0, .int (-1), .int 0, .ref mh, .ref mn, .ref mc, .int 0, .int 1, .int 0, .int 0, .ref mo, .ref mb, .ref mk, .ref ml, .ref ms, .ref mw])), (mo, .inl (cZ, 3, .inl (fun _ => 0))), (mb, .inl (cI, 3, .inl (fun _ => 0))), (mk, .inl (cZ, 192, .inl (fun _ => 0))), (mh, .inl (cZ, 64, .inl (fun _ => 0))), (ml, .inl (cI, 192, .inl (fun _ => 0))), (mn, .inl (cI, 64, .inl (fun _ => 0))), (ms, .inl (cI, 192, .inl (fun _ => 0)))] sz) := by
  refine Met.ofW (cc := cM_begin) (maxL := 3) (ret := (some .int)) (by decide) rfl ?_
  intro p e s m args below meth c s₁ B hml hv
  obtain ⟨rfl, hsz, hP, hKK, hD0⟩ := hv
  have hK := hKK.1
  have hx := B.exec
  have hb := B.bytes
  have hr := B.returns
  have hw : ∀ w ∈ wsA, w.before _ s = true := fun w h => atoms_spec (ws := (Cond.code yM_begin cM_begin 3 (some .int) :: wsA)) B.pre w (List.mem_cons_of_mem _ h)
  have hown : s.vm.findClass "LoggedStoreModel" = some m.cls := findClass_of_methodNamed B.named
  have hlocks := B.notSynchronized
  subst hsz
  have hD := hD0.self (sz := s.heap.size)
  generalize hAe : va_A [(m0, .inr (4, [.int 0, .ref md, .int 0, .int (-1), .int 0, .ref mh, .ref mn, .ref mc, .int 0, .int 1, .int 0, .int 0, .ref mo, .ref mb, .ref mk, .ref ml, .ref ms, .ref mw])), (mo, .inl (cZ, 3, .inl (fun _ => 0))), (mb, .inl (cI, 3, .inl (fun _ => 0))), (mk, .inl (cZ, 192, .inl (fun _ => 0))), (mh, .inl (cZ, 64, .inl (fun _ => 0))), (ml, .inl (cI, 192, .inl (fun _ => 0))), (mn, .inl (cI, 64, .inl (fun _ => 0))), (ms, .inl (cI, 192, .inl (fun _ => 0)))] s.heap.size = A at hD ⊢
  have hA : ∀ q : Nat, s.heap.size ≤ q → A q := fun q h => by rw [← hAe]; exact Or.inr h
  have hS : va_S A s.heap s.heap [] := va_S.rf
  have hl := lv_entry ([.ref m0, .int 1]) (n := 3) (Nat.le_of_ble_eq_true rfl)
  rw [lg_entry_eq]
  generalize (lg_sl ([.ref m0, .int 1]) ++ List.replicate (3 - (lg_sl ([.ref m0, .int 1])).length) Slot.unset).toArray = ls at hl ⊢
  have hl : lv_has ls 3 [(0, .ref m0), (1, .int 1)] := hl
  refine lv_aload_n hx hb dM_begin_0 rfl (lv_at hl 0 rfl) ?_
  refine lv_aload_n hx hb dM_begin_1 rfl (lv_at hl 0 rfl) ?_
  refine va_get (D := (dC, dI)) (ci := 4) (v := .int 0) (C := "LoggedStoreModel") (T := uM) (N := 18) hx hb hw inM hown hK hP 0 rfl rfl 2 (by decide) (hw _ w614) (fun _ h9 => h9) rfl dM_begin_2 ?_
  refine lv_if_eq (tgt := 12) hx hb dM_begin_5 (by decide) (fun _ => ?_) (fun h9 => absurd (by decide) h9)
  refine lv_iload_n hx hb dM_begin_12 rfl (lv_at hl 1 rfl) ?_
  refine lv_iconst (v := 0) hx hb dM_begin_13 (by decide) ?_
  refine lv_iconst (v := 2) hx hb dM_begin_14 (by decide) ?_
  have hPc := hP.sub (ws' := []) [] rfl
  refine vp_callSi (W.runS (As := [.int 1, .int 0, .int 2]) (rest := [.ref m0]) ⟨hx, hb, hml, hown, hw⟩ (c_within_t l dC dI cI cZ cJ cT 1 0 2 (by decide) (by decide)) ⟨callB_of 3 hw (gA0 w677) rfl rfl rfl (hw _ w45) (hw _ w675) (by decide +kernel) ⟨Nat.le_of_ble_eq_true rfl, Nat.le_of_ble_eq_true rfl⟩, (hw _ w676)⟩ ⟨kb_S, fun U hU hW => ⟨rfl, by rw [hU]; exact hPc, hKK.moved hW⟩⟩ rfl rfl hl.1 rfl (lv_room (Nat.le_of_ble_eq_true rfl)) dM_begin_15 ⟨Nat.le_of_ble_eq_true rfl, Nat.le_of_ble_eq_true rfl⟩) (fun r1 e2 => ?_)
  obtain rfl : r1 = 1 := e2
  refine lv_if_ne (tgt := 25) hx hb dM_begin_18 (by decide) (fun _ => ?_) (fun h9 => absurd h9 (by decide))
  refine lv_aload_n hx hb dM_begin_25 rfl (lv_at hl 0 rfl) ?_
  refine va_get (D := (dC, dI)) (ci := 4) (v := .ref mo) (C := "LoggedStoreModel") (T := uM) (N := 18) hx hb hw inM hown hK hP 0 rfl rfl 12 (by decide) (hw _ w624) (fun _ h9 => h9) rfl dM_begin_26 ?_
  refine lv_iload_n hx hb dM_begin_29 rfl (lv_at hl 1 rfl) ?_
  refine va_zald hx hb hK hP 1 1 rfl rfl (tv_in (by decide +kernel)) dM_begin_30 ?_
  refine lv_topi (nm_r (e' := 0) (rfl) ?_)
  refine lv_if_eq (tgt := 38) hx hb dM_begin_31 (by decide) (fun _ => ?_) (fun h9 => absurd (by decide) h9)
  refine lv_iconst (v := 0) hx hb dM_begin_38 (by decide) ?_
  refine va_put (D := (dC, dI)) (ci := 4) (v := .int 0) (ty := .int) (C := "LoggedStoreModel") (T := uM) (N := 18) hx hb hw inM tyM tyM_ok nmM hown hK hP hD hS 0 rfl rfl 0 (by decide) (hw _ w612) (fun _ h9 => h9) rfl (by decide +kernel) rfl rfl (Nat.le_of_ble_eq_true rfl) dM_begin_39 (fun H locs hP hD hS => ?_)
  have hP : va_P (dC, dI) vwC [(m0, .inr (4, [.int 0, .ref md, .int 0, .int (-1), .int 0, .ref mh, .ref mn, .ref mc, .int 0, .int 1, .int 0, .int 0, .ref mo, .ref mb, .ref mk, .ref ml, .ref ms, .ref mw])), (mo, .inl (cZ, 3, .inl (fun _ => 0))), (mb, .inl (cI, 3, .inl (fun _ => 0))), (mk, .inl (cZ, 192, .inl (fun _ => 0))), (mh, .inl (cZ, 64, .inl (fun _ => 0))), (ml, .inl (cI, 192, .inl (fun _ => 0))), (mn, .inl (cI, 64, .inl (fun _ => 0))), (ms, .inl (cI, 192, .inl (fun _ => 0)))] H := hP
  have hD : va_D A [(m0, .inr (4, [.int 0, .ref md, .int 0, .int (-1), .int 0, .ref mh, .ref mn, .ref mc, .int 0, .int 1, .int 0, .int 0, .ref mo, .ref mb, .ref mk, .ref ml, .ref ms, .ref mw])), (mo, .inl (cZ, 3, .inl (fun _ => 0))), (mb, .inl (cI, 3, .inl (fun _ => 0))), (mk, .inl (cZ, 192, .inl (fun _ => 0))), (mh, .inl (cZ, 64, .inl (fun _ => 0))), (ml, .inl (cI, 192, .inl (fun _ => 0))), (mn, .inl (cI, 64, .inl (fun _ => 0))), (ms, .inl (cI, 192, .inl (fun _ => 0)))] := hD
  refine lv_aload_n hx hb dM_begin_42 rfl (lv_at hl 0 rfl) ?_
  refine va_get (D := (dC, dI)) (ci := 4) (v := .int 0) (C := "LoggedStoreModel") (T := uM) (N := 18) hx hb hw inM hown hK hP 0 rfl rfl 0 (by decide) (hw _ w612) (fun _ h9 => h9) rfl dM_begin_43 ?_
  refine lv_if_le (tgt := 51) hx hb dM_begin_46 (by decide) (fun _ => ?_) (fun h9 => absurd (by decide) h9)
  refine lv_aload_n hx hb dM_begin_51 rfl (lv_at hl 0 rfl) ?_
  refine va_get (D := (dC, dI)) (ci := 4) (v := .ref mo) (C := "LoggedStoreModel") (T := uM) (N := 18) hx hb hw inM hown hK hP 0 rfl rfl 12 (by decide) (hw _ w624) (fun _ h9 => h9) rfl dM_begin_52 ?_
  refine lv_iload_n hx hb dM_begin_55 rfl (lv_at hl 1 rfl) ?_
  refine lv_iconst (v := 1) hx hb dM_begin_56 (by decide) ?_
  refine va_zast hx hb hK hP hD hS 1 1 rfl rfl (tv_in (by decide +kernel)) dM_begin_57 (fun H locs hP hD hS => ?_)
  have hP : va_P (dC, dI) vwC [(m0, .inr (4, [.int 0, .ref md, .int 0, .int (-1), .int 0, .ref mh, .ref mn, .ref mc, .int 0, .int 1, .int 0, .int 0, .ref mo, .ref mb, .ref mk, .ref ml, .ref ms, .ref mw])), (mo, .inl (cZ, 3, .inl (upd (fun _ => 0) (1 : Int32).toNatClampNeg (vp_nar .boolean 1)))), (mb, .inl (cI, 3, .inl (fun _ => 0))), (mk, .inl (cZ, 192, .inl (fun _ => 0))), (mh, .inl (cZ, 64, .inl (fun _ => 0))), (ml, .inl (cI, 192, .inl (fun _ => 0))), (mn, .inl (cI, 64, .inl (fun _ => 0))), (ms, .inl (cI, 192, .inl (fun _ => 0)))] H := hP
  have hD : va_D A [(m0, .inr (4, [.int 0, .ref md, .int 0, .int (-1), .int 0, .ref mh, .ref mn, .ref mc, .int 0, .int 1, .int 0, .int 0, .ref mo, .ref mb, .ref mk, .ref ml, .ref ms, .ref mw])), (mo, .inl (cZ, 3, .inl (upd (fun _ => 0) (1 : Int32).toNatClampNeg (vp_nar .boolean 1)))), (mb, .inl (cI, 3, .inl (fun _ => 0))), (mk, .inl (cZ, 192, .inl (fun _ => 0))), (mh, .inl (cZ, 64, .inl (fun _ => 0))), (ml, .inl (cI, 192, .inl (fun _ => 0))), (mn, .inl (cI, 64, .inl (fun _ => 0))), (ms, .inl (cI, 192, .inl (fun _ => 0)))] := hD
  refine lv_aload_n hx hb dM_begin_58 rfl (lv_at hl 0 rfl) ?_
  refine va_get (D := (dC, dI)) (ci := 4) (v := .ref mb) (C := "LoggedStoreModel") (T := uM) (N := 18) hx hb hw inM hown hK hP 0 rfl rfl 13 (by decide) (hw _ w625) (fun _ h9 => h9) rfl dM_begin_59 ?_
  refine lv_iload_n hx hb dM_begin_62 rfl (lv_at hl 1 rfl) ?_
  refine lv_aload_n hx hb dM_begin_63 rfl (lv_at hl 0 rfl) ?_
  refine va_get (D := (dC, dI)) (ci := 4) (v := .int 0) (C := "LoggedStoreModel") (T := uM) (N := 18) hx hb hw inM hown hK hP 0 rfl rfl 8 (by decide) (hw _ w620) (fun _ h9 => h9) rfl dM_begin_64 ?_
  refine va_iast hx hb hK hP hD hS 2 0 rfl rfl (tv_in (by decide +kernel)) dM_begin_67 (fun H locs hP hD hS => ?_)
  have hP : va_P (dC, dI) vwC [(m0, .inr (4, [.int 0, .ref md, .int 0, .int (-1), .int 0, .ref mh, .ref mn, .ref mc, .int 0, .int 1, .int 0, .int 0, .ref mo, .ref mb, .ref mk, .ref ml, .ref ms, .ref mw])), (mo, .inl (cZ, 3, .inl (upd (fun _ => 0) (1 : Int32).toNatClampNeg (vp_nar .boolean 1)))), (mb, .inl (cI, 3, .inl (upd (fun _ => 0) (1 : Int32).toNatClampNeg 0))), (mk, .inl (cZ, 192, .inl (fun _ => 0))), (mh, .inl (cZ, 64, .inl (fun _ => 0))), (ml, .inl (cI, 192, .inl (fun _ => 0))), (mn, .inl (cI, 64, .inl (fun _ => 0))), (ms, .inl (cI, 192, .inl (fun _ => 0)))] H := hP
  have hD : va_D A [(m0, .inr (4, [.int 0, .ref md, .int 0, .int (-1), .int 0, .ref mh, .ref mn, .ref mc, .int 0, .int 1, .int 0, .int 0, .ref mo, .ref mb, .ref mk, .ref ml, .ref ms, .ref mw])), (mo, .inl (cZ, 3, .inl (upd (fun _ => 0) (1 : Int32).toNatClampNeg (vp_nar .boolean 1)))), (mb, .inl (cI, 3, .inl (upd (fun _ => 0) (1 : Int32).toNatClampNeg 0))), (mk, .inl (cZ, 192, .inl (fun _ => 0))), (mh, .inl (cZ, 64, .inl (fun _ => 0))), (ml, .inl (cI, 192, .inl (fun _ => 0))), (mn, .inl (cI, 64, .inl (fun _ => 0))), (ms, .inl (cI, 192, .inl (fun _ => 0)))] := hD
  refine lv_iconst (v := 0) hx hb dM_begin_68 (by decide) ?_
  refine lv_istore_n hx hb dM_begin_69 rfl hl (by decide) rfl (fun ls hl => ?_)
  have hl : lv_has ls 3 [(2, .int 0), (0, .ref m0), (1, .int 1)] := hl
  refine tk_forW (nL := 3) (D := (dC, dI)) (cl := vwC) (A := A) (H0 := s.heap) (σ := (Nat → Int32) × (Nat → Int32) × (Nat → Int32)) (G := fun ls H locs => W p l e _ s m _ below meth c H locs _ _ _ (F0 m 70 ls [])) (fun i => [(2, .int (nI i)), (0, .ref m0), (1, .int 1)]) (fun z => [(m0, .inr (4, [.int 0, .ref md, .int 0, .int (-1), .int 0, .ref mh, .ref mn, .ref mc, .int 0, .int 1, .int 0, .int 0, .ref mo, .ref mb, .ref mk, .ref ml, .ref ms, .ref mw])), (mo, .inl (cZ, 3, .inl (upd (fun _ => 0) (1 : Int32).toNatClampNeg (vp_nar .boolean 1)))), (mb, .inl (cI, 3, .inl (upd (fun _ => 0) (1 : Int32).toNatClampNeg 0))), (mk, .inl (cZ, 192, .inl z.1)), (mh, .inl (cZ, 64, .inl (fun _ => 0))), (ml, .inl (cI, 192, .inl z.2.1)), (mn, .inl (cI, 64, .inl (fun _ => 0))), (ms, .inl (cI, 192, .inl z.2.2))]) 64 ?_ ?_ (fun _ => 0, fun _ => 0, fun _ => 0) ls H locs hl hP hD hS
  · intro z ls H locs hl hP hD hS
    have hl : lv_has ls 3 [(2, .int (nI 64)), (0, .ref m0), (1, .int 1)] := hl
    have hP : va_P (dC, dI) vwC [(m0, .inr (4, [.int 0, .ref md, .int 0, .int (-1), .int 0, .ref mh, .ref mn, .ref mc, .int 0, .int 1, .int 0, .int 0, .ref mo, .ref mb, .ref mk, .ref ml, .ref ms, .ref mw])), (mo, .inl (cZ, 3, .inl (upd (fun _ => 0) (1 : Int32).toNatClampNeg (vp_nar .boolean 1)))), (mb, .inl (cI, 3, .inl (upd (fun _ => 0) (1 : Int32).toNatClampNeg 0))), (mk, .inl (cZ, 192, .inl z.1)), (mh, .inl (cZ, 64, .inl (fun _ => 0))), (ml, .inl (cI, 192, .inl z.2.1)), (mn, .inl (cI, 64, .inl (fun _ => 0))), (ms, .inl (cI, 192, .inl z.2.2))] H := hP
    have hD : va_D A [(m0, .inr (4, [.int 0, .ref md, .int 0, .int (-1), .int 0, .ref mh, .ref mn, .ref mc, .int 0, .int 1, .int 0, .int 0, .ref mo, .ref mb, .ref mk, .ref ml, .ref ms, .ref mw])), (mo, .inl (cZ, 3, .inl (upd (fun _ => 0) (1 : Int32).toNatClampNeg (vp_nar .boolean 1)))), (mb, .inl (cI, 3, .inl (upd (fun _ => 0) (1 : Int32).toNatClampNeg 0))), (mk, .inl (cZ, 192, .inl z.1)), (mh, .inl (cZ, 64, .inl (fun _ => 0))), (ml, .inl (cI, 192, .inl z.2.1)), (mn, .inl (cI, 64, .inl (fun _ => 0))), (ms, .inl (cI, 192, .inl z.2.2))] := hD
    refine lv_iload_n hx hb dM_begin_70 rfl (lv_at hl 0 rfl) ?_
    refine lv_bipush (v := 64) hx hb dM_begin_71 (by decide) ?_
    refine lv_icmp_ge (tgt := 128) hx hb dM_begin_73 (by decide) (fun _ => ?_) (fun h9 => absurd (by decide +kernel) h9)
    refine lv_aload_n hx hb dM_begin_128 rfl (lv_at hl 1 rfl) ?_
    refine va_get (D := (dC, dI)) (ci := 4) (v := .int 0) (C := "LoggedStoreModel") (T := uM) (N := 18) hx hb hw inM hown hK hP 0 rfl rfl 8 (by decide) (hw _ w620) (fun _ h9 => h9) rfl dM_begin_129 ?_
    have hP9 := hP.sub (ws' := [(m0, .inr (4, [.int 0, .ref md, .int 0, .int (-1), .int 0, .ref mh, .ref mn, .ref mc, .int 0, .int 1, .int 0, .int 0, .ref mo, .ref mb, .ref mk, .ref ml, .ref ms, .ref mw]))]) [0] rfl
    have hD9 := hD.sub (ws' := [(m0, .inr (4, [.int 0, .ref md, .int 0, .int (-1), .int 0, .ref mh, .ref mn, .ref mc, .int 0, .int 1, .int 0, .int 0, .ref mo, .ref mb, .ref mk, .ref ml, .ref ms, .ref mw]))]) [0] (by decide) rfl
    refine W.widen (k := 0) (n := 0) (by decide) (by decide) ?_
    exact W.iret (v := 0) hx hb hr (fun t ht hW => ⟨⟨0, fun _ => 0, rfl, rfl, by rw [ht]; exact hP9, hD9⟩, hS.F ht⟩) hS.2.2 dM_begin_132
  · intro i hi z ls H locs hl hP hD hS ih
    have hl : lv_has ls 3 [(2, .int (nI i)), (0, .ref m0), (1, .int 1)] := hl
    have hP : va_P (dC, dI) vwC [(m0, .inr (4, [.int 0, .ref md, .int 0, .int (-1), .int 0, .ref mh, .ref mn, .ref mc, .int 0, .int 1, .int 0, .int 0, .ref mo, .ref mb, .ref mk, .ref ml, .ref ms, .ref mw])), (mo, .inl (cZ, 3, .inl (upd (fun _ => 0) (1 : Int32).toNatClampNeg (vp_nar .boolean 1)))), (mb, .inl (cI, 3, .inl (upd (fun _ => 0) (1 : Int32).toNatClampNeg 0))), (mk, .inl (cZ, 192, .inl z.1)), (mh, .inl (cZ, 64, .inl (fun _ => 0))), (ml, .inl (cI, 192, .inl z.2.1)), (mn, .inl (cI, 64, .inl (fun _ => 0))), (ms, .inl (cI, 192, .inl z.2.2))] H := hP
    have hD : va_D A [(m0, .inr (4, [.int 0, .ref md, .int 0, .int (-1), .int 0, .ref mh, .ref mn, .ref mc, .int 0, .int 1, .int 0, .int 0, .ref mo, .ref mb, .ref mk, .ref ml, .ref ms, .ref mw])), (mo, .inl (cZ, 3, .inl (upd (fun _ => 0) (1 : Int32).toNatClampNeg (vp_nar .boolean 1)))), (mb, .inl (cI, 3, .inl (upd (fun _ => 0) (1 : Int32).toNatClampNeg 0))), (mk, .inl (cZ, 192, .inl z.1)), (mh, .inl (cZ, 64, .inl (fun _ => 0))), (ml, .inl (cI, 192, .inl z.2.1)), (mn, .inl (cI, 64, .inl (fun _ => 0))), (ms, .inl (cI, 192, .inl z.2.2))] := hD
    refine lv_iload_n hx hb dM_begin_70 rfl (lv_at hl 0 rfl) ?_
    refine lv_bipush (v := 64) hx hb dM_begin_71 (by decide) ?_
    refine lv_icmp_ge (tgt := 128) hx hb dM_begin_73 (by decide) (fun h9 => absurd h9 (nI_ge hi (by decide))) (fun _ => ?_)
    refine lv_aload_n hx hb dM_begin_76 rfl (lv_at hl 1 rfl) ?_
    refine va_get (D := (dC, dI)) (ci := 4) (v := .ref mk) (C := "LoggedStoreModel") (T := uM) (N := 18) hx hb hw inM hown hK hP 0 rfl rfl 14 (by decide) (hw _ w626) (fun _ h9 => h9) rfl dM_begin_77 ?_
    refine lv_bipush (v := 64) hx hb dM_begin_80 (by decide) ?_
    refine lv_iload_n hx hb dM_begin_82 rfl (lv_at hl 2 rfl) ?_
    refine lv_imul hx hb dM_begin_83 ?_
    refine lv_topi (nm_r (e' := 64) (by decide +kernel) ?_)
    refine lv_iload_n hx hb dM_begin_84 rfl (lv_at hl 0 rfl) ?_
    refine lv_iadd hx hb dM_begin_85 ?_
    refine lv_aload_n hx hb dM_begin_86 rfl (lv_at hl 1 rfl) ?_
    refine va_get (D := (dC, dI)) (ci := 4) (v := .ref mh) (C := "LoggedStoreModel") (T := uM) (N := 18) hx hb hw inM hown hK hP 0 rfl rfl 5 (by decide) (hw _ w617) (fun _ h9 => h9) rfl dM_begin_87 ?_
    refine lv_iload_n hx hb dM_begin_90 rfl (lv_at hl 0 rfl) ?_
    refine va_zald hx hb hK hP 4 1 rfl rfl (vp_in_nI hi (by decide)) dM_begin_91 ?_
    refine lv_topi (nm_r (e' := 0) (rfl) ?_)
    refine va_zast hx hb hK hP hD hS 3 1 rfl rfl (by rw [show (64 : Int32) + nI i = nI (64 + i) from nI_add 64 i]; exact vp_in_nI (by omega) (by decide)) dM_begin_92 (fun H locs hP hD hS => ?_)
    have hP : va_P (dC, dI) vwC [(m0, .inr (4, [.int 0, .ref md, .int 0, .int (-1), .int 0, .ref mh, .ref mn, .ref mc, .int 0, .int 1, .int 0, .int 0, .ref mo, .ref mb, .ref mk, .ref ml, .ref ms, .ref mw])), (mo, .inl (cZ, 3, .inl (upd (fun _ => 0) (1 : Int32).toNatClampNeg (vp_nar .boolean 1)))), (mb, .inl (cI, 3, .inl (upd (fun _ => 0) (1 : Int32).toNatClampNeg 0))), (mk, .inl (cZ, 192, .inl (upd z.1 ((64 + (nI i)) : Int32).toNatClampNeg (vp_nar .boolean 0)))), (mh, .inl (cZ, 64, .inl (fun _ => 0))), (ml, .inl (cI, 192, .inl z.2.1)), (mn, .inl (cI, 64, .inl (fun _ => 0))), (ms, .inl (cI, 192, .inl z.2.2))] H := hP
    have hD : va_D A [(m0, .inr (4, [.int 0, .ref md, .int 0, .int (-1), .int 0, .ref mh, .ref mn, .ref mc, .int 0, .int 1, .int 0, .int 0, .ref mo, .ref mb, .ref mk, .ref ml, .ref ms, .ref mw])), (mo, .inl (cZ, 3, .inl (upd (fun _ => 0) (1 : Int32).toNatClampNeg (vp_nar .boolean 1)))), (mb, .inl (cI, 3, .inl (upd (fun _ => 0) (1 : Int32).toNatClampNeg 0))), (mk, .inl (cZ, 192, .inl (upd z.1 ((64 + (nI i)) : Int32).toNatClampNeg (vp_nar .boolean 0)))), (mh, .inl (cZ, 64, .inl (fun _ => 0))), (ml, .inl (cI, 192, .inl z.2.1)), (mn, .inl (cI, 64, .inl (fun _ => 0))), (ms, .inl (cI, 192, .inl z.2.2))] := hD
    refine lv_aload_n hx hb dM_begin_93 rfl (lv_at hl 1 rfl) ?_
    refine va_get (D := (dC, dI)) (ci := 4) (v := .ref ml) (C := "LoggedStoreModel") (T := uM) (N := 18) hx hb hw inM hown hK hP 0 rfl rfl 15 (by decide) (hw _ w627) (fun _ h9 => h9) rfl dM_begin_94 ?_
    refine lv_bipush (v := 64) hx hb dM_begin_97 (by decide) ?_
    refine lv_iload_n hx hb dM_begin_99 rfl (lv_at hl 2 rfl) ?_
    refine lv_imul hx hb dM_begin_100 ?_
    refine lv_topi (nm_r (e' := 64) (by decide +kernel) ?_)
    refine lv_iload_n hx hb dM_begin_101 rfl (lv_at hl 0 rfl) ?_
    refine lv_iadd hx hb dM_begin_102 ?_
    refine lv_aload_n hx hb dM_begin_103 rfl (lv_at hl 1 rfl) ?_
    refine va_get (D := (dC, dI)) (ci := 4) (v := .ref mn) (C := "LoggedStoreModel") (T := uM) (N := 18) hx hb hw inM hown hK hP 0 rfl rfl 6 (by decide) (hw _ w618) (fun _ h9 => h9) rfl dM_begin_104 ?_
    refine lv_iload_n hx hb dM_begin_107 rfl (lv_at hl 0 rfl) ?_
    refine va_iald hx hb hK hP 6 0 rfl rfl (vp_in_nI hi (by decide)) dM_begin_108 ?_
    refine lv_topi (nm_r (e' := 0) (rfl) ?_)
    refine va_iast hx hb hK hP hD hS 5 0 rfl rfl (by rw [show (64 : Int32) + nI i = nI (64 + i) from nI_add 64 i]; exact vp_in_nI (by omega) (by decide)) dM_begin_109 (fun H locs hP hD hS => ?_)
    have hP : va_P (dC, dI) vwC [(m0, .inr (4, [.int 0, .ref md, .int 0, .int (-1), .int 0, .ref mh, .ref mn, .ref mc, .int 0, .int 1, .int 0, .int 0, .ref mo, .ref mb, .ref mk, .ref ml, .ref ms, .ref mw])), (mo, .inl (cZ, 3, .inl (upd (fun _ => 0) (1 : Int32).toNatClampNeg (vp_nar .boolean 1)))), (mb, .inl (cI, 3, .inl (upd (fun _ => 0) (1 : Int32).toNatClampNeg 0))), (mk, .inl (cZ, 192, .inl (upd z.1 ((64 + (nI i)) : Int32).toNatClampNeg (vp_nar .boolean 0)))), (mh, .inl (cZ, 64, .inl (fun _ => 0))), (ml, .inl (cI, 192, .inl (upd z.2.1 ((64 + (nI i)) : Int32).toNatClampNeg 0))), (mn, .inl (cI, 64, .inl (fun _ => 0))), (ms, .inl (cI, 192, .inl z.2.2))] H := hP
    have hD : va_D A [(m0, .inr (4, [.int 0, .ref md, .int 0, .int (-1), .int 0, .ref mh, .ref mn, .ref mc, .int 0, .int 1, .int 0, .int 0, .ref mo, .ref mb, .ref mk, .ref ml, .ref ms, .ref mw])), (mo, .inl (cZ, 3, .inl (upd (fun _ => 0) (1 : Int32).toNatClampNeg (vp_nar .boolean 1)))), (mb, .inl (cI, 3, .inl (upd (fun _ => 0) (1 : Int32).toNatClampNeg 0))), (mk, .inl (cZ, 192, .inl (upd z.1 ((64 + (nI i)) : Int32).toNatClampNeg (vp_nar .boolean 0)))), (mh, .inl (cZ, 64, .inl (fun _ => 0))), (ml, .inl (cI, 192, .inl (upd z.2.1 ((64 + (nI i)) : Int32).toNatClampNeg 0))), (mn, .inl (cI, 64, .inl (fun _ => 0))), (ms, .inl (cI, 192, .inl z.2.2))] := hD
    refine lv_aload_n hx hb dM_begin_110 rfl (lv_at hl 1 rfl) ?_
    refine va_get (D := (dC, dI)) (ci := 4) (v := .ref ms) (C := "LoggedStoreModel") (T := uM) (N := 18) hx hb hw inM hown hK hP 0 rfl rfl 16 (by decide) (hw _ w628) (fun _ h9 => h9) rfl dM_begin_111 ?_
    refine lv_bipush (v := 64) hx hb dM_begin_114 (by decide) ?_
    refine lv_iload_n hx hb dM_begin_116 rfl (lv_at hl 2 rfl) ?_
    refine lv_imul hx hb dM_begin_117 ?_
    refine lv_topi (nm_r (e' := 64) (by decide +kernel) ?_)
    refine lv_iload_n hx hb dM_begin_118 rfl (lv_at hl 0 rfl) ?_
    refine lv_iadd hx hb dM_begin_119 ?_
    refine lv_iconst (v := 0) hx hb dM_begin_120 (by decide) ?_
    refine va_iast hx hb hK hP hD hS 7 0 rfl rfl (by rw [show (64 : Int32) + nI i = nI (64 + i) from nI_add 64 i]; exact vp_in_nI (by omega) (by decide)) dM_begin_121 (fun H locs hP hD hS => ?_)
    have hP : va_P (dC, dI) vwC [(m0, .inr (4, [.int 0, .ref md, .int 0, .int (-1), .int 0, .ref mh, .ref mn, .ref mc, .int 0, .int 1, .int 0, .int 0, .ref mo, .ref mb, .ref mk, .ref ml, .ref ms, .ref mw])), (mo, .inl (cZ, 3, .inl (upd (fun _ => 0) (1 : Int32).toNatClampNeg (vp_nar .boolean 1)))), (mb, .inl (cI, 3, .inl (upd (fun _ => 0) (1 : Int32).toNatClampNeg 0))), (mk, .inl (cZ, 192, .inl (upd z.1 ((64 + (nI i)) : Int32).toNatClampNeg (vp_nar .boolean 0)))), (mh, .inl (cZ, 64, .inl (fun _ => 0))), (ml, .inl (cI, 192, .inl (upd z.2.1 ((64 + (nI i)) : Int32).toNatClampNeg 0))), (mn, .inl (cI, 64, .inl (fun _ => 0))), (ms, .inl (cI, 192, .inl (upd z.2.2 ((64 + (nI i)) : Int32).toNatClampNeg 0)))] H := hP
    have hD : va_D A [(m0, .inr (4, [.int 0, .ref md, .int 0, .int (-1), .int 0, .ref mh, .ref mn, .ref mc, .int 0, .int 1, .int 0, .int 0, .ref mo, .ref mb, .ref mk, .ref ml, .ref ms, .ref mw])), (mo, .inl (cZ, 3, .inl (upd (fun _ => 0) (1 : Int32).toNatClampNeg (vp_nar .boolean 1)))), (mb, .inl (cI, 3, .inl (upd (fun _ => 0) (1 : Int32).toNatClampNeg 0))), (mk, .inl (cZ, 192, .inl (upd z.1 ((64 + (nI i)) : Int32).toNatClampNeg (vp_nar .boolean 0)))), (mh, .inl (cZ, 64, .inl (fun _ => 0))), (ml, .inl (cI, 192, .inl (upd z.2.1 ((64 + (nI i)) : Int32).toNatClampNeg 0))), (mn, .inl (cI, 64, .inl (fun _ => 0))), (ms, .inl (cI, 192, .inl (upd z.2.2 ((64 + (nI i)) : Int32).toNatClampNeg 0)))] := hD
    refine lv_iinc (k := 0) (v := nI (i + 1)) hx hb dM_begin_122 hl rfl (nI_1 i) (by decide) rfl (fun ls hl => ?_)
    have hl : lv_has ls 3 [(2, .int (nI (i + 1))), (0, .ref m0), (1, .int 1)] := hl
    refine lv_goto (tgt := 70) hx hb dM_begin_125 (by decide) ?_
    exact ih (upd z.1 ((64 + (nI i)) : Int32).toNatClampNeg (vp_nar .boolean 0), upd z.2.1 ((64 + (nI i)) : Int32).toNatClampNeg 0, upd z.2.2 ((64 + (nI i)) : Int32).toNatClampNeg 0) ls H locs hl hP hD hS

set_option maxHeartbeats 4000000 in
set_option maxRecDepth 100000 in
theorem c_M_begin_2 (l : Launch) (dC : Nat → ClassId) (dI : Nat → Nat → Nat) (cI cZ cJ cT : ClassId) (m0 md mh mn mc mo mb mk ml ms mw : Nat) (sz : Nat) : Met l yM_begin (Cond.code yM_begin cM_begin 3 (some .int) :: wsA) ({ frames := 1, cells := 0, slots := 0, locals := 22 }) (va_Pc [.ref m0, .int 2] (fun U => U.heap.size = sz ∧ va_P (dC, dI) vwC [(m0, .inr (4, [.int 0, .ref md, .int 0, .int (-1), .int 0, .ref mh, .ref mn, .ref mc, .int 0, .int 1, .int 0, .int 0, .ref mo, .ref mb, .ref mk, .ref ml, .ref ms, .ref mw])), (mo, .inl (cZ, 3, .inl (fun _ => 0))), (mb, .inl (cI, 3, .inl (fun _ => 0))), (mk, .inl (cZ, 192, .inl (fun _ => 0))), (mh, .inl (cZ, 64, .inl (fun _ => 0))), (ml, .inl (cI, 192, .inl (fun _ => 0))), (mn, .inl (cI, 64, .inl (fun _ => 0))), (ms, .inl (cI, 192, .inl (fun _ => 0)))] U.heap ∧ KK dC dI cI cZ cJ cT U ∧ va_D (fun _ => True) [(m0, .inr (4, [.int 0, .ref md, .int 0, .int (-1), .int 0, .ref mh, .ref mn, .ref mc, .int 0, .int 1, .int 0, .int 0, .ref mo, .ref mb, .ref mk, .ref ml, .ref ms, .ref mw])), (mo, .inl (cZ, 3, .inl (fun _ => 0))), (mb, .inl (cI, 3, .inl (fun _ => 0))), (mk, .inl (cZ, 192, .inl (fun _ => 0))), (mh, .inl (cZ, 64, .inl (fun _ => 0))), (ml, .inl (cI, 192, .inl (fun _ => 0))), (mn, .inl (cI, 64, .inl (fun _ => 0))), (ms, .inl (cI, 192, .inl (fun _ => 0)))])) (va_Qi (S := Nat → Nat) (fun r _ => r = 0) (fun u t => va_P (dC, dI) vwC [(m0, .inr (4, [.int 0, .ref md, .int 0, .int (-1), .int 0, .ref mh, .ref mn, .ref mc, .int 0, .int 1, .int 0, .int 0, .ref mo, .ref mb, .ref mk, .ref ml, .ref ms, .ref mw]))] t.heap ∧ va_D (va_A [(m0, .inr (4, [.int 0, .ref md, .int 0, .int (-1), .int 0, .ref mh, .ref mn, .ref mc, .int 0, .int 1, .int 0, .int 0, .ref mo, .ref mb, .ref mk, .ref ml, .ref ms, .ref mw])), (mo, .inl (cZ, 3, .inl (fun _ => 0))), (mb, .inl (cI, 3, .inl (fun _ => 0))), (mk, .inl (cZ, 192, .inl (fun _ => 0))), (mh, .inl (cZ, 64, .inl (fun _ => 0))), (ml, .inl (cI, 192, .inl (fun _ => 0))), (mn, .inl (cI, 64, .inl (fun _ => 0))), (ms, .inl (cI, 192, .inl (fun _ => 0)))] sz) [(m0, .inr (4, [.int 0, .ref md, .int 0, .int (-1), .int 0, .ref mh, .ref mn, .ref mc, .int 0, .int 1, .int 0, .int 0, .ref mo, .ref mb, .ref mk, .ref ml, .ref ms, .ref mw]))]) (va_A [(m0, .inr (4, [.int 0, .ref md, .int 0, .int (-1), .int 0, .ref mh, .ref mn, .ref mc, .int 0, .int 1, .int 0, .int 0, .ref mo, .ref mb, .ref mk, .ref ml, .ref ms, .ref mw])), (mo, .inl (cZ, 3, .inl (fun _ => 0))), (mb, .inl (cI, 3, .inl (fun _ => 0))), (mk, .inl (cZ, 192, .inl (fun _ => 0))), (mh, .inl (cZ, 64, .inl (fun _ => 0))), (ml, .inl (cI, 192, .inl (fun _ => 0))), (mn, .inl (cI, 64, .inl (fun _ => 0))), (ms, .inl (cI, 192, .inl (fun _ => 0)))] sz)) 0 0 (va_A [(m0, .inr (4, [.int 0, .ref md, .int 0, .int (-1), .int 0, .ref mh, .ref mn, .ref mc, .int 0, .int 1, .int 0, .int 0, .ref mo, .ref mb, .ref mk, .ref ml, .ref ms, .ref mw])), (mo, .inl (cZ, 3, .inl (fun _ => 0))), (mb, .inl (cI, 3, .inl (fun _ => 0))), (mk, .inl (cZ, 192, .inl (fun _ => 0))), (mh, .inl (cZ, 64, .inl (fun _ => 0))), (ml, .inl (cI, 192, .inl (fun _ => 0))), (mn, .inl (cI, 64, .inl (fun _ => 0))), (ms, .inl (cI, 192, .inl (fun _ => 0)))] sz) := by
  refine Met.ofW (cc := cM_begin) (maxL := 3) (ret := (some .int)) (by decide) rfl ?_
  intro p e s m args below meth c s₁ B hml hv
  obtain ⟨rfl, hsz, hP, hKK, hD0⟩ := hv
  have hK := hKK.1
  have hx := B.exec
  have hb := B.bytes
  have hr := B.returns
  have hw : ∀ w ∈ wsA, w.before _ s = true := fun w h => atoms_spec (ws := (Cond.code yM_begin cM_begin 3 (some .int) :: wsA)) B.pre w (List.mem_cons_of_mem _ h)
  have hown : s.vm.findClass "LoggedStoreModel" = some m.cls := findClass_of_methodNamed B.named
  have hlocks := B.notSynchronized
  subst hsz
  have hD := hD0.self (sz := s.heap.size)
  generalize hAe : va_A [(m0, .inr (4, [.int 0, .ref md, .int 0, .int (-1), .int 0, .ref mh, .ref mn, .ref mc, .int 0, .int 1, .int 0, .int 0, .ref mo, .ref mb, .ref mk, .ref ml, .ref ms, .ref mw])), (mo, .inl (cZ, 3, .inl (fun _ => 0))), (mb, .inl (cI, 3, .inl (fun _ => 0))), (mk, .inl (cZ, 192, .inl (fun _ => 0))), (mh, .inl (cZ, 64, .inl (fun _ => 0))), (ml, .inl (cI, 192, .inl (fun _ => 0))), (mn, .inl (cI, 64, .inl (fun _ => 0))), (ms, .inl (cI, 192, .inl (fun _ => 0)))] s.heap.size = A at hD ⊢
  have hA : ∀ q : Nat, s.heap.size ≤ q → A q := fun q h => by rw [← hAe]; exact Or.inr h
  have hS : va_S A s.heap s.heap [] := va_S.rf
  have hl := lv_entry ([.ref m0, .int 2]) (n := 3) (Nat.le_of_ble_eq_true rfl)
  rw [lg_entry_eq]
  generalize (lg_sl ([.ref m0, .int 2]) ++ List.replicate (3 - (lg_sl ([.ref m0, .int 2])).length) Slot.unset).toArray = ls at hl ⊢
  have hl : lv_has ls 3 [(0, .ref m0), (1, .int 2)] := hl
  refine lv_aload_n hx hb dM_begin_0 rfl (lv_at hl 0 rfl) ?_
  refine lv_aload_n hx hb dM_begin_1 rfl (lv_at hl 0 rfl) ?_
  refine va_get (D := (dC, dI)) (ci := 4) (v := .int 0) (C := "LoggedStoreModel") (T := uM) (N := 18) hx hb hw inM hown hK hP 0 rfl rfl 2 (by decide) (hw _ w614) (fun _ h9 => h9) rfl dM_begin_2 ?_
  refine lv_if_eq (tgt := 12) hx hb dM_begin_5 (by decide) (fun _ => ?_) (fun h9 => absurd (by decide) h9)
  refine lv_iload_n hx hb dM_begin_12 rfl (lv_at hl 1 rfl) ?_
  refine lv_iconst (v := 0) hx hb dM_begin_13 (by decide) ?_
  refine lv_iconst (v := 2) hx hb dM_begin_14 (by decide) ?_
  have hPc := hP.sub (ws' := []) [] rfl
  refine vp_callSi (W.runS (As := [.int 2, .int 0, .int 2]) (rest := [.ref m0]) ⟨hx, hb, hml, hown, hw⟩ (c_within_t l dC dI cI cZ cJ cT 2 0 2 (by decide) (by decide)) ⟨callB_of 3 hw (gA0 w677) rfl rfl rfl (hw _ w45) (hw _ w675) (by decide +kernel) ⟨Nat.le_of_ble_eq_true rfl, Nat.le_of_ble_eq_true rfl⟩, (hw _ w676)⟩ ⟨kb_S, fun U hU hW => ⟨rfl, by rw [hU]; exact hPc, hKK.moved hW⟩⟩ rfl rfl hl.1 rfl (lv_room (Nat.le_of_ble_eq_true rfl)) dM_begin_15 ⟨Nat.le_of_ble_eq_true rfl, Nat.le_of_ble_eq_true rfl⟩) (fun r1 e2 => ?_)
  obtain rfl : r1 = 1 := e2
  refine lv_if_ne (tgt := 25) hx hb dM_begin_18 (by decide) (fun _ => ?_) (fun h9 => absurd h9 (by decide))
  refine lv_aload_n hx hb dM_begin_25 rfl (lv_at hl 0 rfl) ?_
  refine va_get (D := (dC, dI)) (ci := 4) (v := .ref mo) (C := "LoggedStoreModel") (T := uM) (N := 18) hx hb hw inM hown hK hP 0 rfl rfl 12 (by decide) (hw _ w624) (fun _ h9 => h9) rfl dM_begin_26 ?_
  refine lv_iload_n hx hb dM_begin_29 rfl (lv_at hl 1 rfl) ?_
  refine va_zald hx hb hK hP 1 1 rfl rfl (tv_in (by decide +kernel)) dM_begin_30 ?_
  refine lv_topi (nm_r (e' := 0) (rfl) ?_)
  refine lv_if_eq (tgt := 38) hx hb dM_begin_31 (by decide) (fun _ => ?_) (fun h9 => absurd (by decide) h9)
  refine lv_iconst (v := 0) hx hb dM_begin_38 (by decide) ?_
  refine va_put (D := (dC, dI)) (ci := 4) (v := .int 0) (ty := .int) (C := "LoggedStoreModel") (T := uM) (N := 18) hx hb hw inM tyM tyM_ok nmM hown hK hP hD hS 0 rfl rfl 0 (by decide) (hw _ w612) (fun _ h9 => h9) rfl (by decide +kernel) rfl rfl (Nat.le_of_ble_eq_true rfl) dM_begin_39 (fun H locs hP hD hS => ?_)
  have hP : va_P (dC, dI) vwC [(m0, .inr (4, [.int 0, .ref md, .int 0, .int (-1), .int 0, .ref mh, .ref mn, .ref mc, .int 0, .int 1, .int 0, .int 0, .ref mo, .ref mb, .ref mk, .ref ml, .ref ms, .ref mw])), (mo, .inl (cZ, 3, .inl (fun _ => 0))), (mb, .inl (cI, 3, .inl (fun _ => 0))), (mk, .inl (cZ, 192, .inl (fun _ => 0))), (mh, .inl (cZ, 64, .inl (fun _ => 0))), (ml, .inl (cI, 192, .inl (fun _ => 0))), (mn, .inl (cI, 64, .inl (fun _ => 0))), (ms, .inl (cI, 192, .inl (fun _ => 0)))] H := hP
  have hD : va_D A [(m0, .inr (4, [.int 0, .ref md, .int 0, .int (-1), .int 0, .ref mh, .ref mn, .ref mc, .int 0, .int 1, .int 0, .int 0, .ref mo, .ref mb, .ref mk, .ref ml, .ref ms, .ref mw])), (mo, .inl (cZ, 3, .inl (fun _ => 0))), (mb, .inl (cI, 3, .inl (fun _ => 0))), (mk, .inl (cZ, 192, .inl (fun _ => 0))), (mh, .inl (cZ, 64, .inl (fun _ => 0))), (ml, .inl (cI, 192, .inl (fun _ => 0))), (mn, .inl (cI, 64, .inl (fun _ => 0))), (ms, .inl (cI, 192, .inl (fun _ => 0)))] := hD
  refine lv_aload_n hx hb dM_begin_42 rfl (lv_at hl 0 rfl) ?_
  refine va_get (D := (dC, dI)) (ci := 4) (v := .int 0) (C := "LoggedStoreModel") (T := uM) (N := 18) hx hb hw inM hown hK hP 0 rfl rfl 0 (by decide) (hw _ w612) (fun _ h9 => h9) rfl dM_begin_43 ?_
  refine lv_if_le (tgt := 51) hx hb dM_begin_46 (by decide) (fun _ => ?_) (fun h9 => absurd (by decide) h9)
  refine lv_aload_n hx hb dM_begin_51 rfl (lv_at hl 0 rfl) ?_
  refine va_get (D := (dC, dI)) (ci := 4) (v := .ref mo) (C := "LoggedStoreModel") (T := uM) (N := 18) hx hb hw inM hown hK hP 0 rfl rfl 12 (by decide) (hw _ w624) (fun _ h9 => h9) rfl dM_begin_52 ?_
  refine lv_iload_n hx hb dM_begin_55 rfl (lv_at hl 1 rfl) ?_
  refine lv_iconst (v := 1) hx hb dM_begin_56 (by decide) ?_
  refine va_zast hx hb hK hP hD hS 1 1 rfl rfl (tv_in (by decide +kernel)) dM_begin_57 (fun H locs hP hD hS => ?_)
  have hP : va_P (dC, dI) vwC [(m0, .inr (4, [.int 0, .ref md, .int 0, .int (-1), .int 0, .ref mh, .ref mn, .ref mc, .int 0, .int 1, .int 0, .int 0, .ref mo, .ref mb, .ref mk, .ref ml, .ref ms, .ref mw])), (mo, .inl (cZ, 3, .inl (upd (fun _ => 0) (2 : Int32).toNatClampNeg (vp_nar .boolean 1)))), (mb, .inl (cI, 3, .inl (fun _ => 0))), (mk, .inl (cZ, 192, .inl (fun _ => 0))), (mh, .inl (cZ, 64, .inl (fun _ => 0))), (ml, .inl (cI, 192, .inl (fun _ => 0))), (mn, .inl (cI, 64, .inl (fun _ => 0))), (ms, .inl (cI, 192, .inl (fun _ => 0)))] H := hP
  have hD : va_D A [(m0, .inr (4, [.int 0, .ref md, .int 0, .int (-1), .int 0, .ref mh, .ref mn, .ref mc, .int 0, .int 1, .int 0, .int 0, .ref mo, .ref mb, .ref mk, .ref ml, .ref ms, .ref mw])), (mo, .inl (cZ, 3, .inl (upd (fun _ => 0) (2 : Int32).toNatClampNeg (vp_nar .boolean 1)))), (mb, .inl (cI, 3, .inl (fun _ => 0))), (mk, .inl (cZ, 192, .inl (fun _ => 0))), (mh, .inl (cZ, 64, .inl (fun _ => 0))), (ml, .inl (cI, 192, .inl (fun _ => 0))), (mn, .inl (cI, 64, .inl (fun _ => 0))), (ms, .inl (cI, 192, .inl (fun _ => 0)))] := hD
  refine lv_aload_n hx hb dM_begin_58 rfl (lv_at hl 0 rfl) ?_
  refine va_get (D := (dC, dI)) (ci := 4) (v := .ref mb) (C := "LoggedStoreModel") (T := uM) (N := 18) hx hb hw inM hown hK hP 0 rfl rfl 13 (by decide) (hw _ w625) (fun _ h9 => h9) rfl dM_begin_59 ?_
  refine lv_iload_n hx hb dM_begin_62 rfl (lv_at hl 1 rfl) ?_
  refine lv_aload_n hx hb dM_begin_63 rfl (lv_at hl 0 rfl) ?_
  refine va_get (D := (dC, dI)) (ci := 4) (v := .int 0) (C := "LoggedStoreModel") (T := uM) (N := 18) hx hb hw inM hown hK hP 0 rfl rfl 8 (by decide) (hw _ w620) (fun _ h9 => h9) rfl dM_begin_64 ?_
  refine va_iast hx hb hK hP hD hS 2 0 rfl rfl (tv_in (by decide +kernel)) dM_begin_67 (fun H locs hP hD hS => ?_)
  have hP : va_P (dC, dI) vwC [(m0, .inr (4, [.int 0, .ref md, .int 0, .int (-1), .int 0, .ref mh, .ref mn, .ref mc, .int 0, .int 1, .int 0, .int 0, .ref mo, .ref mb, .ref mk, .ref ml, .ref ms, .ref mw])), (mo, .inl (cZ, 3, .inl (upd (fun _ => 0) (2 : Int32).toNatClampNeg (vp_nar .boolean 1)))), (mb, .inl (cI, 3, .inl (upd (fun _ => 0) (2 : Int32).toNatClampNeg 0))), (mk, .inl (cZ, 192, .inl (fun _ => 0))), (mh, .inl (cZ, 64, .inl (fun _ => 0))), (ml, .inl (cI, 192, .inl (fun _ => 0))), (mn, .inl (cI, 64, .inl (fun _ => 0))), (ms, .inl (cI, 192, .inl (fun _ => 0)))] H := hP
  have hD : va_D A [(m0, .inr (4, [.int 0, .ref md, .int 0, .int (-1), .int 0, .ref mh, .ref mn, .ref mc, .int 0, .int 1, .int 0, .int 0, .ref mo, .ref mb, .ref mk, .ref ml, .ref ms, .ref mw])), (mo, .inl (cZ, 3, .inl (upd (fun _ => 0) (2 : Int32).toNatClampNeg (vp_nar .boolean 1)))), (mb, .inl (cI, 3, .inl (upd (fun _ => 0) (2 : Int32).toNatClampNeg 0))), (mk, .inl (cZ, 192, .inl (fun _ => 0))), (mh, .inl (cZ, 64, .inl (fun _ => 0))), (ml, .inl (cI, 192, .inl (fun _ => 0))), (mn, .inl (cI, 64, .inl (fun _ => 0))), (ms, .inl (cI, 192, .inl (fun _ => 0)))] := hD
  refine lv_iconst (v := 0) hx hb dM_begin_68 (by decide) ?_
  refine lv_istore_n hx hb dM_begin_69 rfl hl (by decide) rfl (fun ls hl => ?_)
  have hl : lv_has ls 3 [(2, .int 0), (0, .ref m0), (1, .int 2)] := hl
  refine tk_forW (nL := 3) (D := (dC, dI)) (cl := vwC) (A := A) (H0 := s.heap) (σ := (Nat → Int32) × (Nat → Int32) × (Nat → Int32)) (G := fun ls H locs => W p l e _ s m _ below meth c H locs _ _ _ (F0 m 70 ls [])) (fun i => [(2, .int (nI i)), (0, .ref m0), (1, .int 2)]) (fun z => [(m0, .inr (4, [.int 0, .ref md, .int 0, .int (-1), .int 0, .ref mh, .ref mn, .ref mc, .int 0, .int 1, .int 0, .int 0, .ref mo, .ref mb, .ref mk, .ref ml, .ref ms, .ref mw])), (mo, .inl (cZ, 3, .inl (upd (fun _ => 0) (2 : Int32).toNatClampNeg (vp_nar .boolean 1)))), (mb, .inl (cI, 3, .inl (upd (fun _ => 0) (2 : Int32).toNatClampNeg 0))), (mk, .inl (cZ, 192, .inl z.1)), (mh, .inl (cZ, 64, .inl (fun _ => 0))), (ml, .inl (cI, 192, .inl z.2.1)), (mn, .inl (cI, 64, .inl (fun _ => 0))), (ms, .inl (cI, 192, .inl z.2.2))]) 64 ?_ ?_ (fun _ => 0, fun _ => 0, fun _ => 0) ls H locs hl hP hD hS
  · intro z ls H locs hl hP hD hS
    have hl : lv_has ls 3 [(2, .int (nI 64)), (0, .ref m0), (1, .int 2)] := hl
    have hP : va_P (dC, dI) vwC [(m0, .inr (4, [.int 0, .ref md, .int 0, .int (-1), .int 0, .ref mh, .ref mn, .ref mc, .int 0, .int 1, .int 0, .int 0, .ref mo, .ref mb, .ref mk, .ref ml, .ref ms, .ref mw])), (mo, .inl (cZ, 3, .inl (upd (fun _ => 0) (2 : Int32).toNatClampNeg (vp_nar .boolean 1)))), (mb, .inl (cI, 3, .inl (upd (fun _ => 0) (2 : Int32).toNatClampNeg 0))), (mk, .inl (cZ, 192, .inl z.1)), (mh, .inl (cZ, 64, .inl (fun _ => 0))), (ml, .inl (cI, 192, .inl z.2.1)), (mn, .inl (cI, 64, .inl (fun _ => 0))), (ms, .inl (cI, 192, .inl z.2.2))] H := hP
    have hD : va_D A [(m0, .inr (4, [.int 0, .ref md, .int 0, .int (-1), .int 0, .ref mh, .ref mn, .ref mc, .int 0, .int 1, .int 0, .int 0, .ref mo, .ref mb, .ref mk, .ref ml, .ref ms, .ref mw])), (mo, .inl (cZ, 3, .inl (upd (fun _ => 0) (2 : Int32).toNatClampNeg (vp_nar .boolean 1)))), (mb, .inl (cI, 3, .inl (upd (fun _ => 0) (2 : Int32).toNatClampNeg 0))), (mk, .inl (cZ, 192, .inl z.1)), (mh, .inl (cZ, 64, .inl (fun _ => 0))), (ml, .inl (cI, 192, .inl z.2.1)), (mn, .inl (cI, 64, .inl (fun _ => 0))), (ms, .inl (cI, 192, .inl z.2.2))] := hD
    refine lv_iload_n hx hb dM_begin_70 rfl (lv_at hl 0 rfl) ?_
    refine lv_bipush (v := 64) hx hb dM_begin_71 (by decide) ?_
    refine lv_icmp_ge (tgt := 128) hx hb dM_begin_73 (by decide) (fun _ => ?_) (fun h9 => absurd (by decide +kernel) h9)
    refine lv_aload_n hx hb dM_begin_128 rfl (lv_at hl 1 rfl) ?_
    refine va_get (D := (dC, dI)) (ci := 4) (v := .int 0) (C := "LoggedStoreModel") (T := uM) (N := 18) hx hb hw inM hown hK hP 0 rfl rfl 8 (by decide) (hw _ w620) (fun _ h9 => h9) rfl dM_begin_129 ?_
    have hP9 := hP.sub (ws' := [(m0, .inr (4, [.int 0, .ref md, .int 0, .int (-1), .int 0, .ref mh, .ref mn, .ref mc, .int 0, .int 1, .int 0, .int 0, .ref mo, .ref mb, .ref mk, .ref ml, .ref ms, .ref mw]))]) [0] rfl
    have hD9 := hD.sub (ws' := [(m0, .inr (4, [.int 0, .ref md, .int 0, .int (-1), .int 0, .ref mh, .ref mn, .ref mc, .int 0, .int 1, .int 0, .int 0, .ref mo, .ref mb, .ref mk, .ref ml, .ref ms, .ref mw]))]) [0] (by decide) rfl
    refine W.widen (k := 0) (n := 0) (by decide) (by decide) ?_
    exact W.iret (v := 0) hx hb hr (fun t ht hW => ⟨⟨0, fun _ => 0, rfl, rfl, by rw [ht]; exact hP9, hD9⟩, hS.F ht⟩) hS.2.2 dM_begin_132
  · intro i hi z ls H locs hl hP hD hS ih
    have hl : lv_has ls 3 [(2, .int (nI i)), (0, .ref m0), (1, .int 2)] := hl
    have hP : va_P (dC, dI) vwC [(m0, .inr (4, [.int 0, .ref md, .int 0, .int (-1), .int 0, .ref mh, .ref mn, .ref mc, .int 0, .int 1, .int 0, .int 0, .ref mo, .ref mb, .ref mk, .ref ml, .ref ms, .ref mw])), (mo, .inl (cZ, 3, .inl (upd (fun _ => 0) (2 : Int32).toNatClampNeg (vp_nar .boolean 1)))), (mb, .inl (cI, 3, .inl (upd (fun _ => 0) (2 : Int32).toNatClampNeg 0))), (mk, .inl (cZ, 192, .inl z.1)), (mh, .inl (cZ, 64, .inl (fun _ => 0))), (ml, .inl (cI, 192, .inl z.2.1)), (mn, .inl (cI, 64, .inl (fun _ => 0))), (ms, .inl (cI, 192, .inl z.2.2))] H := hP
    have hD : va_D A [(m0, .inr (4, [.int 0, .ref md, .int 0, .int (-1), .int 0, .ref mh, .ref mn, .ref mc, .int 0, .int 1, .int 0, .int 0, .ref mo, .ref mb, .ref mk, .ref ml, .ref ms, .ref mw])), (mo, .inl (cZ, 3, .inl (upd (fun _ => 0) (2 : Int32).toNatClampNeg (vp_nar .boolean 1)))), (mb, .inl (cI, 3, .inl (upd (fun _ => 0) (2 : Int32).toNatClampNeg 0))), (mk, .inl (cZ, 192, .inl z.1)), (mh, .inl (cZ, 64, .inl (fun _ => 0))), (ml, .inl (cI, 192, .inl z.2.1)), (mn, .inl (cI, 64, .inl (fun _ => 0))), (ms, .inl (cI, 192, .inl z.2.2))] := hD
    refine lv_iload_n hx hb dM_begin_70 rfl (lv_at hl 0 rfl) ?_
    refine lv_bipush (v := 64) hx hb dM_begin_71 (by decide) ?_
    refine lv_icmp_ge (tgt := 128) hx hb dM_begin_73 (by decide) (fun h9 => absurd h9 (nI_ge hi (by decide))) (fun _ => ?_)
    refine lv_aload_n hx hb dM_begin_76 rfl (lv_at hl 1 rfl) ?_
    refine va_get (D := (dC, dI)) (ci := 4) (v := .ref mk) (C := "LoggedStoreModel") (T := uM) (N := 18) hx hb hw inM hown hK hP 0 rfl rfl 14 (by decide) (hw _ w626) (fun _ h9 => h9) rfl dM_begin_77 ?_
    refine lv_bipush (v := 64) hx hb dM_begin_80 (by decide) ?_
    refine lv_iload_n hx hb dM_begin_82 rfl (lv_at hl 2 rfl) ?_
    refine lv_imul hx hb dM_begin_83 ?_
    refine lv_topi (nm_r (e' := 128) (by decide +kernel) ?_)
    refine lv_iload_n hx hb dM_begin_84 rfl (lv_at hl 0 rfl) ?_
    refine lv_iadd hx hb dM_begin_85 ?_
    refine lv_aload_n hx hb dM_begin_86 rfl (lv_at hl 1 rfl) ?_
    refine va_get (D := (dC, dI)) (ci := 4) (v := .ref mh) (C := "LoggedStoreModel") (T := uM) (N := 18) hx hb hw inM hown hK hP 0 rfl rfl 5 (by decide) (hw _ w617) (fun _ h9 => h9) rfl dM_begin_87 ?_
    refine lv_iload_n hx hb dM_begin_90 rfl (lv_at hl 0 rfl) ?_
    refine va_zald hx hb hK hP 4 1 rfl rfl (vp_in_nI hi (by decide)) dM_begin_91 ?_
    refine lv_topi (nm_r (e' := 0) (rfl) ?_)
    refine va_zast hx hb hK hP hD hS 3 1 rfl rfl (by rw [show (128 : Int32) + nI i = nI (128 + i) from nI_add 128 i]; exact vp_in_nI (by omega) (by decide)) dM_begin_92 (fun H locs hP hD hS => ?_)
    have hP : va_P (dC, dI) vwC [(m0, .inr (4, [.int 0, .ref md, .int 0, .int (-1), .int 0, .ref mh, .ref mn, .ref mc, .int 0, .int 1, .int 0, .int 0, .ref mo, .ref mb, .ref mk, .ref ml, .ref ms, .ref mw])), (mo, .inl (cZ, 3, .inl (upd (fun _ => 0) (2 : Int32).toNatClampNeg (vp_nar .boolean 1)))), (mb, .inl (cI, 3, .inl (upd (fun _ => 0) (2 : Int32).toNatClampNeg 0))), (mk, .inl (cZ, 192, .inl (upd z.1 ((128 + (nI i)) : Int32).toNatClampNeg (vp_nar .boolean 0)))), (mh, .inl (cZ, 64, .inl (fun _ => 0))), (ml, .inl (cI, 192, .inl z.2.1)), (mn, .inl (cI, 64, .inl (fun _ => 0))), (ms, .inl (cI, 192, .inl z.2.2))] H := hP
    have hD : va_D A [(m0, .inr (4, [.int 0, .ref md, .int 0, .int (-1), .int 0, .ref mh, .ref mn, .ref mc, .int 0, .int 1, .int 0, .int 0, .ref mo, .ref mb, .ref mk, .ref ml, .ref ms, .ref mw])), (mo, .inl (cZ, 3, .inl (upd (fun _ => 0) (2 : Int32).toNatClampNeg (vp_nar .boolean 1)))), (mb, .inl (cI, 3, .inl (upd (fun _ => 0) (2 : Int32).toNatClampNeg 0))), (mk, .inl (cZ, 192, .inl (upd z.1 ((128 + (nI i)) : Int32).toNatClampNeg (vp_nar .boolean 0)))), (mh, .inl (cZ, 64, .inl (fun _ => 0))), (ml, .inl (cI, 192, .inl z.2.1)), (mn, .inl (cI, 64, .inl (fun _ => 0))), (ms, .inl (cI, 192, .inl z.2.2))] := hD
    refine lv_aload_n hx hb dM_begin_93 rfl (lv_at hl 1 rfl) ?_
    refine va_get (D := (dC, dI)) (ci := 4) (v := .ref ml) (C := "LoggedStoreModel") (T := uM) (N := 18) hx hb hw inM hown hK hP 0 rfl rfl 15 (by decide) (hw _ w627) (fun _ h9 => h9) rfl dM_begin_94 ?_
    refine lv_bipush (v := 64) hx hb dM_begin_97 (by decide) ?_
    refine lv_iload_n hx hb dM_begin_99 rfl (lv_at hl 2 rfl) ?_
    refine lv_imul hx hb dM_begin_100 ?_
    refine lv_topi (nm_r (e' := 128) (by decide +kernel) ?_)
    refine lv_iload_n hx hb dM_begin_101 rfl (lv_at hl 0 rfl) ?_
    refine lv_iadd hx hb dM_begin_102 ?_
    refine lv_aload_n hx hb dM_begin_103 rfl (lv_at hl 1 rfl) ?_
    refine va_get (D := (dC, dI)) (ci := 4) (v := .ref mn) (C := "LoggedStoreModel") (T := uM) (N := 18) hx hb hw inM hown hK hP 0 rfl rfl 6 (by decide) (hw _ w618) (fun _ h9 => h9) rfl dM_begin_104 ?_
    refine lv_iload_n hx hb dM_begin_107 rfl (lv_at hl 0 rfl) ?_
    refine va_iald hx hb hK hP 6 0 rfl rfl (vp_in_nI hi (by decide)) dM_begin_108 ?_
    refine lv_topi (nm_r (e' := 0) (rfl) ?_)
    refine va_iast hx hb hK hP hD hS 5 0 rfl rfl (by rw [show (128 : Int32) + nI i = nI (128 + i) from nI_add 128 i]; exact vp_in_nI (by omega) (by decide)) dM_begin_109 (fun H locs hP hD hS => ?_)
    have hP : va_P (dC, dI) vwC [(m0, .inr (4, [.int 0, .ref md, .int 0, .int (-1), .int 0, .ref mh, .ref mn, .ref mc, .int 0, .int 1, .int 0, .int 0, .ref mo, .ref mb, .ref mk, .ref ml, .ref ms, .ref mw])), (mo, .inl (cZ, 3, .inl (upd (fun _ => 0) (2 : Int32).toNatClampNeg (vp_nar .boolean 1)))), (mb, .inl (cI, 3, .inl (upd (fun _ => 0) (2 : Int32).toNatClampNeg 0))), (mk, .inl (cZ, 192, .inl (upd z.1 ((128 + (nI i)) : Int32).toNatClampNeg (vp_nar .boolean 0)))), (mh, .inl (cZ, 64, .inl (fun _ => 0))), (ml, .inl (cI, 192, .inl (upd z.2.1 ((128 + (nI i)) : Int32).toNatClampNeg 0))), (mn, .inl (cI, 64, .inl (fun _ => 0))), (ms, .inl (cI, 192, .inl z.2.2))] H := hP
    have hD : va_D A [(m0, .inr (4, [.int 0, .ref md, .int 0, .int (-1), .int 0, .ref mh, .ref mn, .ref mc, .int 0, .int 1, .int 0, .int 0, .ref mo, .ref mb, .ref mk, .ref ml, .ref ms, .ref mw])), (mo, .inl (cZ, 3, .inl (upd (fun _ => 0) (2 : Int32).toNatClampNeg (vp_nar .boolean 1)))), (mb, .inl (cI, 3, .inl (upd (fun _ => 0) (2 : Int32).toNatClampNeg 0))), (mk, .inl (cZ, 192, .inl (upd z.1 ((128 + (nI i)) : Int32).toNatClampNeg (vp_nar .boolean 0)))), (mh, .inl (cZ, 64, .inl (fun _ => 0))), (ml, .inl (cI, 192, .inl (upd z.2.1 ((128 + (nI i)) : Int32).toNatClampNeg 0))), (mn, .inl (cI, 64, .inl (fun _ => 0))), (ms, .inl (cI, 192, .inl z.2.2))] := hD
    refine lv_aload_n hx hb dM_begin_110 rfl (lv_at hl 1 rfl) ?_
    refine va_get (D := (dC, dI)) (ci := 4) (v := .ref ms) (C := "LoggedStoreModel") (T := uM) (N := 18) hx hb hw inM hown hK hP 0 rfl rfl 16 (by decide) (hw _ w628) (fun _ h9 => h9) rfl dM_begin_111 ?_
    refine lv_bipush (v := 64) hx hb dM_begin_114 (by decide) ?_
    refine lv_iload_n hx hb dM_begin_116 rfl (lv_at hl 2 rfl) ?_
    refine lv_imul hx hb dM_begin_117 ?_
    refine lv_topi (nm_r (e' := 128) (by decide +kernel) ?_)
    refine lv_iload_n hx hb dM_begin_118 rfl (lv_at hl 0 rfl) ?_
    refine lv_iadd hx hb dM_begin_119 ?_
    refine lv_iconst (v := 0) hx hb dM_begin_120 (by decide) ?_
    refine va_iast hx hb hK hP hD hS 7 0 rfl rfl (by rw [show (128 : Int32) + nI i = nI (128 + i) from nI_add 128 i]; exact vp_in_nI (by omega) (by decide)) dM_begin_121 (fun H locs hP hD hS => ?_)
    have hP : va_P (dC, dI) vwC [(m0, .inr (4, [.int 0, .ref md, .int 0, .int (-1), .int 0, .ref mh, .ref mn, .ref mc, .int 0, .int 1, .int 0, .int 0, .ref mo, .ref mb, .ref mk, .ref ml, .ref ms, .ref mw])), (mo, .inl (cZ, 3, .inl (upd (fun _ => 0) (2 : Int32).toNatClampNeg (vp_nar .boolean 1)))), (mb, .inl (cI, 3, .inl (upd (fun _ => 0) (2 : Int32).toNatClampNeg 0))), (mk, .inl (cZ, 192, .inl (upd z.1 ((128 + (nI i)) : Int32).toNatClampNeg (vp_nar .boolean 0)))), (mh, .inl (cZ, 64, .inl (fun _ => 0))), (ml, .inl (cI, 192, .inl (upd z.2.1 ((128 + (nI i)) : Int32).toNatClampNeg 0))), (mn, .inl (cI, 64, .inl (fun _ => 0))), (ms, .inl (cI, 192, .inl (upd z.2.2 ((128 + (nI i)) : Int32).toNatClampNeg 0)))] H := hP
    have hD : va_D A [(m0, .inr (4, [.int 0, .ref md, .int 0, .int (-1), .int 0, .ref mh, .ref mn, .ref mc, .int 0, .int 1, .int 0, .int 0, .ref mo, .ref mb, .ref mk, .ref ml, .ref ms, .ref mw])), (mo, .inl (cZ, 3, .inl (upd (fun _ => 0) (2 : Int32).toNatClampNeg (vp_nar .boolean 1)))), (mb, .inl (cI, 3, .inl (upd (fun _ => 0) (2 : Int32).toNatClampNeg 0))), (mk, .inl (cZ, 192, .inl (upd z.1 ((128 + (nI i)) : Int32).toNatClampNeg (vp_nar .boolean 0)))), (mh, .inl (cZ, 64, .inl (fun _ => 0))), (ml, .inl (cI, 192, .inl (upd z.2.1 ((128 + (nI i)) : Int32).toNatClampNeg 0))), (mn, .inl (cI, 64, .inl (fun _ => 0))), (ms, .inl (cI, 192, .inl (upd z.2.2 ((128 + (nI i)) : Int32).toNatClampNeg 0)))] := hD
    refine lv_iinc (k := 0) (v := nI (i + 1)) hx hb dM_begin_122 hl rfl (nI_1 i) (by decide) rfl (fun ls hl => ?_)
    have hl : lv_has ls 3 [(2, .int (nI (i + 1))), (0, .ref m0), (1, .int 2)] := hl
    refine lv_goto (tgt := 70) hx hb dM_begin_125 (by decide) ?_
    exact ih (upd z.1 ((128 + (nI i)) : Int32).toNatClampNeg (vp_nar .boolean 0), upd z.2.1 ((128 + (nI i)) : Int32).toNatClampNeg 0, upd z.2.2 ((128 + (nI i)) : Int32).toNatClampNeg 0) ls H locs hl hP hD hS

set_option maxHeartbeats 4000000 in
set_option maxRecDepth 100000 in
theorem c_countNow (l : Launch) (dC : Nat → ClassId) (dI : Nat → Nat → Nat) (cI cZ cJ cT : ClassId) (m0 md mh mn mc mo mb mk ml ms mw : Nat) : Met l yM_countNow (Cond.code yM_countNow cM_countNow 3 (some .int) :: wsA) ({ frames := 0, cells := 0, slots := 0, locals := 0 }) (va_Pc [.ref m0] (fun U => va_P (dC, dI) vwC [(m0, .inr (4, [.int 0, .ref md, .int 0, .int (-1), .int 0, .ref mh, .ref mn, .ref mc, .int 0, .int 1, .int 0, .int 0, .ref mo, .ref mb, .ref mk, .ref ml, .ref ms, .ref mw])), (mh, .inl (cZ, 64, .inl (fun _ => 0)))] U.heap ∧ KK dC dI cI cZ cJ cT U)) (vp_Si (fun r => r = 0)) 0 0 (fun _ => False) := by
  refine Met.ofW (cc := cM_countNow) (maxL := 3) (ret := (some .int)) (by decide) rfl ?_
  intro p e s m args below meth c s₁ B hml hv
  obtain ⟨rfl, hP, hKK⟩ := hv
  have hK := hKK.1
  have hx := B.exec
  have hb := B.bytes
  have hr := B.returns
  have hw : ∀ w ∈ wsA, w.before _ s = true := fun w h => atoms_spec (ws := (Cond.code yM_countNow cM_countNow 3 (some .int) :: wsA)) B.pre w (List.mem_cons_of_mem _ h)
  have hown : s.vm.findClass "LoggedStoreModel" = some m.cls := findClass_of_methodNamed B.named
  have hlocks := B.notSynchronized
  have hl := lv_entry ([.ref m0]) (n := 3) (Nat.le_of_ble_eq_true rfl)
  rw [lg_entry_eq]
  generalize (lg_sl ([.ref m0]) ++ List.replicate (3 - (lg_sl ([.ref m0])).length) Slot.unset).toArray = ls at hl ⊢
  have hl : lv_has ls 3 [(0, .ref m0)] := hl
  refine lv_iconst (v := 0) hx hb dM_countNow_0 (by decide) ?_
  refine lv_istore_n hx hb dM_countNow_1 rfl hl (by decide) rfl (fun ls hl => ?_)
  have hl : lv_has ls 3 [(1, .int 0), (0, .ref m0)] := hl
  refine lv_iconst (v := 0) hx hb dM_countNow_2 (by decide) ?_
  refine lv_istore_n hx hb dM_countNow_3 rfl hl (by decide) rfl (fun ls hl => ?_)
  have hl : lv_has ls 3 [(2, .int 0), (1, .int 0), (0, .ref m0)] := hl
  refine tk_for (nL := 3) (G := fun ls => W p l e _ s m _ below meth c _ _ _ _ _ (F0 m 4 ls [])) (fun i => [(2, .int (nI i)), (1, .int 0), (0, .ref m0)]) 64 ?_ ?_ ls hl
  · intro ls hl
    have hl : lv_has ls 3 [(2, .int (nI 64)), (1, .int 0), (0, .ref m0)] := hl
    refine lv_iload_n hx hb dM_countNow_4 rfl (lv_at hl 0 rfl) ?_
    refine lv_bipush (v := 64) hx hb dM_countNow_5 (by decide) ?_
    refine lv_icmp_ge (tgt := 33) hx hb dM_countNow_7 (by decide) (fun _ => ?_) (fun h9 => absurd (by decide +kernel) h9)
    refine lv_iload_n hx hb dM_countNow_33 rfl (lv_at hl 1 rfl) ?_
    exact W.iret (v := 0) hx hb hr (fun t ht hW => ⟨0, rfl, rfl, ht⟩) (fun q h => by cases h) dM_countNow_34
  · intro i hi ls hl ih
    have hl : lv_has ls 3 [(2, .int (nI i)), (1, .int 0), (0, .ref m0)] := hl
    refine lv_iload_n hx hb dM_countNow_4 rfl (lv_at hl 0 rfl) ?_
    refine lv_bipush (v := 64) hx hb dM_countNow_5 (by decide) ?_
    refine lv_icmp_ge (tgt := 33) hx hb dM_countNow_7 (by decide) (fun h9 => absurd h9 (nI_ge hi (by decide))) (fun _ => ?_)
    refine lv_aload_n hx hb dM_countNow_10 rfl (lv_at hl 2 rfl) ?_
    refine va_get (D := (dC, dI)) (ci := 4) (v := .ref mh) (C := "LoggedStoreModel") (T := uM) (N := 18) hx hb hw inM hown hK hP 0 rfl rfl 5 (by decide) (hw _ w617) (fun _ h9 => h9) rfl dM_countNow_11 ?_
    refine lv_iload_n hx hb dM_countNow_14 rfl (lv_at hl 0 rfl) ?_
    refine va_zald hx hb hK hP 1 1 rfl rfl (vp_in_nI hi (by decide)) dM_countNow_15 ?_
    refine lv_topi (nm_r (e' := 0) (rfl) ?_)
    refine lv_if_eq (tgt := 25) hx hb dM_countNow_16 (by decide) (fun _ => ?_) (fun h9 => absurd (by decide) h9)
    refine lv_iload_n hx hb dM_countNow_25 rfl (lv_at hl 1 rfl) ?_
    refine lv_istore_n hx hb dM_countNow_26 rfl hl (by decide) rfl (fun ls hl => ?_)
    have hl : lv_has ls 3 [(1, .int 0), (2, .int (nI i)), (0, .ref m0)] := hl
    refine lv_iinc (k := 1) (v := nI (i + 1)) hx hb dM_countNow_27 hl rfl (nI_1 i) (by decide) rfl (fun ls hl => ?_)
    have hl : lv_has ls 3 [(2, .int (nI (i + 1))), (1, .int 0), (0, .ref m0)] := hl
    refine lv_goto (tgt := 4) hx hb dM_countNow_30 (by decide) ?_
    exact ih ls hl

set_option maxHeartbeats 4000000 in
set_option maxRecDepth 100000 in
theorem c_M_count (l : Launch) (dC : Nat → ClassId) (dI : Nat → Nat → Nat) (cI cZ cJ cT : ClassId) (m0 md mh mn mc mo mb mk ml ms mw : Nat) (sz : Nat) : Met l yM_count (Cond.code yM_count cM_count 1 (some .int) :: wsA) ({ frames := 1, cells := 0, slots := 0, locals := 22 }) (va_Pc [.ref m0] (fun U => U.heap.size = sz ∧ va_P (dC, dI) vwC [(m0, .inr (4, [.int 0, .ref md, .int 0, .int (-1), .int 0, .ref mh, .ref mn, .ref mc, .int 0, .int 1, .int 0, .int 0, .ref mo, .ref mb, .ref mk, .ref ml, .ref ms, .ref mw])), (mh, .inl (cZ, 64, .inl (fun _ => 0)))] U.heap ∧ KK dC dI cI cZ cJ cT U ∧ va_D (fun _ => True) [(m0, .inr (4, [.int 0, .ref md, .int 0, .int (-1), .int 0, .ref mh, .ref mn, .ref mc, .int 0, .int 1, .int 0, .int 0, .ref mo, .ref mb, .ref mk, .ref ml, .ref ms, .ref mw])), (mh, .inl (cZ, 64, .inl (fun _ => 0)))])) (va_Qi (S := Nat → Nat) (fun r _ => r = 0) (fun u t => va_P (dC, dI) vwC [(m0, .inr (4, [.int 0, .ref md, .int 0, .int (-1), .int 0, .ref mh, .ref mn, .ref mc, .int 0, .int 1, .int 0, .int 0, .ref mo, .ref mb, .ref mk, .ref ml, .ref ms, .ref mw]))] t.heap ∧ va_D (va_A [(m0, .inr (4, [.int 0, .ref md, .int 0, .int (-1), .int 0, .ref mh, .ref mn, .ref mc, .int 0, .int 1, .int 0, .int 0, .ref mo, .ref mb, .ref mk, .ref ml, .ref ms, .ref mw])), (mh, .inl (cZ, 64, .inl (fun _ => 0)))] sz) [(m0, .inr (4, [.int 0, .ref md, .int 0, .int (-1), .int 0, .ref mh, .ref mn, .ref mc, .int 0, .int 1, .int 0, .int 0, .ref mo, .ref mb, .ref mk, .ref ml, .ref ms, .ref mw]))]) (va_A [(m0, .inr (4, [.int 0, .ref md, .int 0, .int (-1), .int 0, .ref mh, .ref mn, .ref mc, .int 0, .int 1, .int 0, .int 0, .ref mo, .ref mb, .ref mk, .ref ml, .ref ms, .ref mw])), (mh, .inl (cZ, 64, .inl (fun _ => 0)))] sz)) 0 0 (va_A [(m0, .inr (4, [.int 0, .ref md, .int 0, .int (-1), .int 0, .ref mh, .ref mn, .ref mc, .int 0, .int 1, .int 0, .int 0, .ref mo, .ref mb, .ref mk, .ref ml, .ref ms, .ref mw])), (mh, .inl (cZ, 64, .inl (fun _ => 0)))] sz) := by
  refine Met.ofW (cc := cM_count) (maxL := 1) (ret := (some .int)) (by decide) rfl ?_
  intro p e s m args below meth c s₁ B hml hv
  obtain ⟨rfl, hsz, hP, hKK, hD0⟩ := hv
  have hK := hKK.1
  have hx := B.exec
  have hb := B.bytes
  have hr := B.returns
  have hw : ∀ w ∈ wsA, w.before _ s = true := fun w h => atoms_spec (ws := (Cond.code yM_count cM_count 1 (some .int) :: wsA)) B.pre w (List.mem_cons_of_mem _ h)
  have hown : s.vm.findClass "LoggedStoreModel" = some m.cls := findClass_of_methodNamed B.named
  have hlocks := B.notSynchronized
  subst hsz
  have hD := hD0.self (sz := s.heap.size)
  generalize hAe : va_A [(m0, .inr (4, [.int 0, .ref md, .int 0, .int (-1), .int 0, .ref mh, .ref mn, .ref mc, .int 0, .int 1, .int 0, .int 0, .ref mo, .ref mb, .ref mk, .ref ml, .ref ms, .ref mw])), (mh, .inl (cZ, 64, .inl (fun _ => 0)))] s.heap.size = A at hD ⊢
  have hA : ∀ q : Nat, s.heap.size ≤ q → A q := fun q h => by rw [← hAe]; exact Or.inr h
  have hS : va_S A s.heap s.heap [] := va_S.rf
  have hl := lv_entry ([.ref m0]) (n := 1) (Nat.le_of_ble_eq_true rfl)
  rw [lg_entry_eq]
  generalize (lg_sl ([.ref m0]) ++ List.replicate (1 - (lg_sl ([.ref m0])).length) Slot.unset).toArray = ls at hl ⊢
  have hl : lv_has ls 1 [(0, .ref m0)] := hl
  refine lv_aload_n hx hb dM_count_0 rfl (lv_at hl 0 rfl) ?_
  refine lv_aload_n hx hb dM_count_1 rfl (lv_at hl 0 rfl) ?_
  refine va_get (D := (dC, dI)) (ci := 4) (v := .int 0) (C := "LoggedStoreModel") (T := uM) (N := 18) hx hb hw inM hown hK hP 0 rfl rfl 2 (by decide) (hw _ w614) (fun _ h9 => h9) rfl dM_count_2 ?_
  refine lv_if_eq (tgt := 12) hx hb dM_count_5 (by decide) (fun _ => ?_) (fun h9 => absurd (by decide) h9)
  refine lv_iconst (v := 0) hx hb dM_count_12 (by decide) ?_
  refine va_put (D := (dC, dI)) (ci := 4) (v := .int 0) (ty := .int) (C := "LoggedStoreModel") (T := uM) (N := 18) hx hb hw inM tyM tyM_ok nmM hown hK hP hD hS 0 rfl rfl 0 (by decide) (hw _ w612) (fun _ h9 => h9) rfl (by decide +kernel) rfl rfl (Nat.le_of_ble_eq_true rfl) dM_count_13 (fun H locs hP hD hS => ?_)
  have hP : va_P (dC, dI) vwC [(m0, .inr (4, [.int 0, .ref md, .int 0, .int (-1), .int 0, .ref mh, .ref mn, .ref mc, .int 0, .int 1, .int 0, .int 0, .ref mo, .ref mb, .ref mk, .ref ml, .ref ms, .ref mw])), (mh, .inl (cZ, 64, .inl (fun _ => 0)))] H := hP
  have hD : va_D A [(m0, .inr (4, [.int 0, .ref md, .int 0, .int (-1), .int 0, .ref mh, .ref mn, .ref mc, .int 0, .int 1, .int 0, .int 0, .ref mo, .ref mb, .ref mk, .ref ml, .ref ms, .ref mw])), (mh, .inl (cZ, 64, .inl (fun _ => 0)))] := hD
  refine lv_aload_n hx hb dM_count_16 rfl (lv_at hl 0 rfl) ?_
  refine va_get (D := (dC, dI)) (ci := 4) (v := .int 0) (C := "LoggedStoreModel") (T := uM) (N := 18) hx hb hw inM hown hK hP 0 rfl rfl 2 (by decide) (hw _ w614) (fun _ h9 => h9) rfl dM_count_17 ?_
  refine lv_if_eq (tgt := 27) hx hb dM_count_20 (by decide) (fun _ => ?_) (fun h9 => absurd (by decide) h9)
  refine lv_aload_n hx hb dM_count_27 rfl (lv_at hl 0 rfl) ?_
  have hPc := hP.sub (ws' := [(m0, .inr (4, [.int 0, .ref md, .int 0, .int (-1), .int 0, .ref mh, .ref mn, .ref mc, .int 0, .int 1, .int 0, .int 0, .ref mo, .ref mb, .ref mk, .ref ml, .ref ms, .ref mw])), (mh, .inl (cZ, 64, .inl (fun _ => 0)))]) [0, 1] rfl
  refine vp_callSi (W.runV (C := "LoggedStoreModel") (b := m0) (As := []) (rest := []) ⟨hx, hb, hml, hown, hw⟩ (c_countNow l dC dI cI cZ cJ cT m0 md mh mn mc mo mb mk ml ms mw) ⟨callB_of 0 hw (gA0 w753) rfl rfl rfl (hw _ w45) (hw _ w750) (by decide +kernel) ⟨Nat.le_of_ble_eq_true rfl, Nat.le_of_ble_eq_true rfl⟩, (hw _ w752), (hw _ w32)⟩ ⟨kb_S, va_recv (ci := 4) (q0 := 0) hK hP rfl rfl, fun U hU hW => ⟨rfl, by rw [hU]; exact hPc, hKK.moved hW⟩⟩ rfl rfl hl.1 rfl (lv_room (Nat.le_of_ble_eq_true rfl)) dM_count_28 ⟨Nat.le_of_ble_eq_true rfl, Nat.le_of_ble_eq_true rfl⟩) (fun r1 e2 => ?_)
  obtain rfl : r1 = 0 := e2
  have hP9 := hP.sub (ws' := [(m0, .inr (4, [.int 0, .ref md, .int 0, .int (-1), .int 0, .ref mh, .ref mn, .ref mc, .int 0, .int 1, .int 0, .int 0, .ref mo, .ref mb, .ref mk, .ref ml, .ref ms, .ref mw]))]) [0] rfl
  have hD9 := hD.sub (ws' := [(m0, .inr (4, [.int 0, .ref md, .int 0, .int (-1), .int 0, .ref mh, .ref mn, .ref mc, .int 0, .int 1, .int 0, .int 0, .ref mo, .ref mb, .ref mk, .ref ml, .ref ms, .ref mw]))]) [0] (by decide) rfl
  refine W.widen (k := 0) (n := 0) (by decide) (by decide) ?_
  exact W.iret (v := 0) hx hb hr (fun t ht hW => ⟨⟨0, fun _ => 0, rfl, rfl, by rw [ht]; exact hP9, hD9⟩, hS.F ht⟩) hS.2.2 dM_count_31

set_option maxHeartbeats 4000000 in
set_option maxRecDepth 100000 in
theorem c_M_version (l : Launch) (dC : Nat → ClassId) (dI : Nat → Nat → Nat) (cI cZ cJ cT : ClassId) (m0 md mh mn mc mo mb mk ml ms mw : Nat) (sz : Nat) : Met l yM_version (Cond.code yM_version cM_version 1 (some .int) :: wsA) ({ frames := 0, cells := 0, slots := 0, locals := 0 }) (va_Pc [.ref m0] (fun U => U.heap.size = sz ∧ va_P (dC, dI) vwC [(m0, .inr (4, [.int 0, .ref md, .int 0, .int (-1), .int 0, .ref mh, .ref mn, .ref mc, .int 0, .int 1, .int 0, .int 0, .ref mo, .ref mb, .ref mk, .ref ml, .ref ms, .ref mw]))] U.heap ∧ KK dC dI cI cZ cJ cT U ∧ va_D (fun _ => True) [(m0, .inr (4, [.int 0, .ref md, .int 0, .int (-1), .int 0, .ref mh, .ref mn, .ref mc, .int 0, .int 1, .int 0, .int 0, .ref mo, .ref mb, .ref mk, .ref ml, .ref ms, .ref mw]))])) (va_Qi (S := Nat → Nat) (fun r _ => r = 0) (fun u t => va_P (dC, dI) vwC [(m0, .inr (4, [.int 0, .ref md, .int 0, .int (-1), .int 0, .ref mh, .ref mn, .ref mc, .int 0, .int 1, .int 0, .int 0, .ref mo, .ref mb, .ref mk, .ref ml, .ref ms, .ref mw]))] t.heap ∧ va_D (va_A [(m0, .inr (4, [.int 0, .ref md, .int 0, .int (-1), .int 0, .ref mh, .ref mn, .ref mc, .int 0, .int 1, .int 0, .int 0, .ref mo, .ref mb, .ref mk, .ref ml, .ref ms, .ref mw]))] sz) [(m0, .inr (4, [.int 0, .ref md, .int 0, .int (-1), .int 0, .ref mh, .ref mn, .ref mc, .int 0, .int 1, .int 0, .int 0, .ref mo, .ref mb, .ref mk, .ref ml, .ref ms, .ref mw]))]) (va_A [(m0, .inr (4, [.int 0, .ref md, .int 0, .int (-1), .int 0, .ref mh, .ref mn, .ref mc, .int 0, .int 1, .int 0, .int 0, .ref mo, .ref mb, .ref mk, .ref ml, .ref ms, .ref mw]))] sz)) 0 0 (va_A [(m0, .inr (4, [.int 0, .ref md, .int 0, .int (-1), .int 0, .ref mh, .ref mn, .ref mc, .int 0, .int 1, .int 0, .int 0, .ref mo, .ref mb, .ref mk, .ref ml, .ref ms, .ref mw]))] sz) := by
  refine Met.ofW (cc := cM_version) (maxL := 1) (ret := (some .int)) (by decide) rfl ?_
  intro p e s m args below meth c s₁ B hml hv
  obtain ⟨rfl, hsz, hP, hKK, hD0⟩ := hv
  have hK := hKK.1
  have hx := B.exec
  have hb := B.bytes
  have hr := B.returns
  have hw : ∀ w ∈ wsA, w.before _ s = true := fun w h => atoms_spec (ws := (Cond.code yM_version cM_version 1 (some .int) :: wsA)) B.pre w (List.mem_cons_of_mem _ h)
  have hown : s.vm.findClass "LoggedStoreModel" = some m.cls := findClass_of_methodNamed B.named
  have hlocks := B.notSynchronized
  subst hsz
  have hD := hD0.self (sz := s.heap.size)
  generalize hAe : va_A [(m0, .inr (4, [.int 0, .ref md, .int 0, .int (-1), .int 0, .ref mh, .ref mn, .ref mc, .int 0, .int 1, .int 0, .int 0, .ref mo, .ref mb, .ref mk, .ref ml, .ref ms, .ref mw]))] s.heap.size = A at hD ⊢
  have hA : ∀ q : Nat, s.heap.size ≤ q → A q := fun q h => by rw [← hAe]; exact Or.inr h
  have hS : va_S A s.heap s.heap [] := va_S.rf
  have hl := lv_entry ([.ref m0]) (n := 1) (Nat.le_of_ble_eq_true rfl)
  rw [lg_entry_eq]
  generalize (lg_sl ([.ref m0]) ++ List.replicate (1 - (lg_sl ([.ref m0])).length) Slot.unset).toArray = ls at hl ⊢
  have hl : lv_has ls 1 [(0, .ref m0)] := hl
  refine lv_aload_n hx hb dM_version_0 rfl (lv_at hl 0 rfl) ?_
  refine lv_aload_n hx hb dM_version_1 rfl (lv_at hl 0 rfl) ?_
  refine va_get (D := (dC, dI)) (ci := 4) (v := .int 0) (C := "LoggedStoreModel") (T := uM) (N := 18) hx hb hw inM hown hK hP 0 rfl rfl 2 (by decide) (hw _ w614) (fun _ h9 => h9) rfl dM_version_2 ?_
  refine lv_if_eq (tgt := 12) hx hb dM_version_5 (by decide) (fun _ => ?_) (fun h9 => absurd (by decide) h9)
  refine lv_iconst (v := 0) hx hb dM_version_12 (by decide) ?_
  refine va_put (D := (dC, dI)) (ci := 4) (v := .int 0) (ty := .int) (C := "LoggedStoreModel") (T := uM) (N := 18) hx hb hw inM tyM tyM_ok nmM hown hK hP hD hS 0 rfl rfl 0 (by decide) (hw _ w612) (fun _ h9 => h9) rfl (by decide +kernel) rfl rfl (Nat.le_of_ble_eq_true rfl) dM_version_13 (fun H locs hP hD hS => ?_)
  have hP : va_P (dC, dI) vwC [(m0, .inr (4, [.int 0, .ref md, .int 0, .int (-1), .int 0, .ref mh, .ref mn, .ref mc, .int 0, .int 1, .int 0, .int 0, .ref mo, .ref mb, .ref mk, .ref ml, .ref ms, .ref mw]))] H := hP
  have hD : va_D A [(m0, .inr (4, [.int 0, .ref md, .int 0, .int (-1), .int 0, .ref mh, .ref mn, .ref mc, .int 0, .int 1, .int 0, .int 0, .ref mo, .ref mb, .ref mk, .ref ml, .ref ms, .ref mw]))] := hD
  refine lv_aload_n hx hb dM_version_16 rfl (lv_at hl 0 rfl) ?_
  refine va_get (D := (dC, dI)) (ci := 4) (v := .int 0) (C := "LoggedStoreModel") (T := uM) (N := 18) hx hb hw inM hown hK hP 0 rfl rfl 2 (by decide) (hw _ w614) (fun _ h9 => h9) rfl dM_version_17 ?_
  refine lv_if_eq (tgt := 27) hx hb dM_version_20 (by decide) (fun _ => ?_) (fun h9 => absurd (by decide) h9)
  refine lv_aload_n hx hb dM_version_27 rfl (lv_at hl 0 rfl) ?_
  refine va_get (D := (dC, dI)) (ci := 4) (v := .int 0) (C := "LoggedStoreModel") (T := uM) (N := 18) hx hb hw inM hown hK hP 0 rfl rfl 8 (by decide) (hw _ w620) (fun _ h9 => h9) rfl dM_version_28 ?_
  have hP9 := hP.sub (ws' := [(m0, .inr (4, [.int 0, .ref md, .int 0, .int (-1), .int 0, .ref mh, .ref mn, .ref mc, .int 0, .int 1, .int 0, .int 0, .ref mo, .ref mb, .ref mk, .ref ml, .ref ms, .ref mw]))]) [0] rfl
  have hD9 := hD.sub (ws' := [(m0, .inr (4, [.int 0, .ref md, .int 0, .int (-1), .int 0, .ref mh, .ref mn, .ref mc, .int 0, .int 1, .int 0, .int 0, .ref mo, .ref mb, .ref mk, .ref ml, .ref ms, .ref mw]))]) [0] (by decide) rfl
  refine W.widen (k := 0) (n := 0) (by decide) (by decide) ?_
  exact W.iret (v := 0) hx hb hr (fun t ht hW => ⟨⟨0, fun _ => 0, rfl, rfl, by rw [ht]; exact hP9, hD9⟩, hS.F ht⟩) hS.2.2 dM_version_31

set_option maxHeartbeats 4000000 in
set_option maxRecDepth 100000 in
theorem c_M_left (l : Launch) (dC : Nat → ClassId) (dI : Nat → Nat → Nat) (cI cZ cJ cT : ClassId) (m0 md mh mn mc mo mb mk ml ms mw : Nat) (sz : Nat) : Met l yM_left (Cond.code yM_left cM_left 1 (some .int) :: wsA) ({ frames := 0, cells := 0, slots := 0, locals := 0 }) (va_Pc [.ref m0] (fun U => U.heap.size = sz ∧ va_P (dC, dI) vwC [(m0, .inr (4, [.int 0, .ref md, .int 0, .int (-1), .int 0, .ref mh, .ref mn, .ref mc, .int 0, .int 1, .int 0, .int 0, .ref mo, .ref mb, .ref mk, .ref ml, .ref ms, .ref mw]))] U.heap ∧ KK dC dI cI cZ cJ cT U ∧ va_D (fun _ => True) [(m0, .inr (4, [.int 0, .ref md, .int 0, .int (-1), .int 0, .ref mh, .ref mn, .ref mc, .int 0, .int 1, .int 0, .int 0, .ref mo, .ref mb, .ref mk, .ref ml, .ref ms, .ref mw]))])) (va_Qi (S := Nat → Nat) (fun r _ => r = 74) (fun u t => va_P (dC, dI) vwC [(m0, .inr (4, [.int 0, .ref md, .int 0, .int (-1), .int 0, .ref mh, .ref mn, .ref mc, .int 0, .int 1, .int 0, .int 0, .ref mo, .ref mb, .ref mk, .ref ml, .ref ms, .ref mw]))] t.heap ∧ va_D (va_A [(m0, .inr (4, [.int 0, .ref md, .int 0, .int (-1), .int 0, .ref mh, .ref mn, .ref mc, .int 0, .int 1, .int 0, .int 0, .ref mo, .ref mb, .ref mk, .ref ml, .ref ms, .ref mw]))] sz) [(m0, .inr (4, [.int 0, .ref md, .int 0, .int (-1), .int 0, .ref mh, .ref mn, .ref mc, .int 0, .int 1, .int 0, .int 0, .ref mo, .ref mb, .ref mk, .ref ml, .ref ms, .ref mw]))]) (va_A [(m0, .inr (4, [.int 0, .ref md, .int 0, .int (-1), .int 0, .ref mh, .ref mn, .ref mc, .int 0, .int 1, .int 0, .int 0, .ref mo, .ref mb, .ref mk, .ref ml, .ref ms, .ref mw]))] sz)) 0 0 (va_A [(m0, .inr (4, [.int 0, .ref md, .int 0, .int (-1), .int 0, .ref mh, .ref mn, .ref mc, .int 0, .int 1, .int 0, .int 0, .ref mo, .ref mb, .ref mk, .ref ml, .ref ms, .ref mw]))] sz) := by
  refine Met.ofW (cc := cM_left) (maxL := 1) (ret := (some .int)) (by decide) rfl ?_
  intro p e s m args below meth c s₁ B hml hv
  obtain ⟨rfl, hsz, hP, hKK, hD0⟩ := hv
  have hK := hKK.1
  have hx := B.exec
  have hb := B.bytes
  have hr := B.returns
  have hw : ∀ w ∈ wsA, w.before _ s = true := fun w h => atoms_spec (ws := (Cond.code yM_left cM_left 1 (some .int) :: wsA)) B.pre w (List.mem_cons_of_mem _ h)
  have hown : s.vm.findClass "LoggedStoreModel" = some m.cls := findClass_of_methodNamed B.named
  have hlocks := B.notSynchronized
  subst hsz
  have hD := hD0.self (sz := s.heap.size)
  generalize hAe : va_A [(m0, .inr (4, [.int 0, .ref md, .int 0, .int (-1), .int 0, .ref mh, .ref mn, .ref mc, .int 0, .int 1, .int 0, .int 0, .ref mo, .ref mb, .ref mk, .ref ml, .ref ms, .ref mw]))] s.heap.size = A at hD ⊢
  have hA : ∀ q : Nat, s.heap.size ≤ q → A q := fun q h => by rw [← hAe]; exact Or.inr h
  have hS : va_S A s.heap s.heap [] := va_S.rf
  have hl := lv_entry ([.ref m0]) (n := 1) (Nat.le_of_ble_eq_true rfl)
  rw [lg_entry_eq]
  generalize (lg_sl ([.ref m0]) ++ List.replicate (1 - (lg_sl ([.ref m0])).length) Slot.unset).toArray = ls at hl ⊢
  have hl : lv_has ls 1 [(0, .ref m0)] := hl
  refine lv_aload_n hx hb dM_left_0 rfl (lv_at hl 0 rfl) ?_
  refine lv_aload_n hx hb dM_left_1 rfl (lv_at hl 0 rfl) ?_
  refine va_get (D := (dC, dI)) (ci := 4) (v := .int 0) (C := "LoggedStoreModel") (T := uM) (N := 18) hx hb hw inM hown hK hP 0 rfl rfl 2 (by decide) (hw _ w614) (fun _ h9 => h9) rfl dM_left_2 ?_
  refine lv_if_eq (tgt := 12) hx hb dM_left_5 (by decide) (fun _ => ?_) (fun h9 => absurd (by decide) h9)
  refine lv_iconst (v := 0) hx hb dM_left_12 (by decide) ?_
  refine va_put (D := (dC, dI)) (ci := 4) (v := .int 0) (ty := .int) (C := "LoggedStoreModel") (T := uM) (N := 18) hx hb hw inM tyM tyM_ok nmM hown hK hP hD hS 0 rfl rfl 0 (by decide) (hw _ w612) (fun _ h9 => h9) rfl (by decide +kernel) rfl rfl (Nat.le_of_ble_eq_true rfl) dM_left_13 (fun H locs hP hD hS => ?_)
  have hP : va_P (dC, dI) vwC [(m0, .inr (4, [.int 0, .ref md, .int 0, .int (-1), .int 0, .ref mh, .ref mn, .ref mc, .int 0, .int 1, .int 0, .int 0, .ref mo, .ref mb, .ref mk, .ref ml, .ref ms, .ref mw]))] H := hP
  have hD : va_D A [(m0, .inr (4, [.int 0, .ref md, .int 0, .int (-1), .int 0, .ref mh, .ref mn, .ref mc, .int 0, .int 1, .int 0, .int 0, .ref mo, .ref mb, .ref mk, .ref ml, .ref ms, .ref mw]))] := hD
  refine lv_aload_n hx hb dM_left_16 rfl (lv_at hl 0 rfl) ?_
  refine va_get (D := (dC, dI)) (ci := 4) (v := .int 0) (C := "LoggedStoreModel") (T := uM) (N := 18) hx hb hw inM hown hK hP 0 rfl rfl 2 (by decide) (hw _ w614) (fun _ h9 => h9) rfl dM_left_17 ?_
  refine lv_if_eq (tgt := 27) hx hb dM_left_20 (by decide) (fun _ => ?_) (fun h9 => absurd (by decide) h9)
  refine lv_bipush (v := 74) hx hb dM_left_27 (by decide) ?_
  refine lv_aload_n hx hb dM_left_29 rfl (lv_at hl 0 rfl) ?_
  refine va_get (D := (dC, dI)) (ci := 4) (v := .int 0) (C := "LoggedStoreModel") (T := uM) (N := 18) hx hb hw inM hown hK hP 0 rfl rfl 11 (by decide) (hw _ w623) (fun _ h9 => h9) rfl dM_left_30 ?_
  refine lv_isub hx hb dM_left_33 ?_
  refine lv_topi (nm_r (e' := 74) (by decide +kernel) ?_)
  have hP9 := hP.sub (ws' := [(m0, .inr (4, [.int 0, .ref md, .int 0, .int (-1), .int 0, .ref mh, .ref mn, .ref mc, .int 0, .int 1, .int 0, .int 0, .ref mo, .ref mb, .ref mk, .ref ml, .ref ms, .ref mw]))]) [0] rfl
  have hD9 := hD.sub (ws' := [(m0, .inr (4, [.int 0, .ref md, .int 0, .int (-1), .int 0, .ref mh, .ref mn, .ref mc, .int 0, .int 1, .int 0, .int 0, .ref mo, .ref mb, .ref mk, .ref ml, .ref ms, .ref mw]))]) [0] (by decide) rfl
  refine W.widen (k := 0) (n := 0) (by decide) (by decide) ?_
  exact W.iret (v := 74) hx hb hr (fun t ht hW => ⟨⟨74, fun _ => 0, rfl, rfl, by rw [ht]; exact hP9, hD9⟩, hS.F ht⟩) hS.2.2 dM_left_34

set_option maxHeartbeats 4000000 in
set_option maxRecDepth 100000 in
theorem c_M_isDown (l : Launch) (dC : Nat → ClassId) (dI : Nat → Nat → Nat) (cI cZ cJ cT : ClassId) (m0 md mh mn mc mo mb mk ml ms mw : Nat) (sz : Nat) : Met l yM_isDown (Cond.code yM_isDown cM_isDown 1 (some .boolean) :: wsA) ({ frames := 0, cells := 0, slots := 0, locals := 0 }) (va_Pc [.ref m0] (fun U => U.heap.size = sz ∧ va_P (dC, dI) vwC [(m0, .inr (4, [.int 0, .ref md, .int 0, .int (-1), .int 0, .ref mh, .ref mn, .ref mc, .int 0, .int 1, .int 0, .int 0, .ref mo, .ref mb, .ref mk, .ref ml, .ref ms, .ref mw]))] U.heap ∧ KK dC dI cI cZ cJ cT U ∧ va_D (fun _ => True) [(m0, .inr (4, [.int 0, .ref md, .int 0, .int (-1), .int 0, .ref mh, .ref mn, .ref mc, .int 0, .int 1, .int 0, .int 0, .ref mo, .ref mb, .ref mk, .ref ml, .ref ms, .ref mw]))])) (va_Qi (S := Nat → Nat) (fun r _ => r = 0) (fun u t => va_P (dC, dI) vwC [(m0, .inr (4, [.int 0, .ref md, .int 0, .int (-1), .int 0, .ref mh, .ref mn, .ref mc, .int 0, .int 1, .int 0, .int 0, .ref mo, .ref mb, .ref mk, .ref ml, .ref ms, .ref mw]))] t.heap ∧ va_D (va_A [(m0, .inr (4, [.int 0, .ref md, .int 0, .int (-1), .int 0, .ref mh, .ref mn, .ref mc, .int 0, .int 1, .int 0, .int 0, .ref mo, .ref mb, .ref mk, .ref ml, .ref ms, .ref mw]))] sz) [(m0, .inr (4, [.int 0, .ref md, .int 0, .int (-1), .int 0, .ref mh, .ref mn, .ref mc, .int 0, .int 1, .int 0, .int 0, .ref mo, .ref mb, .ref mk, .ref ml, .ref ms, .ref mw]))]) (va_A [(m0, .inr (4, [.int 0, .ref md, .int 0, .int (-1), .int 0, .ref mh, .ref mn, .ref mc, .int 0, .int 1, .int 0, .int 0, .ref mo, .ref mb, .ref mk, .ref ml, .ref ms, .ref mw]))] sz)) 0 0 (va_A [(m0, .inr (4, [.int 0, .ref md, .int 0, .int (-1), .int 0, .ref mh, .ref mn, .ref mc, .int 0, .int 1, .int 0, .int 0, .ref mo, .ref mb, .ref mk, .ref ml, .ref ms, .ref mw]))] sz) := by
  refine Met.ofW (cc := cM_isDown) (maxL := 1) (ret := (some .boolean)) (by decide) rfl ?_
  intro p e s m args below meth c s₁ B hml hv
  obtain ⟨rfl, hsz, hP, hKK, hD0⟩ := hv
  have hK := hKK.1
  have hx := B.exec
  have hb := B.bytes
  have hr := B.returns
  have hw : ∀ w ∈ wsA, w.before _ s = true := fun w h => atoms_spec (ws := (Cond.code yM_isDown cM_isDown 1 (some .boolean) :: wsA)) B.pre w (List.mem_cons_of_mem _ h)
  have hown : s.vm.findClass "LoggedStoreModel" = some m.cls := findClass_of_methodNamed B.named
  have hlocks := B.notSynchronized
  subst hsz
  have hD := hD0.self (sz := s.heap.size)
  generalize hAe : va_A [(m0, .inr (4, [.int 0, .ref md, .int 0, .int (-1), .int 0, .ref mh, .ref mn, .ref mc, .int 0, .int 1, .int 0, .int 0, .ref mo, .ref mb, .ref mk, .ref ml, .ref ms, .ref mw]))] s.heap.size = A at hD ⊢
  have hA : ∀ q : Nat, s.heap.size ≤ q → A q := fun q h => by rw [← hAe]; exact Or.inr h
  have hS : va_S A s.heap s.heap [] := va_S.rf
  have hl := lv_entry ([.ref m0]) (n := 1) (Nat.le_of_ble_eq_true rfl)
  rw [lg_entry_eq]
  generalize (lg_sl ([.ref m0]) ++ List.replicate (1 - (lg_sl ([.ref m0])).length) Slot.unset).toArray = ls at hl ⊢
  have hl : lv_has ls 1 [(0, .ref m0)] := hl
  refine lv_aload_n hx hb dM_isDown_0 rfl (lv_at hl 0 rfl) ?_
  refine lv_iconst (v := 0) hx hb dM_isDown_1 (by decide) ?_
  refine va_put (D := (dC, dI)) (ci := 4) (v := .int 0) (ty := .int) (C := "LoggedStoreModel") (T := uM) (N := 18) hx hb hw inM tyM tyM_ok nmM hown hK hP hD hS 0 rfl rfl 0 (by decide) (hw _ w612) (fun _ h9 => h9) rfl (by decide +kernel) rfl rfl (Nat.le_of_ble_eq_true rfl) dM_isDown_2 (fun H locs hP hD hS => ?_)
  have hP : va_P (dC, dI) vwC [(m0, .inr (4, [.int 0, .ref md, .int 0, .int (-1), .int 0, .ref mh, .ref mn, .ref mc, .int 0, .int 1, .int 0, .int 0, .ref mo, .ref mb, .ref mk, .ref ml, .ref ms, .ref mw]))] H := hP
  have hD : va_D A [(m0, .inr (4, [.int 0, .ref md, .int 0, .int (-1), .int 0, .ref mh, .ref mn, .ref mc, .int 0, .int 1, .int 0, .int 0, .ref mo, .ref mb, .ref mk, .ref ml, .ref ms, .ref mw]))] := hD
  refine lv_aload_n hx hb dM_isDown_5 rfl (lv_at hl 0 rfl) ?_
  refine va_get (D := (dC, dI)) (ci := 4) (v := .int 0) (C := "LoggedStoreModel") (T := uM) (N := 18) hx hb hw inM hown hK hP 0 rfl rfl 2 (by decide) (hw _ w614) (fun _ h9 => h9) rfl dM_isDown_6 ?_
  have hP9 := hP.sub (ws' := [(m0, .inr (4, [.int 0, .ref md, .int 0, .int (-1), .int 0, .ref mh, .ref mn, .ref mc, .int 0, .int 1, .int 0, .int 0, .ref mo, .ref mb, .ref mk, .ref ml, .ref ms, .ref mw]))]) [0] rfl
  have hD9 := hD.sub (ws' := [(m0, .inr (4, [.int 0, .ref md, .int 0, .int (-1), .int 0, .ref mh, .ref mn, .ref mc, .int 0, .int 1, .int 0, .int 0, .ref mo, .ref mb, .ref mk, .ref ml, .ref ms, .ref mw]))]) [0] (by decide) rfl
  refine W.widen (k := 0) (n := 0) (by decide) (by decide) ?_
  exact W.zret (v := 0) (ty := .boolean) hx hb hr (by decide) (fun t ht hW => ⟨⟨0, fun _ => 0, rfl, rfl, by rw [ht]; exact hP9, hD9⟩, hS.F ht⟩) hS.2.2 dM_isDown_9

set_option maxHeartbeats 4000000 in
set_option maxRecDepth 100000 in
theorem c_M_arm (l : Launch) (dC : Nat → ClassId) (dI : Nat → Nat → Nat) (cI cZ cJ cT : ClassId) (m0 md mh mn mc mo mb mk ml ms mw : Nat) (n9 w9 : Int32) (sz : Nat) : Met l yM_arm (Cond.code yM_arm cM_arm 3 none :: wsA) ({ frames := 0, cells := 0, slots := 0, locals := 0 }) (va_Pc [.ref m0, .int n9, .int w9] (fun U => U.heap.size = sz ∧ va_P (dC, dI) vwC [(m0, .inr (4, [.int 0, .ref md, .int 0, .int (-1), .int 0, .ref mh, .ref mn, .ref mc, .int 0, .int 1, .int 0, .int 0, .ref mo, .ref mb, .ref mk, .ref ml, .ref ms, .ref mw]))] U.heap ∧ KK dC dI cI cZ cJ cT U ∧ va_D (fun _ => True) [(m0, .inr (4, [.int 0, .ref md, .int 0, .int (-1), .int 0, .ref mh, .ref mn, .ref mc, .int 0, .int 1, .int 0, .int 0, .ref mo, .ref mb, .ref mk, .ref ml, .ref ms, .ref mw]))])) (va_Qv (S := Nat → Nat) (fun _ => True) (fun _ _ => True) (va_A [(m0, .inr (4, [.int 0, .ref md, .int 0, .int (-1), .int 0, .ref mh, .ref mn, .ref mc, .int 0, .int 1, .int 0, .int 0, .ref mo, .ref mb, .ref mk, .ref ml, .ref ms, .ref mw]))] sz)) 0 0 (va_A [(m0, .inr (4, [.int 0, .ref md, .int 0, .int (-1), .int 0, .ref mh, .ref mn, .ref mc, .int 0, .int 1, .int 0, .int 0, .ref mo, .ref mb, .ref mk, .ref ml, .ref ms, .ref mw]))] sz) := by
  refine Met.ofW (cc := cM_arm) (maxL := 3) (ret := none) (by decide) rfl ?_
  intro p e s m args below meth c s₁ B hml hv
  obtain ⟨rfl, hsz, hP, hKK, hD0⟩ := hv
  have hK := hKK.1
  have hx := B.exec
  have hb := B.bytes
  have hr := B.returns
  have hw : ∀ w ∈ wsA, w.before _ s = true := fun w h => atoms_spec (ws := (Cond.code yM_arm cM_arm 3 none :: wsA)) B.pre w (List.mem_cons_of_mem _ h)
  have hown : s.vm.findClass "LoggedStoreModel" = some m.cls := findClass_of_methodNamed B.named
  have hlocks := B.notSynchronized
  subst hsz
  have hD := hD0.self (sz := s.heap.size)
  generalize hAe : va_A [(m0, .inr (4, [.int 0, .ref md, .int 0, .int (-1), .int 0, .ref mh, .ref mn, .ref mc, .int 0, .int 1, .int 0, .int 0, .ref mo, .ref mb, .ref mk, .ref ml, .ref ms, .ref mw]))] s.heap.size = A at hD ⊢
  have hA : ∀ q : Nat, s.heap.size ≤ q → A q := fun q h => by rw [← hAe]; exact Or.inr h
  have hS : va_S A s.heap s.heap [] := va_S.rf
  have hl := lv_entry ([.ref m0, .int n9, .int w9]) (n := 3) (Nat.le_of_ble_eq_true rfl)
  rw [lg_entry_eq]
  generalize (lg_sl ([.ref m0, .int n9, .int w9]) ++ List.replicate (3 - (lg_sl ([.ref m0, .int n9, .int w9])).length) Slot.unset).toArray = ls at hl ⊢
  have hl : lv_has ls 3 [(0, .ref m0), (1, .int n9), (2, .int w9)] := hl
  refine lv_aload_n hx hb dM_arm_0 rfl (lv_at hl 0 rfl) ?_
  refine lv_iconst (v := 0) hx hb dM_arm_1 (by decide) ?_
  refine va_put (D := (dC, dI)) (ci := 4) (v := .int 0) (ty := .int) (C := "LoggedStoreModel") (T := uM) (N := 18) hx hb hw inM tyM tyM_ok nmM hown hK hP hD hS 0 rfl rfl 0 (by decide) (hw _ w612) (fun _ h9 => h9) rfl (by decide +kernel) rfl rfl (Nat.le_of_ble_eq_true rfl) dM_arm_2 (fun H locs hP hD hS => ?_)
  have hP : va_P (dC, dI) vwC [(m0, .inr (4, [.int 0, .ref md, .int 0, .int (-1), .int 0, .ref mh, .ref mn, .ref mc, .int 0, .int 1, .int 0, .int 0, .ref mo, .ref mb, .ref mk, .ref ml, .ref ms, .ref mw]))] H := hP
  have hD : va_D A [(m0, .inr (4, [.int 0, .ref md, .int 0, .int (-1), .int 0, .ref mh, .ref mn, .ref mc, .int 0, .int 1, .int 0, .int 0, .ref mo, .ref mb, .ref mk, .ref ml, .ref ms, .ref mw]))] := hD
  refine lv_aload_n hx hb dM_arm_5 rfl (lv_at hl 0 rfl) ?_
  refine lv_iload_n hx hb dM_arm_6 rfl (lv_at hl 1 rfl) ?_
  refine lv_if_ge (tgt := 14) hx hb dM_arm_7 (by decide) (fun h7 => ?_) (fun h7 => ?_)
  · refine lv_iload_n hx hb dM_arm_14 rfl (lv_at hl 1 rfl) ?_
    refine va_put (D := (dC, dI)) (ci := 4) (v := .int n9) (ty := .int) (C := "LoggedStoreModel") (T := uM) (N := 18) hx hb hw inM tyM tyM_ok nmM hown hK hP hD hS 0 rfl rfl 3 (by decide) (hw _ w615) (fun _ h9 => h9) rfl (by decide +kernel) rfl rfl (Nat.le_of_ble_eq_true rfl) dM_arm_15 (fun H locs hP hD hS => ?_)
    have hP : va_P (dC, dI) vwC [(m0, .inr (4, [.int 0, .ref md, .int 0, .int n9, .int 0, .ref mh, .ref mn, .ref mc, .int 0, .int 1, .int 0, .int 0, .ref mo, .ref mb, .ref mk, .ref ml, .ref ms, .ref mw]))] H := hP
    have hD : va_D A [(m0, .inr (4, [.int 0, .ref md, .int 0, .int n9, .int 0, .ref mh, .ref mn, .ref mc, .int 0, .int 1, .int 0, .int 0, .ref mo, .ref mb, .ref mk, .ref ml, .ref ms, .ref mw]))] := hD
    refine lv_aload_n hx hb dM_arm_18 rfl (lv_at hl 0 rfl) ?_
    refine lv_iload_n hx hb dM_arm_19 rfl (lv_at hl 2 rfl) ?_
    refine lv_if_ge (tgt := 27) hx hb dM_arm_20 (by decide) (fun h8 => ?_) (fun h8 => ?_)
    · refine lv_iload_n hx hb dM_arm_27 rfl (lv_at hl 2 rfl) ?_
      refine lv_iconst (v := 3) hx hb dM_arm_28 (by decide) ?_
      refine lv_icmp_le (tgt := 36) hx hb dM_arm_29 (by decide) (fun h9 => ?_) (fun h9 => ?_)
      · refine lv_iload_n hx hb dM_arm_36 rfl (lv_at hl 2 rfl) ?_
        refine va_put (D := (dC, dI)) (ci := 4) (v := .int w9) (ty := .int) (C := "LoggedStoreModel") (T := uM) (N := 18) hx hb hw inM tyM tyM_ok nmM hown hK hP hD hS 0 rfl rfl 4 (by decide) (hw _ w616) (fun _ h9 => h9) rfl (by decide +kernel) rfl rfl (Nat.le_of_ble_eq_true rfl) dM_arm_37 (fun H locs hP hD hS => ?_)
        have hP : va_P (dC, dI) vwC [(m0, .inr (4, [.int 0, .ref md, .int 0, .int n9, .int w9, .ref mh, .ref mn, .ref mc, .int 0, .int 1, .int 0, .int 0, .ref mo, .ref mb, .ref mk, .ref ml, .ref ms, .ref mw]))] H := hP
        have hD : va_D A [(m0, .inr (4, [.int 0, .ref md, .int 0, .int n9, .int w9, .ref mh, .ref mn, .ref mc, .int 0, .int 1, .int 0, .int 0, .ref mo, .ref mb, .ref mk, .ref ml, .ref ms, .ref mw]))] := hD
        refine W.widen (k := 0) (n := 0) (by decide) (by decide) ?_
        exact W.vret hx hb hr (fun t ht hW => ⟨⟨fun _ => 0, rfl, trivial, trivial⟩, hS.F ht⟩) hS.2.2 dM_arm_40
      · refine lv_iconst (v := 3) hx hb dM_arm_32 (by decide) ?_
        refine lv_goto (tgt := 37) hx hb dM_arm_33 (by decide) ?_
        refine va_put (D := (dC, dI)) (ci := 4) (v := .int 3) (ty := .int) (C := "LoggedStoreModel") (T := uM) (N := 18) hx hb hw inM tyM tyM_ok nmM hown hK hP hD hS 0 rfl rfl 4 (by decide) (hw _ w616) (fun _ h9 => h9) rfl (by decide +kernel) rfl rfl (Nat.le_of_ble_eq_true rfl) dM_arm_37 (fun H locs hP hD hS => ?_)
        have hP : va_P (dC, dI) vwC [(m0, .inr (4, [.int 0, .ref md, .int 0, .int n9, .int 3, .ref mh, .ref mn, .ref mc, .int 0, .int 1, .int 0, .int 0, .ref mo, .ref mb, .ref mk, .ref ml, .ref ms, .ref mw]))] H := hP
        have hD : va_D A [(m0, .inr (4, [.int 0, .ref md, .int 0, .int n9, .int 3, .ref mh, .ref mn, .ref mc, .int 0, .int 1, .int 0, .int 0, .ref mo, .ref mb, .ref mk, .ref ml, .ref ms, .ref mw]))] := hD
        refine W.widen (k := 0) (n := 0) (by decide) (by decide) ?_
        exact W.vret hx hb hr (fun t ht hW => ⟨⟨fun _ => 0, rfl, trivial, trivial⟩, hS.F ht⟩) hS.2.2 dM_arm_40
    · refine lv_iconst (v := 0) hx hb dM_arm_23 (by decide) ?_
      refine lv_goto (tgt := 37) hx hb dM_arm_24 (by decide) ?_
      refine va_put (D := (dC, dI)) (ci := 4) (v := .int 0) (ty := .int) (C := "LoggedStoreModel") (T := uM) (N := 18) hx hb hw inM tyM tyM_ok nmM hown hK hP hD hS 0 rfl rfl 4 (by decide) (hw _ w616) (fun _ h9 => h9) rfl (by decide +kernel) rfl rfl (Nat.le_of_ble_eq_true rfl) dM_arm_37 (fun H locs hP hD hS => ?_)
      have hP : va_P (dC, dI) vwC [(m0, .inr (4, [.int 0, .ref md, .int 0, .int n9, .int 0, .ref mh, .ref mn, .ref mc, .int 0, .int 1, .int 0, .int 0, .ref mo, .ref mb, .ref mk, .ref ml, .ref ms, .ref mw]))] H := hP
      have hD : va_D A [(m0, .inr (4, [.int 0, .ref md, .int 0, .int n9, .int 0, .ref mh, .ref mn, .ref mc, .int 0, .int 1, .int 0, .int 0, .ref mo, .ref mb, .ref mk, .ref ml, .ref ms, .ref mw]))] := hD
      refine W.widen (k := 0) (n := 0) (by decide) (by decide) ?_
      exact W.vret hx hb hr (fun t ht hW => ⟨⟨fun _ => 0, rfl, trivial, trivial⟩, hS.F ht⟩) hS.2.2 dM_arm_40
  · refine lv_iconst (v := (-1)) hx hb dM_arm_10 (by decide) ?_
    refine lv_goto (tgt := 15) hx hb dM_arm_11 (by decide) ?_
    refine va_put (D := (dC, dI)) (ci := 4) (v := .int (-1)) (ty := .int) (C := "LoggedStoreModel") (T := uM) (N := 18) hx hb hw inM tyM tyM_ok nmM hown hK hP hD hS 0 rfl rfl 3 (by decide) (hw _ w615) (fun _ h9 => h9) rfl (by decide +kernel) rfl rfl (Nat.le_of_ble_eq_true rfl) dM_arm_15 (fun H locs hP hD hS => ?_)
    have hP : va_P (dC, dI) vwC [(m0, .inr (4, [.int 0, .ref md, .int 0, .int (-1), .int 0, .ref mh, .ref mn, .ref mc, .int 0, .int 1, .int 0, .int 0, .ref mo, .ref mb, .ref mk, .ref ml, .ref ms, .ref mw]))] H := hP
    have hD : va_D A [(m0, .inr (4, [.int 0, .ref md, .int 0, .int (-1), .int 0, .ref mh, .ref mn, .ref mc, .int 0, .int 1, .int 0, .int 0, .ref mo, .ref mb, .ref mk, .ref ml, .ref ms, .ref mw]))] := hD
    refine lv_aload_n hx hb dM_arm_18 rfl (lv_at hl 0 rfl) ?_
    refine lv_iload_n hx hb dM_arm_19 rfl (lv_at hl 2 rfl) ?_
    refine lv_if_ge (tgt := 27) hx hb dM_arm_20 (by decide) (fun h8 => ?_) (fun h8 => ?_)
    · refine lv_iload_n hx hb dM_arm_27 rfl (lv_at hl 2 rfl) ?_
      refine lv_iconst (v := 3) hx hb dM_arm_28 (by decide) ?_
      refine lv_icmp_le (tgt := 36) hx hb dM_arm_29 (by decide) (fun h9 => ?_) (fun h9 => ?_)
      · refine lv_iload_n hx hb dM_arm_36 rfl (lv_at hl 2 rfl) ?_
        refine va_put (D := (dC, dI)) (ci := 4) (v := .int w9) (ty := .int) (C := "LoggedStoreModel") (T := uM) (N := 18) hx hb hw inM tyM tyM_ok nmM hown hK hP hD hS 0 rfl rfl 4 (by decide) (hw _ w616) (fun _ h9 => h9) rfl (by decide +kernel) rfl rfl (Nat.le_of_ble_eq_true rfl) dM_arm_37 (fun H locs hP hD hS => ?_)
        have hP : va_P (dC, dI) vwC [(m0, .inr (4, [.int 0, .ref md, .int 0, .int (-1), .int w9, .ref mh, .ref mn, .ref mc, .int 0, .int 1, .int 0, .int 0, .ref mo, .ref mb, .ref mk, .ref ml, .ref ms, .ref mw]))] H := hP
        have hD : va_D A [(m0, .inr (4, [.int 0, .ref md, .int 0, .int (-1), .int w9, .ref mh, .ref mn, .ref mc, .int 0, .int 1, .int 0, .int 0, .ref mo, .ref mb, .ref mk, .ref ml, .ref ms, .ref mw]))] := hD
        refine W.widen (k := 0) (n := 0) (by decide) (by decide) ?_
        exact W.vret hx hb hr (fun t ht hW => ⟨⟨fun _ => 0, rfl, trivial, trivial⟩, hS.F ht⟩) hS.2.2 dM_arm_40
      · refine lv_iconst (v := 3) hx hb dM_arm_32 (by decide) ?_
        refine lv_goto (tgt := 37) hx hb dM_arm_33 (by decide) ?_
        refine va_put (D := (dC, dI)) (ci := 4) (v := .int 3) (ty := .int) (C := "LoggedStoreModel") (T := uM) (N := 18) hx hb hw inM tyM tyM_ok nmM hown hK hP hD hS 0 rfl rfl 4 (by decide) (hw _ w616) (fun _ h9 => h9) rfl (by decide +kernel) rfl rfl (Nat.le_of_ble_eq_true rfl) dM_arm_37 (fun H locs hP hD hS => ?_)
        have hP : va_P (dC, dI) vwC [(m0, .inr (4, [.int 0, .ref md, .int 0, .int (-1), .int 3, .ref mh, .ref mn, .ref mc, .int 0, .int 1, .int 0, .int 0, .ref mo, .ref mb, .ref mk, .ref ml, .ref ms, .ref mw]))] H := hP
        have hD : va_D A [(m0, .inr (4, [.int 0, .ref md, .int 0, .int (-1), .int 3, .ref mh, .ref mn, .ref mc, .int 0, .int 1, .int 0, .int 0, .ref mo, .ref mb, .ref mk, .ref ml, .ref ms, .ref mw]))] := hD
        refine W.widen (k := 0) (n := 0) (by decide) (by decide) ?_
        exact W.vret hx hb hr (fun t ht hW => ⟨⟨fun _ => 0, rfl, trivial, trivial⟩, hS.F ht⟩) hS.2.2 dM_arm_40
    · refine lv_iconst (v := 0) hx hb dM_arm_23 (by decide) ?_
      refine lv_goto (tgt := 37) hx hb dM_arm_24 (by decide) ?_
      refine va_put (D := (dC, dI)) (ci := 4) (v := .int 0) (ty := .int) (C := "LoggedStoreModel") (T := uM) (N := 18) hx hb hw inM tyM tyM_ok nmM hown hK hP hD hS 0 rfl rfl 4 (by decide) (hw _ w616) (fun _ h9 => h9) rfl (by decide +kernel) rfl rfl (Nat.le_of_ble_eq_true rfl) dM_arm_37 (fun H locs hP hD hS => ?_)
      have hP : va_P (dC, dI) vwC [(m0, .inr (4, [.int 0, .ref md, .int 0, .int (-1), .int 0, .ref mh, .ref mn, .ref mc, .int 0, .int 1, .int 0, .int 0, .ref mo, .ref mb, .ref mk, .ref ml, .ref ms, .ref mw]))] H := hP
      have hD : va_D A [(m0, .inr (4, [.int 0, .ref md, .int 0, .int (-1), .int 0, .ref mh, .ref mn, .ref mc, .int 0, .int 1, .int 0, .int 0, .ref mo, .ref mb, .ref mk, .ref ml, .ref ms, .ref mw]))] := hD
      refine W.widen (k := 0) (n := 0) (by decide) (by decide) ?_
      exact W.vret hx hb hr (fun t ht hW => ⟨⟨fun _ => 0, rfl, trivial, trivial⟩, hS.F ht⟩) hS.2.2 dM_arm_40

set_option maxHeartbeats 4000000 in
set_option maxRecDepth 100000 in
theorem c_M_number_x (l : Launch) (dC : Nat → ClassId) (dI : Nat → Nat → Nat) (cI cZ cJ cT : ClassId) (m0 md mh mn mc mo mb mk ml ms mw : Nat) (k9 : Int32) (sz : Nat) (hb9 : k9 < 0 ∨ (¬ k9 < 0 ∧ 63 < k9)) : Met l yM_number (Cond.code yM_number cM_number 2 (some .int) :: wsA) ({ frames := 1, cells := 0, slots := 0, locals := 22 }) (va_Pc [.ref m0, .int k9] (fun U => U.heap.size = sz ∧ va_P (dC, dI) vwC [(m0, .inr (4, [.int 0, .ref md, .int 0, .int (-1), .int 0, .ref mh, .ref mn, .ref mc, .int 0, .int 1, .int 0, .int 0, .ref mo, .ref mb, .ref mk, .ref ml, .ref ms, .ref mw]))] U.heap ∧ KK dC dI cI cZ cJ cT U ∧ va_D (fun _ => True) [(m0, .inr (4, [.int 0, .ref md, .int 0, .int (-1), .int 0, .ref mh, .ref mn, .ref mc, .int 0, .int 1, .int 0, .int 0, .ref mo, .ref mb, .ref mk, .ref ml, .ref ms, .ref mw]))])) (va_Qi (S := Nat → Nat) (fun r _ => r = 0) (fun u t => va_P (dC, dI) vwC [(m0, .inr (4, [.int 2, .ref md, .int 0, .int (-1), .int 0, .ref mh, .ref mn, .ref mc, .int 0, .int 1, .int 0, .int 0, .ref mo, .ref mb, .ref mk, .ref ml, .ref ms, .ref mw]))] t.heap ∧ va_D (va_A [(m0, .inr (4, [.int 0, .ref md, .int 0, .int (-1), .int 0, .ref mh, .ref mn, .ref mc, .int 0, .int 1, .int 0, .int 0, .ref mo, .ref mb, .ref mk, .ref ml, .ref ms, .ref mw]))] sz) [(m0, .inr (4, [.int 2, .ref md, .int 0, .int (-1), .int 0, .ref mh, .ref mn, .ref mc, .int 0, .int 1, .int 0, .int 0, .ref mo, .ref mb, .ref mk, .ref ml, .ref ms, .ref mw]))]) (va_A [(m0, .inr (4, [.int 0, .ref md, .int 0, .int (-1), .int 0, .ref mh, .ref mn, .ref mc, .int 0, .int 1, .int 0, .int 0, .ref mo, .ref mb, .ref mk, .ref ml, .ref ms, .ref mw]))] sz)) 0 0 (va_A [(m0, .inr (4, [.int 0, .ref md, .int 0, .int (-1), .int 0, .ref mh, .ref mn, .ref mc, .int 0, .int 1, .int 0, .int 0, .ref mo, .ref mb, .ref mk, .ref ml, .ref ms, .ref mw]))] sz) := by
  refine Met.ofW (cc := cM_number) (maxL := 2) (ret := (some .int)) (by decide) rfl ?_
  intro p e s m args below meth c s₁ B hml hv
  obtain ⟨rfl, hsz, hP, hKK, hD0⟩ := hv
  rcases hb9 with h1 | ⟨h1, h3⟩
  · have hK := hKK.1
    have hx := B.exec
    have hb := B.bytes
    have hr := B.returns
    have hw : ∀ w ∈ wsA, w.before _ s = true := fun w h => atoms_spec (ws := (Cond.code yM_number cM_number 2 (some .int) :: wsA)) B.pre w (List.mem_cons_of_mem _ h)
    have hown : s.vm.findClass "LoggedStoreModel" = some m.cls := findClass_of_methodNamed B.named
    have hlocks := B.notSynchronized
    subst hsz
    have hD := hD0.self (sz := s.heap.size)
    generalize hAe : va_A [(m0, .inr (4, [.int 0, .ref md, .int 0, .int (-1), .int 0, .ref mh, .ref mn, .ref mc, .int 0, .int 1, .int 0, .int 0, .ref mo, .ref mb, .ref mk, .ref ml, .ref ms, .ref mw]))] s.heap.size = A at hD ⊢
    have hA : ∀ q : Nat, s.heap.size ≤ q → A q := fun q h => by rw [← hAe]; exact Or.inr h
    have hS : va_S A s.heap s.heap [] := va_S.rf
    have hl := lv_entry ([.ref m0, .int k9]) (n := 2) (Nat.le_of_ble_eq_true rfl)
    rw [lg_entry_eq]
    generalize (lg_sl ([.ref m0, .int k9]) ++ List.replicate (2 - (lg_sl ([.ref m0, .int k9])).length) Slot.unset).toArray = ls at hl ⊢
    have hl : lv_has ls 2 [(0, .ref m0), (1, .int k9)] := hl
    refine lv_aload_n hx hb dM_number_0 rfl (lv_at hl 0 rfl) ?_
    refine lv_aload_n hx hb dM_number_1 rfl (lv_at hl 0 rfl) ?_
    refine va_get (D := (dC, dI)) (ci := 4) (v := .int 0) (C := "LoggedStoreModel") (T := uM) (N := 18) hx hb hw inM hown hK hP 0 rfl rfl 2 (by decide) (hw _ w614) (fun _ h9 => h9) rfl dM_number_2 ?_
    refine lv_if_eq (tgt := 12) hx hb dM_number_5 (by decide) (fun _ => ?_) (fun h9 => absurd (by decide) h9)
    refine lv_iload_n hx hb dM_number_12 rfl (lv_at hl 1 rfl) ?_
    refine lv_iconst (v := 0) hx hb dM_number_13 (by decide) ?_
    refine lv_bipush (v := 63) hx hb dM_number_14 (by decide) ?_
    have hPc := hP.sub (ws' := []) [] rfl
    refine vp_callSi (W.runS (As := [.int k9, .int 0, .int 63]) (rest := [.ref m0]) ⟨hx, hb, hml, hown, hw⟩ (c_within_f l dC dI cI cZ cJ cT k9 0 63 h1) ⟨callB_of 3 hw (gA0 w677) rfl rfl rfl (hw _ w45) (hw _ w675) (by decide +kernel) ⟨Nat.le_of_ble_eq_true rfl, Nat.le_of_ble_eq_true rfl⟩, (hw _ w676)⟩ ⟨kb_S, fun U hU hW => ⟨rfl, by rw [hU]; exact hPc, hKK.moved hW⟩⟩ rfl rfl hl.1 rfl (lv_room (Nat.le_of_ble_eq_true rfl)) dM_number_16 ⟨Nat.le_of_ble_eq_true rfl, Nat.le_of_ble_eq_true rfl⟩) (fun r1 e2 => ?_)
    obtain rfl : r1 = 0 := e2
    refine lv_if_ne (tgt := 26) hx hb dM_number_19 (by decide) (fun h9 => absurd (by decide) h9) (fun _ => ?_)
    refine lv_iconst (v := 2) hx hb dM_number_22 (by decide) ?_
    refine lv_goto (tgt := 40) hx hb dM_number_23 (by decide) ?_
    refine va_put (D := (dC, dI)) (ci := 4) (v := .int 2) (ty := .int) (C := "LoggedStoreModel") (T := uM) (N := 18) hx hb hw inM tyM tyM_ok nmM hown hK hP hD hS 0 rfl rfl 0 (by decide) (hw _ w612) (fun _ h9 => h9) rfl (by decide +kernel) rfl rfl (Nat.le_of_ble_eq_true rfl) dM_number_40 (fun H locs hP hD hS => ?_)
    have hP : va_P (dC, dI) vwC [(m0, .inr (4, [.int 2, .ref md, .int 0, .int (-1), .int 0, .ref mh, .ref mn, .ref mc, .int 0, .int 1, .int 0, .int 0, .ref mo, .ref mb, .ref mk, .ref ml, .ref ms, .ref mw]))] H := hP
    have hD : va_D A [(m0, .inr (4, [.int 2, .ref md, .int 0, .int (-1), .int 0, .ref mh, .ref mn, .ref mc, .int 0, .int 1, .int 0, .int 0, .ref mo, .ref mb, .ref mk, .ref ml, .ref ms, .ref mw]))] := hD
    refine lv_aload_n hx hb dM_number_43 rfl (lv_at hl 0 rfl) ?_
    refine va_get (D := (dC, dI)) (ci := 4) (v := .int 2) (C := "LoggedStoreModel") (T := uM) (N := 18) hx hb hw inM hown hK hP 0 rfl rfl 0 (by decide) (hw _ w612) (fun _ h9 => h9) rfl dM_number_44 ?_
    refine lv_if_le (tgt := 54) hx hb dM_number_47 (by decide) (fun h9 => absurd h9 (by decide)) (fun _ => ?_)
    refine lv_iconst (v := 0) hx hb dM_number_50 (by decide) ?_
    refine lv_goto (tgt := 60) hx hb dM_number_51 (by decide) ?_
    have hP9 := hP.sub (ws' := [(m0, .inr (4, [.int 2, .ref md, .int 0, .int (-1), .int 0, .ref mh, .ref mn, .ref mc, .int 0, .int 1, .int 0, .int 0, .ref mo, .ref mb, .ref mk, .ref ml, .ref ms, .ref mw]))]) [0] rfl
    have hD9 := hD.sub (ws' := [(m0, .inr (4, [.int 2, .ref md, .int 0, .int (-1), .int 0, .ref mh, .ref mn, .ref mc, .int 0, .int 1, .int 0, .int 0, .ref mo, .ref mb, .ref mk, .ref ml, .ref ms, .ref mw]))]) [0] (by decide) rfl
    refine W.widen (k := 0) (n := 0) (by decide) (by decide) ?_
    exact W.iret (v := 0) hx hb hr (fun t ht hW => ⟨⟨0, fun _ => 0, rfl, rfl, by rw [ht]; exact hP9, hD9⟩, hS.F ht⟩) hS.2.2 dM_number_60
  · have hK := hKK.1
    have hx := B.exec
    have hb := B.bytes
    have hr := B.returns
    have hw : ∀ w ∈ wsA, w.before _ s = true := fun w h => atoms_spec (ws := (Cond.code yM_number cM_number 2 (some .int) :: wsA)) B.pre w (List.mem_cons_of_mem _ h)
    have hown : s.vm.findClass "LoggedStoreModel" = some m.cls := findClass_of_methodNamed B.named
    have hlocks := B.notSynchronized
    subst hsz
    have hD := hD0.self (sz := s.heap.size)
    generalize hAe : va_A [(m0, .inr (4, [.int 0, .ref md, .int 0, .int (-1), .int 0, .ref mh, .ref mn, .ref mc, .int 0, .int 1, .int 0, .int 0, .ref mo, .ref mb, .ref mk, .ref ml, .ref ms, .ref mw]))] s.heap.size = A at hD ⊢
    have hA : ∀ q : Nat, s.heap.size ≤ q → A q := fun q h => by rw [← hAe]; exact Or.inr h
    have hS : va_S A s.heap s.heap [] := va_S.rf
    have hl := lv_entry ([.ref m0, .int k9]) (n := 2) (Nat.le_of_ble_eq_true rfl)
    rw [lg_entry_eq]
    generalize (lg_sl ([.ref m0, .int k9]) ++ List.replicate (2 - (lg_sl ([.ref m0, .int k9])).length) Slot.unset).toArray = ls at hl ⊢
    have hl : lv_has ls 2 [(0, .ref m0), (1, .int k9)] := hl
    refine lv_aload_n hx hb dM_number_0 rfl (lv_at hl 0 rfl) ?_
    refine lv_aload_n hx hb dM_number_1 rfl (lv_at hl 0 rfl) ?_
    refine va_get (D := (dC, dI)) (ci := 4) (v := .int 0) (C := "LoggedStoreModel") (T := uM) (N := 18) hx hb hw inM hown hK hP 0 rfl rfl 2 (by decide) (hw _ w614) (fun _ h9 => h9) rfl dM_number_2 ?_
    refine lv_if_eq (tgt := 12) hx hb dM_number_5 (by decide) (fun _ => ?_) (fun h9 => absurd (by decide) h9)
    refine lv_iload_n hx hb dM_number_12 rfl (lv_at hl 1 rfl) ?_
    refine lv_iconst (v := 0) hx hb dM_number_13 (by decide) ?_
    refine lv_bipush (v := 63) hx hb dM_number_14 (by decide) ?_
    have hPc := hP.sub (ws' := []) [] rfl
    refine vp_callSi (W.runS (As := [.int k9, .int 0, .int 63]) (rest := [.ref m0]) ⟨hx, hb, hml, hown, hw⟩ (c_within_g l dC dI cI cZ cJ cT k9 0 63 h1 h3) ⟨callB_of 3 hw (gA0 w677) rfl rfl rfl (hw _ w45) (hw _ w675) (by decide +kernel) ⟨Nat.le_of_ble_eq_true rfl, Nat.le_of_ble_eq_true rfl⟩, (hw _ w676)⟩ ⟨kb_S, fun U hU hW => ⟨rfl, by rw [hU]; exact hPc, hKK.moved hW⟩⟩ rfl rfl hl.1 rfl (lv_room (Nat.le_of_ble_eq_true rfl)) dM_number_16 ⟨Nat.le_of_ble_eq_true rfl, Nat.le_of_ble_eq_true rfl⟩) (fun r1 e2 => ?_)
    obtain rfl : r1 = 0 := e2
    refine lv_if_ne (tgt := 26) hx hb dM_number_19 (by decide) (fun h9 => absurd (by decide) h9) (fun _ => ?_)
    refine lv_iconst (v := 2) hx hb dM_number_22 (by decide) ?_
    refine lv_goto (tgt := 40) hx hb dM_number_23 (by decide) ?_
    refine va_put (D := (dC, dI)) (ci := 4) (v := .int 2) (ty := .int) (C := "LoggedStoreModel") (T := uM) (N := 18) hx hb hw inM tyM tyM_ok nmM hown hK hP hD hS 0 rfl rfl 0 (by decide) (hw _ w612) (fun _ h9 => h9) rfl (by decide +kernel) rfl rfl (Nat.le_of_ble_eq_true rfl) dM_number_40 (fun H locs hP hD hS => ?_)
    have hP : va_P (dC, dI) vwC [(m0, .inr (4, [.int 2, .ref md, .int 0, .int (-1), .int 0, .ref mh, .ref mn, .ref mc, .int 0, .int 1, .int 0, .int 0, .ref mo, .ref mb, .ref mk, .ref ml, .ref ms, .ref mw]))] H := hP
    have hD : va_D A [(m0, .inr (4, [.int 2, .ref md, .int 0, .int (-1), .int 0, .ref mh, .ref mn, .ref mc, .int 0, .int 1, .int 0, .int 0, .ref mo, .ref mb, .ref mk, .ref ml, .ref ms, .ref mw]))] := hD
    refine lv_aload_n hx hb dM_number_43 rfl (lv_at hl 0 rfl) ?_
    refine va_get (D := (dC, dI)) (ci := 4) (v := .int 2) (C := "LoggedStoreModel") (T := uM) (N := 18) hx hb hw inM hown hK hP 0 rfl rfl 0 (by decide) (hw _ w612) (fun _ h9 => h9) rfl dM_number_44 ?_
    refine lv_if_le (tgt := 54) hx hb dM_number_47 (by decide) (fun h9 => absurd h9 (by decide)) (fun _ => ?_)
    refine lv_iconst (v := 0) hx hb dM_number_50 (by decide) ?_
    refine lv_goto (tgt := 60) hx hb dM_number_51 (by decide) ?_
    have hP9 := hP.sub (ws' := [(m0, .inr (4, [.int 2, .ref md, .int 0, .int (-1), .int 0, .ref mh, .ref mn, .ref mc, .int 0, .int 1, .int 0, .int 0, .ref mo, .ref mb, .ref mk, .ref ml, .ref ms, .ref mw]))]) [0] rfl
    have hD9 := hD.sub (ws' := [(m0, .inr (4, [.int 2, .ref md, .int 0, .int (-1), .int 0, .ref mh, .ref mn, .ref mc, .int 0, .int 1, .int 0, .int 0, .ref mo, .ref mb, .ref mk, .ref ml, .ref ms, .ref mw]))]) [0] (by decide) rfl
    refine W.widen (k := 0) (n := 0) (by decide) (by decide) ?_
    exact W.iret (v := 0) hx hb hr (fun t ht hW => ⟨⟨0, fun _ => 0, rfl, rfl, by rw [ht]; exact hP9, hD9⟩, hS.F ht⟩) hS.2.2 dM_number_60

set_option maxHeartbeats 4000000 in
set_option maxRecDepth 100000 in
theorem c_M_number_y (l : Launch) (dC : Nat → ClassId) (dI : Nat → Nat → Nat) (cI cZ cJ cT : ClassId) (m0 md mh mn mc mo mb mk ml ms mw : Nat) (j : Nat) (sz : Nat) (hj : j < 64) : Met l yM_number (Cond.code yM_number cM_number 2 (some .int) :: wsA) ({ frames := 1, cells := 0, slots := 0, locals := 22 }) (va_Pc [.ref m0, .int (nI j)] (fun U => U.heap.size = sz ∧ va_P (dC, dI) vwC [(m0, .inr (4, [.int 0, .ref md, .int 0, .int (-1), .int 0, .ref mh, .ref mn, .ref mc, .int 0, .int 1, .int 0, .int 0, .ref mo, .ref mb, .ref mk, .ref ml, .ref ms, .ref mw])), (mh, .inl (cZ, 64, .inl (fun _ => 0)))] U.heap ∧ KK dC dI cI cZ cJ cT U ∧ va_D (fun _ => True) [(m0, .inr (4, [.int 0, .ref md, .int 0, .int (-1), .int 0, .ref mh, .ref mn, .ref mc, .int 0, .int 1, .int 0, .int 0, .ref mo, .ref mb, .ref mk, .ref ml, .ref ms, .ref mw])), (mh, .inl (cZ, 64, .inl (fun _ => 0)))])) (va_Qi (S := Nat → Nat) (fun r _ => r = 0) (fun u t => va_P (dC, dI) vwC [(m0, .inr (4, [.int 3, .ref md, .int 0, .int (-1), .int 0, .ref mh, .ref mn, .ref mc, .int 0, .int 1, .int 0, .int 0, .ref mo, .ref mb, .ref mk, .ref ml, .ref ms, .ref mw]))] t.heap ∧ va_D (va_A [(m0, .inr (4, [.int 0, .ref md, .int 0, .int (-1), .int 0, .ref mh, .ref mn, .ref mc, .int 0, .int 1, .int 0, .int 0, .ref mo, .ref mb, .ref mk, .ref ml, .ref ms, .ref mw])), (mh, .inl (cZ, 64, .inl (fun _ => 0)))] sz) [(m0, .inr (4, [.int 3, .ref md, .int 0, .int (-1), .int 0, .ref mh, .ref mn, .ref mc, .int 0, .int 1, .int 0, .int 0, .ref mo, .ref mb, .ref mk, .ref ml, .ref ms, .ref mw]))]) (va_A [(m0, .inr (4, [.int 0, .ref md, .int 0, .int (-1), .int 0, .ref mh, .ref mn, .ref mc, .int 0, .int 1, .int 0, .int 0, .ref mo, .ref mb, .ref mk, .ref ml, .ref ms, .ref mw])), (mh, .inl (cZ, 64, .inl (fun _ => 0)))] sz)) 0 0 (va_A [(m0, .inr (4, [.int 0, .ref md, .int 0, .int (-1), .int 0, .ref mh, .ref mn, .ref mc, .int 0, .int 1, .int 0, .int 0, .ref mo, .ref mb, .ref mk, .ref ml, .ref ms, .ref mw])), (mh, .inl (cZ, 64, .inl (fun _ => 0)))] sz) := by
  refine Met.ofW (cc := cM_number) (maxL := 2) (ret := (some .int)) (by decide) rfl ?_
  intro p e s m args below meth c s₁ B hml hv
  obtain ⟨rfl, hsz, hP, hKK, hD0⟩ := hv
  have hK := hKK.1
  have hx := B.exec
  have hb := B.bytes
  have hr := B.returns
  have hw : ∀ w ∈ wsA, w.before _ s = true := fun w h => atoms_spec (ws := (Cond.code yM_number cM_number 2 (some .int) :: wsA)) B.pre w (List.mem_cons_of_mem _ h)
  have hown : s.vm.findClass "LoggedStoreModel" = some m.cls := findClass_of_methodNamed B.named
  have hlocks := B.notSynchronized
  subst hsz
  have hD := hD0.self (sz := s.heap.size)
  generalize hAe : va_A [(m0, .inr (4, [.int 0, .ref md, .int 0, .int (-1), .int 0, .ref mh, .ref mn, .ref mc, .int 0, .int 1, .int 0, .int 0, .ref mo, .ref mb, .ref mk, .ref ml, .ref ms, .ref mw])), (mh, .inl (cZ, 64, .inl (fun _ => 0)))] s.heap.size = A at hD ⊢
  have hA : ∀ q : Nat, s.heap.size ≤ q → A q := fun q h => by rw [← hAe]; exact Or.inr h
  have hS : va_S A s.heap s.heap [] := va_S.rf
  have hl := lv_entry ([.ref m0, .int (nI j)]) (n := 2) (Nat.le_of_ble_eq_true rfl)
  rw [lg_entry_eq]
  generalize (lg_sl ([.ref m0, .int (nI j)]) ++ List.replicate (2 - (lg_sl ([.ref m0, .int (nI j)])).length) Slot.unset).toArray = ls at hl ⊢
  have hl : lv_has ls 2 [(0, .ref m0), (1, .int (nI j))] := hl
  refine lv_aload_n hx hb dM_number_0 rfl (lv_at hl 0 rfl) ?_
  refine lv_aload_n hx hb dM_number_1 rfl (lv_at hl 0 rfl) ?_
  refine va_get (D := (dC, dI)) (ci := 4) (v := .int 0) (C := "LoggedStoreModel") (T := uM) (N := 18) hx hb hw inM hown hK hP 0 rfl rfl 2 (by decide) (hw _ w614) (fun _ h9 => h9) rfl dM_number_2 ?_
  refine lv_if_eq (tgt := 12) hx hb dM_number_5 (by decide) (fun _ => ?_) (fun h9 => absurd (by decide) h9)
  refine lv_iload_n hx hb dM_number_12 rfl (lv_at hl 1 rfl) ?_
  refine lv_iconst (v := 0) hx hb dM_number_13 (by decide) ?_
  refine lv_bipush (v := 63) hx hb dM_number_14 (by decide) ?_
  have hPc := hP.sub (ws' := []) [] rfl
  refine vp_callSi (W.runS (As := [.int (nI j), .int 0, .int 63]) (rest := [.ref m0]) ⟨hx, hb, hml, hown, hw⟩ (c_within_t l dC dI cI cZ cJ cT (nI j) 0 63 (nI_pos (by omega)) (nI_nlt (a := 63) (b := j) (by omega) (by decide))) ⟨callB_of 3 hw (gA0 w677) rfl rfl rfl (hw _ w45) (hw _ w675) (by decide +kernel) ⟨Nat.le_of_ble_eq_true rfl, Nat.le_of_ble_eq_true rfl⟩, (hw _ w676)⟩ ⟨kb_S, fun U hU hW => ⟨rfl, by rw [hU]; exact hPc, hKK.moved hW⟩⟩ rfl rfl hl.1 rfl (lv_room (Nat.le_of_ble_eq_true rfl)) dM_number_16 ⟨Nat.le_of_ble_eq_true rfl, Nat.le_of_ble_eq_true rfl⟩) (fun r1 e2 => ?_)
  obtain rfl : r1 = 1 := e2
  refine lv_if_ne (tgt := 26) hx hb dM_number_19 (by decide) (fun _ => ?_) (fun h9 => absurd h9 (by decide))
  refine lv_aload_n hx hb dM_number_26 rfl (lv_at hl 0 rfl) ?_
  refine va_get (D := (dC, dI)) (ci := 4) (v := .ref mh) (C := "LoggedStoreModel") (T := uM) (N := 18) hx hb hw inM hown hK hP 0 rfl rfl 5 (by decide) (hw _ w617) (fun _ h9 => h9) rfl dM_number_27 ?_
  refine lv_iload_n hx hb dM_number_30 rfl (lv_at hl 1 rfl) ?_
  refine va_zald hx hb hK hP 1 1 rfl rfl (vp_in_nI hj (by decide)) dM_number_31 ?_
  refine lv_topi (nm_r (e' := 0) (rfl) ?_)
  refine lv_if_eq (tgt := 39) hx hb dM_number_32 (by decide) (fun _ => ?_) (fun h9 => absurd (by decide) h9)
  refine lv_iconst (v := 3) hx hb dM_number_39 (by decide) ?_
  refine va_put (D := (dC, dI)) (ci := 4) (v := .int 3) (ty := .int) (C := "LoggedStoreModel") (T := uM) (N := 18) hx hb hw inM tyM tyM_ok nmM hown hK hP hD hS 0 rfl rfl 0 (by decide) (hw _ w612) (fun _ h9 => h9) rfl (by decide +kernel) rfl rfl (Nat.le_of_ble_eq_true rfl) dM_number_40 (fun H locs hP hD hS => ?_)
  have hP : va_P (dC, dI) vwC [(m0, .inr (4, [.int 3, .ref md, .int 0, .int (-1), .int 0, .ref mh, .ref mn, .ref mc, .int 0, .int 1, .int 0, .int 0, .ref mo, .ref mb, .ref mk, .ref ml, .ref ms, .ref mw])), (mh, .inl (cZ, 64, .inl (fun _ => 0)))] H := hP
  have hD : va_D A [(m0, .inr (4, [.int 3, .ref md, .int 0, .int (-1), .int 0, .ref mh, .ref mn, .ref mc, .int 0, .int 1, .int 0, .int 0, .ref mo, .ref mb, .ref mk, .ref ml, .ref ms, .ref mw])), (mh, .inl (cZ, 64, .inl (fun _ => 0)))] := hD
  refine lv_aload_n hx hb dM_number_43 rfl (lv_at hl 0 rfl) ?_
  refine va_get (D := (dC, dI)) (ci := 4) (v := .int 3) (C := "LoggedStoreModel") (T := uM) (N := 18) hx hb hw inM hown hK hP 0 rfl rfl 0 (by decide) (hw _ w612) (fun _ h9 => h9) rfl dM_number_44 ?_
  refine lv_if_le (tgt := 54) hx hb dM_number_47 (by decide) (fun h9 => absurd h9 (by decide)) (fun _ => ?_)
  refine lv_iconst (v := 0) hx hb dM_number_50 (by decide) ?_
  refine lv_goto (tgt := 60) hx hb dM_number_51 (by decide) ?_
  have hP9 := hP.sub (ws' := [(m0, .inr (4, [.int 3, .ref md, .int 0, .int (-1), .int 0, .ref mh, .ref mn, .ref mc, .int 0, .int 1, .int 0, .int 0, .ref mo, .ref mb, .ref mk, .ref ml, .ref ms, .ref mw]))]) [0] rfl
  have hD9 := hD.sub (ws' := [(m0, .inr (4, [.int 3, .ref md, .int 0, .int (-1), .int 0, .ref mh, .ref mn, .ref mc, .int 0, .int 1, .int 0, .int 0, .ref mo, .ref mb, .ref mk, .ref ml, .ref ms, .ref mw]))]) [0] (by decide) rfl
  refine W.widen (k := 0) (n := 0) (by decide) (by decide) ?_
  exact W.iret (v := 0) hx hb hr (fun t ht hW => ⟨⟨0, fun _ => 0, rfl, rfl, by rw [ht]; exact hP9, hD9⟩, hS.F ht⟩) hS.2.2 dM_number_60

set_option maxRecDepth 100000 in
theorem w21 : (Cond.selects "LoggedStoreModel" yM_lackOfKey yM_lackOfKey) ∈ wsA := List.mem_filter.mpr ⟨List.mem_of_getElem? (i := 21) rfl, rfl⟩
set_option maxRecDepth 100000 in
theorem w22 : (Cond.selects "LoggedStoreModel" yM_lackOf yM_lackOf) ∈ wsA := List.mem_filter.mpr ⟨List.mem_of_getElem? (i := 22) rfl, rfl⟩
set_option maxRecDepth 100000 in
theorem w45 : (Cond.initialized "LoggedStoreModel") ∈ wsA := List.mem_filter.mpr ⟨List.mem_of_getElem? (i := 45) rfl, rfl⟩
set_option maxRecDepth 100000 in
theorem w604 : (Cond.code yM_init cM_init 1 none) ∈ wsA := List.mem_filter.mpr ⟨List.mem_of_getElem? (i := 604) rfl, rfl⟩
set_option maxRecDepth 100000 in
theorem w605 : (Cond.methodLink "LoggedStoreModel" 1 objectInit) ∈ wsA := List.mem_filter.mpr ⟨List.mem_of_getElem? (i := 605) rfl, rfl⟩
set_option maxRecDepth 100000 in
theorem w606 : (Cond.methodLink "LoggedStoreModel" 48 yM_checkOf) ∈ wsA := List.mem_filter.mpr ⟨List.mem_of_getElem? (i := 606) rfl, rfl⟩
set_option maxRecDepth 100000 in
theorem w607 : (Cond.static yM_checkOf) ∈ wsA := List.mem_filter.mpr ⟨List.mem_of_getElem? (i := 607) rfl, rfl⟩
set_option maxRecDepth 100000 in
theorem w608 : (Cond.code yM_checkOf cM_checkOf 4 (some .int)) ∈ wsA := List.mem_filter.mpr ⟨List.mem_of_getElem? (i := 608) rfl, rfl⟩
set_option maxRecDepth 100000 in
theorem w609 : (Cond.constant "LoggedStoreModel" 55 65536) ∈ wsA := List.mem_filter.mpr ⟨List.mem_of_getElem? (i := 609) rfl, rfl⟩
set_option maxRecDepth 100000 in
theorem w610 : (Cond.constant "LoggedStoreModel" 56 1664525) ∈ wsA := List.mem_filter.mpr ⟨List.mem_of_getElem? (i := 610) rfl, rfl⟩
set_option maxRecDepth 100000 in
theorem w611 : (Cond.constant "LoggedStoreModel" 57 1013904223) ∈ wsA := List.mem_filter.mpr ⟨List.mem_of_getElem? (i := 611) rfl, rfl⟩
set_option maxRecDepth 100000 in
theorem w613 : (Cond.fieldLink "LoggedStoreModel" 7 "LoggedStoreModel" "disk" "[I") ∈ wsA := List.mem_filter.mpr ⟨List.mem_of_getElem? (i := 613) rfl, rfl⟩
set_option maxRecDepth 100000 in
theorem w614 : (Cond.fieldLink "LoggedStoreModel" 61 "LoggedStoreModel" "down" "Z") ∈ wsA := List.mem_filter.mpr ⟨List.mem_of_getElem? (i := 614) rfl, rfl⟩
set_option maxRecDepth 100000 in
theorem w615 : (Cond.fieldLink "LoggedStoreModel" 13 "LoggedStoreModel" "power" "I") ∈ wsA := List.mem_filter.mpr ⟨List.mem_of_getElem? (i := 615) rfl, rfl⟩
set_option maxRecDepth 100000 in
theorem w617 : (Cond.fieldLink "LoggedStoreModel" 17 "LoggedStoreModel" "has" "[Z") ∈ wsA := List.mem_filter.mpr ⟨List.mem_of_getElem? (i := 617) rfl, rfl⟩
set_option maxRecDepth 100000 in
theorem w618 : (Cond.fieldLink "LoggedStoreModel" 21 "LoggedStoreModel" "numbers" "[I") ∈ wsA := List.mem_filter.mpr ⟨List.mem_of_getElem? (i := 618) rfl, rfl⟩
set_option maxRecDepth 100000 in
theorem w619 : (Cond.fieldLink "LoggedStoreModel" 24 "LoggedStoreModel" "changed" "[I") ∈ wsA := List.mem_filter.mpr ⟨List.mem_of_getElem? (i := 619) rfl, rfl⟩
set_option maxRecDepth 100000 in
theorem w621 : (Cond.fieldLink "LoggedStoreModel" 27 "LoggedStoreModel" "epoch" "I") ∈ wsA := List.mem_filter.mpr ⟨List.mem_of_getElem? (i := 621) rfl, rfl⟩
set_option maxRecDepth 100000 in
theorem w624 : (Cond.fieldLink "LoggedStoreModel" 30 "LoggedStoreModel" "open" "[Z") ∈ wsA := List.mem_filter.mpr ⟨List.mem_of_getElem? (i := 624) rfl, rfl⟩
set_option maxRecDepth 100000 in
theorem w625 : (Cond.fieldLink "LoggedStoreModel" 33 "LoggedStoreModel" "began" "[I") ∈ wsA := List.mem_filter.mpr ⟨List.mem_of_getElem? (i := 625) rfl, rfl⟩
set_option maxRecDepth 100000 in
theorem w626 : (Cond.fieldLink "LoggedStoreModel" 36 "LoggedStoreModel" "had" "[Z") ∈ wsA := List.mem_filter.mpr ⟨List.mem_of_getElem? (i := 626) rfl, rfl⟩
set_option maxRecDepth 100000 in
theorem w627 : (Cond.fieldLink "LoggedStoreModel" 39 "LoggedStoreModel" "old" "[I") ∈ wsA := List.mem_filter.mpr ⟨List.mem_of_getElem? (i := 627) rfl, rfl⟩
set_option maxRecDepth 100000 in
theorem w628 : (Cond.fieldLink "LoggedStoreModel" 42 "LoggedStoreModel" "says" "[I") ∈ wsA := List.mem_filter.mpr ⟨List.mem_of_getElem? (i := 628) rfl, rfl⟩
set_option maxRecDepth 100000 in
theorem w629 : (Cond.fieldLink "LoggedStoreModel" 45 "LoggedStoreModel" "what" "[I") ∈ wsA := List.mem_filter.mpr ⟨List.mem_of_getElem? (i := 629) rfl, rfl⟩
set_option maxRecDepth 100000 in
theorem w675 : (Cond.methodLink "LoggedStoreModel" 73 yM_within) ∈ wsA := List.mem_filter.mpr ⟨List.mem_of_getElem? (i := 675) rfl, rfl⟩
set_option maxRecDepth 100000 in
theorem w676 : (Cond.static yM_within) ∈ wsA := List.mem_filter.mpr ⟨List.mem_of_getElem? (i := 676) rfl, rfl⟩
set_option maxRecDepth 100000 in
theorem w677 : (Cond.code yM_within cM_within 3 (some .boolean)) ∈ wsA := List.mem_filter.mpr ⟨List.mem_of_getElem? (i := 677) rfl, rfl⟩
set_option maxRecDepth 100000 in
theorem w681 : (Cond.code yM_get cM_get 3 (some .int)) ∈ wsA := List.mem_filter.mpr ⟨List.mem_of_getElem? (i := 681) rfl, rfl⟩
set_option maxRecDepth 100000 in
theorem w682 : (Cond.methodLink "LoggedStoreModel" 84 yM_lackOfKey) ∈ wsA := List.mem_filter.mpr ⟨List.mem_of_getElem? (i := 682) rfl, rfl⟩
set_option maxRecDepth 100000 in
theorem w684 : (Cond.instanceMethod yM_lackOfKey) ∈ wsA := List.mem_filter.mpr ⟨List.mem_of_getElem? (i := 684) rfl, rfl⟩
set_option maxRecDepth 100000 in
theorem w685 : (Cond.code yM_lackOfKey cM_lackOfKey 4 (some .int)) ∈ wsA := List.mem_filter.mpr ⟨List.mem_of_getElem? (i := 685) rfl, rfl⟩
set_option maxRecDepth 100000 in
theorem w686 : (Cond.methodLink "LoggedStoreModel" 77 yM_lackOf) ∈ wsA := List.mem_filter.mpr ⟨List.mem_of_getElem? (i := 686) rfl, rfl⟩
set_option maxRecDepth 100000 in
theorem w688 : (Cond.instanceMethod yM_lackOf) ∈ wsA := List.mem_filter.mpr ⟨List.mem_of_getElem? (i := 688) rfl, rfl⟩
set_option maxRecDepth 100000 in
theorem w689 : (Cond.code yM_lackOf cM_lackOf 2 (some .int)) ∈ wsA := List.mem_filter.mpr ⟨List.mem_of_getElem? (i := 689) rfl, rfl⟩
set_option maxRecDepth 100000 in
theorem w697 : (Cond.code yM_put cM_put 5 (some .boolean)) ∈ wsA := List.mem_filter.mpr ⟨List.mem_of_getElem? (i := 697) rfl, rfl⟩
set_option maxRecDepth 100000 in
theorem w701 : (Cond.code yM_remove cM_remove 3 none) ∈ wsA := List.mem_filter.mpr ⟨List.mem_of_getElem? (i := 701) rfl, rfl⟩
set_option maxRecDepth 100000 in
theorem w705 : (Cond.code yM_next cM_next 4 (some .int)) ∈ wsA := List.mem_filter.mpr ⟨List.mem_of_getElem? (i := 705) rfl, rfl⟩
set_option maxRecDepth 100000 in
theorem w709 : (Cond.code yM_drop cM_drop 2 (some .int)) ∈ wsA := List.mem_filter.mpr ⟨List.mem_of_getElem? (i := 709) rfl, rfl⟩
set_option maxRecDepth 100000 in
theorem w717 : (Cond.code yM_commit cM_commit 3 (some .int)) ∈ wsA := List.mem_filter.mpr ⟨List.mem_of_getElem? (i := 717) rfl, rfl⟩
theorem dM_checkOf_0 : decode cM_checkOf 0 = .ok (.ldc 55, 2) := by decide +kernel
theorem dM_checkOf_2 : decode cM_checkOf 2 = .ok (.iload_n 0, 1) := by decide +kernel
theorem dM_checkOf_3 : decode cM_checkOf 3 = .ok (.imul, 1) := by decide +kernel
theorem dM_checkOf_4 : decode cM_checkOf 4 = .ok (.iload_n 1, 1) := by decide +kernel
theorem dM_checkOf_5 : decode cM_checkOf 5 = .ok (.iadd, 1) := by decide +kernel
theorem dM_checkOf_6 : decode cM_checkOf 6 = .ok (.iload_n 2, 1) := by decide +kernel
theorem dM_checkOf_7 : decode cM_checkOf 7 = .ok (.ldc 56, 2) := by decide +kernel
theorem dM_checkOf_9 : decode cM_checkOf 9 = .ok (.imul, 1) := by decide +kernel
theorem dM_checkOf_10 : decode cM_checkOf 10 = .ok (.ixor, 1) := by decide +kernel
theorem dM_checkOf_11 : decode cM_checkOf 11 = .ok (.ldc 57, 2) := by decide +kernel
theorem dM_checkOf_13 : decode cM_checkOf 13 = .ok (.bipush 97, 2) := by decide +kernel
theorem dM_checkOf_15 : decode cM_checkOf 15 = .ok (.iload_n 3, 1) := by decide +kernel
theorem dM_checkOf_16 : decode cM_checkOf 16 = .ok (.imul, 1) := by decide +kernel
theorem dM_checkOf_17 : decode cM_checkOf 17 = .ok (.iadd, 1) := by decide +kernel
theorem dM_checkOf_18 : decode cM_checkOf 18 = .ok (.ixor, 1) := by decide +kernel
theorem dM_checkOf_19 : decode cM_checkOf 19 = .ok (.ireturn, 1) := by decide +kernel
theorem dM_init_0 : decode cM_init 0 = .ok (.aload_n 0, 1) := by decide +kernel
theorem dM_init_1 : decode cM_init 1 = .ok (.invokespecial 1, 3) := by decide +kernel
theorem dM_init_4 : decode cM_init 4 = .ok (.aload_n 0, 1) := by decide +kernel
theorem dM_init_5 : decode cM_init 5 = .ok (.sipush 384, 3) := by decide +kernel
theorem dM_init_8 : decode cM_init 8 = .ok (.newarray .int, 2) := by decide +kernel
theorem dM_init_10 : decode cM_init 10 = .ok (.putfield 7, 3) := by decide +kernel
theorem dM_init_13 : decode cM_init 13 = .ok (.aload_n 0, 1) := by decide +kernel
theorem dM_init_14 : decode cM_init 14 = .ok (.iconst (-1), 1) := by decide +kernel
theorem dM_init_15 : decode cM_init 15 = .ok (.putfield 13, 3) := by decide +kernel
theorem dM_init_18 : decode cM_init 18 = .ok (.aload_n 0, 1) := by decide +kernel
theorem dM_init_19 : decode cM_init 19 = .ok (.bipush 64, 2) := by decide +kernel
theorem dM_init_21 : decode cM_init 21 = .ok (.newarray .boolean, 2) := by decide +kernel
theorem dM_init_23 : decode cM_init 23 = .ok (.putfield 17, 3) := by decide +kernel
theorem dM_init_26 : decode cM_init 26 = .ok (.aload_n 0, 1) := by decide +kernel
theorem dM_init_27 : decode cM_init 27 = .ok (.bipush 64, 2) := by decide +kernel
theorem dM_init_29 : decode cM_init 29 = .ok (.newarray .int, 2) := by decide +kernel
theorem dM_init_31 : decode cM_init 31 = .ok (.putfield 21, 3) := by decide +kernel
theorem dM_init_34 : decode cM_init 34 = .ok (.aload_n 0, 1) := by decide +kernel
theorem dM_init_35 : decode cM_init 35 = .ok (.bipush 64, 2) := by decide +kernel
theorem dM_init_37 : decode cM_init 37 = .ok (.newarray .int, 2) := by decide +kernel
theorem dM_init_39 : decode cM_init 39 = .ok (.putfield 24, 3) := by decide +kernel
theorem dM_init_42 : decode cM_init 42 = .ok (.aload_n 0, 1) := by decide +kernel
theorem dM_init_43 : decode cM_init 43 = .ok (.iconst 1, 1) := by decide +kernel
theorem dM_init_44 : decode cM_init 44 = .ok (.putfield 27, 3) := by decide +kernel
theorem dM_init_47 : decode cM_init 47 = .ok (.aload_n 0, 1) := by decide +kernel
theorem dM_init_48 : decode cM_init 48 = .ok (.iconst 3, 1) := by decide +kernel
theorem dM_init_49 : decode cM_init 49 = .ok (.newarray .boolean, 2) := by decide +kernel
theorem dM_init_51 : decode cM_init 51 = .ok (.putfield 30, 3) := by decide +kernel
theorem dM_init_54 : decode cM_init 54 = .ok (.aload_n 0, 1) := by decide +kernel
theorem dM_init_55 : decode cM_init 55 = .ok (.iconst 3, 1) := by decide +kernel
theorem dM_init_56 : decode cM_init 56 = .ok (.newarray .int, 2) := by decide +kernel
theorem dM_init_58 : decode cM_init 58 = .ok (.putfield 33, 3) := by decide +kernel
theorem dM_init_61 : decode cM_init 61 = .ok (.aload_n 0, 1) := by decide +kernel
theorem dM_init_62 : decode cM_init 62 = .ok (.sipush 192, 3) := by decide +kernel
theorem dM_init_65 : decode cM_init 65 = .ok (.newarray .boolean, 2) := by decide +kernel
theorem dM_init_67 : decode cM_init 67 = .ok (.putfield 36, 3) := by decide +kernel
theorem dM_init_70 : decode cM_init 70 = .ok (.aload_n 0, 1) := by decide +kernel
theorem dM_init_71 : decode cM_init 71 = .ok (.sipush 192, 3) := by decide +kernel
theorem dM_init_74 : decode cM_init 74 = .ok (.newarray .int, 2) := by decide +kernel
theorem dM_init_76 : decode cM_init 76 = .ok (.putfield 39, 3) := by decide +kernel
theorem dM_init_79 : decode cM_init 79 = .ok (.aload_n 0, 1) := by decide +kernel
theorem dM_init_80 : decode cM_init 80 = .ok (.sipush 192, 3) := by decide +kernel
theorem dM_init_83 : decode cM_init 83 = .ok (.newarray .int, 2) := by decide +kernel
theorem dM_init_85 : decode cM_init 85 = .ok (.putfield 42, 3) := by decide +kernel
theorem dM_init_88 : decode cM_init 88 = .ok (.aload_n 0, 1) := by decide +kernel
theorem dM_init_89 : decode cM_init 89 = .ok (.sipush 192, 3) := by decide +kernel
theorem dM_init_92 : decode cM_init 92 = .ok (.newarray .int, 2) := by decide +kernel
theorem dM_init_94 : decode cM_init 94 = .ok (.putfield 45, 3) := by decide +kernel
theorem dM_init_97 : decode cM_init 97 = .ok (.aload_n 0, 1) := by decide +kernel
theorem dM_init_98 : decode cM_init 98 = .ok (.getfield 7, 3) := by decide +kernel
theorem dM_init_101 : decode cM_init 101 = .ok (.iconst 0, 1) := by decide +kernel
theorem dM_init_102 : decode cM_init 102 = .ok (.iconst 1, 1) := by decide +kernel
theorem dM_init_103 : decode cM_init 103 = .ok (.iastore, 1) := by decide +kernel
theorem dM_init_104 : decode cM_init 104 = .ok (.aload_n 0, 1) := by decide +kernel
theorem dM_init_105 : decode cM_init 105 = .ok (.getfield 7, 3) := by decide +kernel
theorem dM_init_108 : decode cM_init 108 = .ok (.iconst 3, 1) := by decide +kernel
theorem dM_init_109 : decode cM_init 109 = .ok (.iconst 1, 1) := by decide +kernel
theorem dM_init_110 : decode cM_init 110 = .ok (.iconst 0, 1) := by decide +kernel
theorem dM_init_111 : decode cM_init 111 = .ok (.iconst 0, 1) := by decide +kernel
theorem dM_init_112 : decode cM_init 112 = .ok (.iconst 0, 1) := by decide +kernel
theorem dM_init_113 : decode cM_init 113 = .ok (.invokestatic 48, 3) := by decide +kernel
theorem dM_init_116 : decode cM_init 116 = .ok (.iastore, 1) := by decide +kernel
theorem dM_init_117 : decode cM_init 117 = .ok (.return_, 1) := by decide +kernel
theorem dM_within_0 : decode cM_within 0 = .ok (.iload_n 0, 1) := by decide +kernel
theorem dM_within_1 : decode cM_within 1 = .ok (.iload_n 1, 1) := by decide +kernel
theorem dM_within_2 : decode cM_within 2 = .ok (.if_icmp .lt 12, 3) := by decide +kernel
theorem dM_within_5 : decode cM_within 5 = .ok (.iload_n 0, 1) := by decide +kernel
theorem dM_within_6 : decode cM_within 6 = .ok (.iload_n 2, 1) := by decide +kernel
theorem dM_within_7 : decode cM_within 7 = .ok (.if_icmp .gt 7, 3) := by decide +kernel
theorem dM_within_10 : decode cM_within 10 = .ok (.iconst 1, 1) := by decide +kernel
theorem dM_within_11 : decode cM_within 11 = .ok (.goto 4, 3) := by decide +kernel
theorem dM_within_14 : decode cM_within 14 = .ok (.iconst 0, 1) := by decide +kernel
theorem dM_within_15 : decode cM_within 15 = .ok (.ireturn, 1) := by decide +kernel
theorem dM_lackOf_0 : decode cM_lackOf 0 = .ok (.aload_n 0, 1) := by decide +kernel
theorem dM_lackOf_1 : decode cM_lackOf 1 = .ok (.getfield 61, 3) := by decide +kernel
theorem dM_lackOf_4 : decode cM_lackOf 4 = .ok (.ifCond .eq 7, 3) := by decide +kernel
theorem dM_lackOf_11 : decode cM_lackOf 11 = .ok (.iload_n 1, 1) := by decide +kernel
theorem dM_lackOf_12 : decode cM_lackOf 12 = .ok (.iconst 0, 1) := by decide +kernel
theorem dM_lackOf_13 : decode cM_lackOf 13 = .ok (.iconst 2, 1) := by decide +kernel
theorem dM_lackOf_14 : decode cM_lackOf 14 = .ok (.invokestatic 73, 3) := by decide +kernel
theorem dM_lackOf_17 : decode cM_lackOf 17 = .ok (.ifCond .eq 12, 3) := by decide +kernel
theorem dM_lackOf_20 : decode cM_lackOf 20 = .ok (.aload_n 0, 1) := by decide +kernel
theorem dM_lackOf_21 : decode cM_lackOf 21 = .ok (.getfield 30, 3) := by decide +kernel
theorem dM_lackOf_24 : decode cM_lackOf 24 = .ok (.iload_n 1, 1) := by decide +kernel
theorem dM_lackOf_25 : decode cM_lackOf 25 = .ok (.baload, 1) := by decide +kernel
theorem dM_lackOf_26 : decode cM_lackOf 26 = .ok (.ifCond .ne 7, 3) := by decide +kernel
theorem dM_lackOf_29 : decode cM_lackOf 29 = .ok (.iconst 2, 1) := by decide +kernel
theorem dM_lackOf_30 : decode cM_lackOf 30 = .ok (.goto 4, 3) := by decide +kernel
theorem dM_lackOf_34 : decode cM_lackOf 34 = .ok (.ireturn, 1) := by decide +kernel
theorem dM_lackOfKey_0 : decode cM_lackOfKey 0 = .ok (.aload_n 0, 1) := by decide +kernel
theorem dM_lackOfKey_1 : decode cM_lackOfKey 1 = .ok (.iload_n 1, 1) := by decide +kernel
theorem dM_lackOfKey_2 : decode cM_lackOfKey 2 = .ok (.invokevirtual 77, 3) := by decide +kernel
theorem dM_lackOfKey_5 : decode cM_lackOfKey 5 = .ok (.istore_n 3, 1) := by decide +kernel
theorem dM_lackOfKey_6 : decode cM_lackOfKey 6 = .ok (.iload_n 3, 1) := by decide +kernel
theorem dM_lackOfKey_7 : decode cM_lackOfKey 7 = .ok (.ifCond .le 7, 3) := by decide +kernel
theorem dM_lackOfKey_10 : decode cM_lackOfKey 10 = .ok (.iload_n 3, 1) := by decide +kernel
theorem dM_lackOfKey_11 : decode cM_lackOfKey 11 = .ok (.goto 18, 3) := by decide +kernel
theorem dM_lackOfKey_29 : decode cM_lackOfKey 29 = .ok (.ireturn, 1) := by decide +kernel
theorem dM_get_0 : decode cM_get 0 = .ok (.aload_n 0, 1) := by decide +kernel
theorem dM_get_1 : decode cM_get 1 = .ok (.aload_n 0, 1) := by decide +kernel
theorem dM_get_2 : decode cM_get 2 = .ok (.iload_n 1, 1) := by decide +kernel
theorem dM_get_3 : decode cM_get 3 = .ok (.iload_n 2, 1) := by decide +kernel
theorem dM_get_4 : decode cM_get 4 = .ok (.invokevirtual 84, 3) := by decide +kernel
theorem dM_get_7 : decode cM_get 7 = .ok (.putfield 52, 3) := by decide +kernel
theorem dM_get_10 : decode cM_get 10 = .ok (.aload_n 0, 1) := by decide +kernel
theorem dM_get_11 : decode cM_get 11 = .ok (.getfield 52, 3) := by decide +kernel
theorem dM_get_14 : decode cM_get 14 = .ok (.ifCond .ne 17, 3) := by decide +kernel
theorem dM_get_31 : decode cM_get 31 = .ok (.aload_n 0, 1) := by decide +kernel
theorem dM_get_32 : decode cM_get 32 = .ok (.getfield 52, 3) := by decide +kernel
theorem dM_get_35 : decode cM_get 35 = .ok (.ifCond .le 7, 3) := by decide +kernel
theorem dM_get_38 : decode cM_get 38 = .ok (.iconst 0, 1) := by decide +kernel
theorem dM_get_39 : decode cM_get 39 = .ok (.goto 43, 3) := by decide +kernel
theorem dM_get_82 : decode cM_get 82 = .ok (.ireturn, 1) := by decide +kernel
theorem dM_put_0 : decode cM_put 0 = .ok (.aload_n 0, 1) := by decide +kernel
theorem dM_put_1 : decode cM_put 1 = .ok (.aload_n 0, 1) := by decide +kernel
theorem dM_put_2 : decode cM_put 2 = .ok (.iload_n 1, 1) := by decide +kernel
theorem dM_put_3 : decode cM_put 3 = .ok (.iload_n 2, 1) := by decide +kernel
theorem dM_put_4 : decode cM_put 4 = .ok (.invokevirtual 84, 3) := by decide +kernel
theorem dM_put_7 : decode cM_put 7 = .ok (.putfield 52, 3) := by decide +kernel
theorem dM_put_10 : decode cM_put 10 = .ok (.aload_n 0, 1) := by decide +kernel
theorem dM_put_11 : decode cM_put 11 = .ok (.getfield 52, 3) := by decide +kernel
theorem dM_put_14 : decode cM_put 14 = .ok (.ifCond .le 5, 3) := by decide +kernel
theorem dM_put_17 : decode cM_put 17 = .ok (.iconst 0, 1) := by decide +kernel
theorem dM_put_18 : decode cM_put 18 = .ok (.ireturn, 1) := by decide +kernel
theorem dM_remove_0 : decode cM_remove 0 = .ok (.aload_n 0, 1) := by decide +kernel
theorem dM_remove_1 : decode cM_remove 1 = .ok (.aload_n 0, 1) := by decide +kernel
theorem dM_remove_2 : decode cM_remove 2 = .ok (.iload_n 1, 1) := by decide +kernel
theorem dM_remove_3 : decode cM_remove 3 = .ok (.iload_n 2, 1) := by decide +kernel
theorem dM_remove_4 : decode cM_remove 4 = .ok (.invokevirtual 84, 3) := by decide +kernel
theorem dM_remove_7 : decode cM_remove 7 = .ok (.putfield 52, 3) := by decide +kernel
theorem dM_remove_10 : decode cM_remove 10 = .ok (.aload_n 0, 1) := by decide +kernel
theorem dM_remove_11 : decode cM_remove 11 = .ok (.getfield 52, 3) := by decide +kernel
theorem dM_remove_14 : decode cM_remove 14 = .ok (.ifCond .ne 17, 3) := by decide +kernel
theorem dM_remove_31 : decode cM_remove 31 = .ok (.aload_n 0, 1) := by decide +kernel
theorem dM_remove_32 : decode cM_remove 32 = .ok (.getfield 52, 3) := by decide +kernel
theorem dM_remove_35 : decode cM_remove 35 = .ok (.ifCond .ne 15, 3) := by decide +kernel
theorem dM_remove_50 : decode cM_remove 50 = .ok (.return_, 1) := by decide +kernel
theorem dM_next_0 : decode cM_next 0 = .ok (.aload_n 0, 1) := by decide +kernel
theorem dM_next_1 : decode cM_next 1 = .ok (.aload_n 0, 1) := by decide +kernel
theorem dM_next_2 : decode cM_next 2 = .ok (.iload_n 1, 1) := by decide +kernel
theorem dM_next_3 : decode cM_next 3 = .ok (.iload_n 2, 1) := by decide +kernel
theorem dM_next_4 : decode cM_next 4 = .ok (.invokevirtual 84, 3) := by decide +kernel
theorem dM_next_7 : decode cM_next 7 = .ok (.putfield 52, 3) := by decide +kernel
theorem dM_next_10 : decode cM_next 10 = .ok (.aload_n 0, 1) := by decide +kernel
theorem dM_next_11 : decode cM_next 11 = .ok (.getfield 52, 3) := by decide +kernel
theorem dM_next_14 : decode cM_next 14 = .ok (.ifCond .le 5, 3) := by decide +kernel
theorem dM_next_17 : decode cM_next 17 = .ok (.iconst 0, 1) := by decide +kernel
theorem dM_next_18 : decode cM_next 18 = .ok (.ireturn, 1) := by decide +kernel
theorem dM_drop_0 : decode cM_drop 0 = .ok (.aload_n 0, 1) := by decide +kernel
theorem dM_drop_1 : decode cM_drop 1 = .ok (.aload_n 0, 1) := by decide +kernel
theorem dM_drop_2 : decode cM_drop 2 = .ok (.iload_n 1, 1) := by decide +kernel
theorem dM_drop_3 : decode cM_drop 3 = .ok (.invokevirtual 77, 3) := by decide +kernel
theorem dM_drop_6 : decode cM_drop 6 = .ok (.putfield 52, 3) := by decide +kernel
theorem dM_drop_9 : decode cM_drop 9 = .ok (.aload_n 0, 1) := by decide +kernel
theorem dM_drop_10 : decode cM_drop 10 = .ok (.getfield 52, 3) := by decide +kernel
theorem dM_drop_13 : decode cM_drop 13 = .ok (.ifCond .le 5, 3) := by decide +kernel
theorem dM_drop_16 : decode cM_drop 16 = .ok (.iconst 0, 1) := by decide +kernel
theorem dM_drop_17 : decode cM_drop 17 = .ok (.ireturn, 1) := by decide +kernel
theorem dM_commit_0 : decode cM_commit 0 = .ok (.aload_n 0, 1) := by decide +kernel
theorem dM_commit_1 : decode cM_commit 1 = .ok (.aload_n 0, 1) := by decide +kernel
theorem dM_commit_2 : decode cM_commit 2 = .ok (.iload_n 1, 1) := by decide +kernel
theorem dM_commit_3 : decode cM_commit 3 = .ok (.invokevirtual 77, 3) := by decide +kernel
theorem dM_commit_6 : decode cM_commit 6 = .ok (.putfield 52, 3) := by decide +kernel
theorem dM_commit_9 : decode cM_commit 9 = .ok (.aload_n 0, 1) := by decide +kernel
theorem dM_commit_10 : decode cM_commit 10 = .ok (.getfield 52, 3) := by decide +kernel
theorem dM_commit_13 : decode cM_commit 13 = .ok (.ifCond .le 5, 3) := by decide +kernel
theorem dM_commit_16 : decode cM_commit 16 = .ok (.iconst 0, 1) := by decide +kernel
theorem dM_commit_17 : decode cM_commit 17 = .ok (.ireturn, 1) := by decide +kernel
def MW0 : Nat → Int32 := upd (upd (fun _ => 0) (0 : Int32).toNatClampNeg 1) (3 : Int32).toNatClampNeg 1013969759
set_option maxHeartbeats 4000000 in
set_option maxRecDepth 100000 in
theorem c_M_chk (l : Launch) (dC : Nat → ClassId) (dI : Nat → Nat → Nat) (cI cZ cJ cT : ClassId) (a b c9 k : Int32) : Met l yM_checkOf (Cond.code yM_checkOf cM_checkOf 4 (some .int) :: wsA) ({ frames := 0, cells := 0, slots := 0, locals := 0 }) (va_Pc [.int a, .int b, .int c9, .int k] (fun U => va_P (dC, dI) vwC [] U.heap ∧ KK dC dI cI cZ cJ cT U)) (vp_Si (fun r => r = ((((65536 * a) + b) ^^^ (c9 * 1664525)) ^^^ (1013904223 + (97 * k))))) 0 0 (fun _ => False) := by
  refine Met.ofW (cc := cM_checkOf) (maxL := 4) (ret := (some .int)) (by decide) rfl ?_
  intro p e s m args below meth c s₁ B hml hv
  obtain ⟨rfl, hP, hKK⟩ := hv
  have hK := hKK.1
  have hx := B.exec
  have hb := B.bytes
  have hr := B.returns
  have hw : ∀ w ∈ wsA, w.before _ s = true := fun w h => atoms_spec (ws := (Cond.code yM_checkOf cM_checkOf 4 (some .int) :: wsA)) B.pre w (List.mem_cons_of_mem _ h)
  have hown : s.vm.findClass "LoggedStoreModel" = some m.cls := findClass_of_methodNamed B.named
  have hlocks := B.notSynchronized
  have hl := lv_entry ([.int a, .int b, .int c9, .int k]) (n := 4) (Nat.le_of_ble_eq_true rfl)
  rw [lg_entry_eq]
  generalize (lg_sl ([.int a, .int b, .int c9, .int k]) ++ List.replicate (4 - (lg_sl ([.int a, .int b, .int c9, .int k])).length) Slot.unset).toArray = ls at hl ⊢
  have hl : lv_has ls 4 [(0, .int a), (1, .int b), (2, .int c9), (3, .int k)] := hl
  refine lv_ldc (v := 65536) hx hb hown (hw _ w609) dM_checkOf_0 ?_
  refine lv_iload_n hx hb dM_checkOf_2 rfl (lv_at hl 0 rfl) ?_
  refine lv_imul hx hb dM_checkOf_3 ?_
  refine lv_iload_n hx hb dM_checkOf_4 rfl (lv_at hl 1 rfl) ?_
  refine lv_iadd hx hb dM_checkOf_5 ?_
  refine lv_iload_n hx hb dM_checkOf_6 rfl (lv_at hl 2 rfl) ?_
  refine lv_ldc (v := 1664525) hx hb hown (hw _ w610) dM_checkOf_7 ?_
  refine lv_imul hx hb dM_checkOf_9 ?_
  refine lv_ixor hx hb dM_checkOf_10 ?_
  refine lv_ldc (v := 1013904223) hx hb hown (hw _ w611) dM_checkOf_11 ?_
  refine lv_bipush (v := 97) hx hb dM_checkOf_13 (by decide) ?_
  refine lv_iload_n hx hb dM_checkOf_15 rfl (lv_at hl 3 rfl) ?_
  refine lv_imul hx hb dM_checkOf_16 ?_
  refine lv_iadd hx hb dM_checkOf_17 ?_
  refine lv_ixor hx hb dM_checkOf_18 ?_
  exact W.iret (v := ((((65536 * a) + b) ^^^ (c9 * 1664525)) ^^^ (1013904223 + (97 * k)))) hx hb hr (fun t ht hW => ⟨((((65536 * a) + b) ^^^ (c9 * 1664525)) ^^^ (1013904223 + (97 * k))), rfl, rfl, ht⟩) (fun q h => by cases h) dM_checkOf_19

set_option maxHeartbeats 4000000 in
set_option maxRecDepth 100000 in
theorem c_M_init (l : Launch) (dC : Nat → ClassId) (dI : Nat → Nat → Nat) (cI cZ cJ cT : ClassId) (m0 : Nat) (sz : Nat) : Met l yM_init (Cond.code yM_init cM_init 1 none :: wsA) ({ frames := 1, cells := 10, slots := 1350, locals := 23 }) (va_Pc [.ref m0] (fun U => U.heap.size = sz ∧ va_P (dC, dI) vwC [(m0, .inr (4, [.int 0, .null, .int 0, .int 0, .int 0, .null, .null, .null, .int 0, .int 0, .int 0, .int 0, .null, .null, .null, .null, .null, .null]))] U.heap ∧ KK dC dI cI cZ cJ cT U ∧ va_D (fun _ => True) [(m0, .inr (4, [.int 0, .null, .int 0, .int 0, .int 0, .null, .null, .null, .int 0, .int 0, .int 0, .int 0, .null, .null, .null, .null, .null, .null]))])) (va_Qv (S := Nat → Nat) (fun _ => True) (fun u t => va_P (dC, dI) vwC [(m0, .inr (4, [.int 0, .ref (u 0), .int 0, .int (-1), .int 0, .ref (u 1), .ref (u 2), .ref (u 3), .int 0, .int 1, .int 0, .int 0, .ref (u 4), .ref (u 5), .ref (u 6), .ref (u 7), .ref (u 8), .ref (u 9)])), ((u 0), .inl (cI, 384, .inl MW0)), ((u 1), .inl (cZ, 64, .inl (fun _ => 0))), ((u 2), .inl (cI, 64, .inl (fun _ => 0))), ((u 3), .inl (cI, 64, .inl (fun _ => 0))), ((u 4), .inl (cZ, 3, .inl (fun _ => 0))), ((u 5), .inl (cI, 3, .inl (fun _ => 0))), ((u 6), .inl (cZ, 192, .inl (fun _ => 0))), ((u 7), .inl (cI, 192, .inl (fun _ => 0))), ((u 8), .inl (cI, 192, .inl (fun _ => 0))), ((u 9), .inl (cI, 192, .inl (fun _ => 0)))] t.heap ∧ va_D (va_A [(m0, .inr (4, [.int 0, .null, .int 0, .int 0, .int 0, .null, .null, .null, .int 0, .int 0, .int 0, .int 0, .null, .null, .null, .null, .null, .null]))] sz) [(m0, .inr (4, [.int 0, .ref (u 0), .int 0, .int (-1), .int 0, .ref (u 1), .ref (u 2), .ref (u 3), .int 0, .int 1, .int 0, .int 0, .ref (u 4), .ref (u 5), .ref (u 6), .ref (u 7), .ref (u 8), .ref (u 9)])), ((u 0), .inl (cI, 384, .inl MW0)), ((u 1), .inl (cZ, 64, .inl (fun _ => 0))), ((u 2), .inl (cI, 64, .inl (fun _ => 0))), ((u 3), .inl (cI, 64, .inl (fun _ => 0))), ((u 4), .inl (cZ, 3, .inl (fun _ => 0))), ((u 5), .inl (cI, 3, .inl (fun _ => 0))), ((u 6), .inl (cZ, 192, .inl (fun _ => 0))), ((u 7), .inl (cI, 192, .inl (fun _ => 0))), ((u 8), .inl (cI, 192, .inl (fun _ => 0))), ((u 9), .inl (cI, 192, .inl (fun _ => 0)))]) (va_A [(m0, .inr (4, [.int 0, .null, .int 0, .int 0, .int 0, .null, .null, .null, .int 0, .int 0, .int 0, .int 0, .null, .null, .null, .null, .null, .null]))] sz)) 10 1350 (va_A [(m0, .inr (4, [.int 0, .null, .int 0, .int 0, .int 0, .null, .null, .null, .int 0, .int 0, .int 0, .int 0, .null, .null, .null, .null, .null, .null]))] sz) := by
  refine Met.ofW (cc := cM_init) (maxL := 1) (ret := none) (by decide) rfl ?_
  intro p e s m args below meth c s₁ B hml hv
  obtain ⟨rfl, hsz, hP, hKK, hD0⟩ := hv
  have hK := hKK.1
  have hx := B.exec
  have hb := B.bytes
  have hr := B.returns
  have hw : ∀ w ∈ wsA, w.before _ s = true := fun w h => atoms_spec (ws := (Cond.code yM_init cM_init 1 none :: wsA)) B.pre w (List.mem_cons_of_mem _ h)
  have hown : s.vm.findClass "LoggedStoreModel" = some m.cls := findClass_of_methodNamed B.named
  have hlocks := B.notSynchronized
  have hin : meth.name = "<init>" := (name_of_methodNamed B.named B.method).1
  subst hsz
  have hD := hD0.self (sz := s.heap.size)
  generalize hAe : va_A [(m0, .inr (4, [.int 0, .null, .int 0, .int 0, .int 0, .null, .null, .null, .int 0, .int 0, .int 0, .int 0, .null, .null, .null, .null, .null, .null]))] s.heap.size = A at hD ⊢
  have hA : ∀ q : Nat, s.heap.size ≤ q → A q := fun q h => by rw [← hAe]; exact Or.inr h
  have hS : va_S A s.heap s.heap [] := va_S.rf
  have hl := lv_entry ([.ref m0]) (n := 1) (Nat.le_of_ble_eq_true rfl)
  rw [lg_entry_eq]
  generalize (lg_sl ([.ref m0]) ++ List.replicate (1 - (lg_sl ([.ref m0])).length) Slot.unset).toArray = ls at hl ⊢
  have hl : lv_has ls 1 [(0, .ref m0)] := hl
  refine lv_aload_n hx hb dM_init_0 rfl (lv_at hl 0 rfl) ?_
  refine W.objInit hx hb hown (hw _ w605) (hw _ w61) (hw _ w62) rfl (by rw [hml]; exact hl.1) rfl dM_init_1 (Nat.le_of_ble_eq_true rfl) (Nat.le_of_ble_eq_true rfl) ?_
  refine W.eq (g2 := F0 m 4 ls []) rfl ?_
  refine lv_aload_n hx hb dM_init_4 rfl (lv_at hl 0 rfl) ?_
  refine lv_sipush (v := 384) hx hb dM_init_5 (by decide) ?_
  refine va_newa (atype := .int) (a0 := (384, .inl (fun _ => 0))) (ty := .int) hx hb (hw _ w83) rfl hK hP hD hS hA (fun _ => rfl) (by decide) (by decide) (by decide) (Nat.le_of_ble_eq_true rfl) (Nat.le_of_ble_eq_true rfl) dM_init_8 (fun q1 cA H hK hP hD hS => ?_)
  obtain rfl := tk_eq hK (i := 0) (j := 4) rfl rfl
  have hK := hK.sub (tys' := tyA cI cZ cJ cT) [0, 1, 2, 3] rfl
  have hP : va_P (dC, dI) vwC [(m0, .inr (4, [.int 0, .null, .int 0, .int 0, .int 0, .null, .null, .null, .int 0, .int 0, .int 0, .int 0, .null, .null, .null, .null, .null, .null])), (q1, .inl (cI, 384, .inl (fun _ => 0)))] H := hP
  have hD : va_D A [(m0, .inr (4, [.int 0, .null, .int 0, .int 0, .int 0, .null, .null, .null, .int 0, .int 0, .int 0, .int 0, .null, .null, .null, .null, .null, .null])), (q1, .inl (cI, 384, .inl (fun _ => 0)))] := hD
  refine va_put (D := (dC, dI)) (ci := 4) (v := .ref q1) (ty := .array .int) (C := "LoggedStoreModel") (T := uM) (N := 18) hx hb hw inM tyM tyM_ok nmM hown hK hP hD hS 0 rfl rfl 1 (by decide) (hw _ w613) (fun _ h9 => h9) rfl (by decide +kernel) rfl rfl (Nat.le_of_ble_eq_true rfl) dM_init_10 (fun H locs hP hD hS => ?_)
  have hP : va_P (dC, dI) vwC [(m0, .inr (4, [.int 0, .ref q1, .int 0, .int 0, .int 0, .null, .null, .null, .int 0, .int 0, .int 0, .int 0, .null, .null, .null, .null, .null, .null])), (q1, .inl (cI, 384, .inl (fun _ => 0)))] H := hP
  have hD : va_D A [(m0, .inr (4, [.int 0, .ref q1, .int 0, .int 0, .int 0, .null, .null, .null, .int 0, .int 0, .int 0, .int 0, .null, .null, .null, .null, .null, .null])), (q1, .inl (cI, 384, .inl (fun _ => 0)))] := hD
  refine lv_aload_n hx hb dM_init_13 rfl (lv_at hl 0 rfl) ?_
  refine lv_iconst (v := (-1)) hx hb dM_init_14 (by decide) ?_
  refine va_put (D := (dC, dI)) (ci := 4) (v := .int (-1)) (ty := .int) (C := "LoggedStoreModel") (T := uM) (N := 18) hx hb hw inM tyM tyM_ok nmM hown hK hP hD hS 0 rfl rfl 3 (by decide) (hw _ w615) (fun _ h9 => h9) rfl (by decide +kernel) rfl rfl (Nat.le_of_ble_eq_true rfl) dM_init_15 (fun H locs hP hD hS => ?_)
  have hP : va_P (dC, dI) vwC [(m0, .inr (4, [.int 0, .ref q1, .int 0, .int (-1), .int 0, .null, .null, .null, .int 0, .int 0, .int 0, .int 0, .null, .null, .null, .null, .null, .null])), (q1, .inl (cI, 384, .inl (fun _ => 0)))] H := hP
  have hD : va_D A [(m0, .inr (4, [.int 0, .ref q1, .int 0, .int (-1), .int 0, .null, .null, .null, .int 0, .int 0, .int 0, .int 0, .null, .null, .null, .null, .null, .null])), (q1, .inl (cI, 384, .inl (fun _ => 0)))] := hD
  refine lv_aload_n hx hb dM_init_18 rfl (lv_at hl 0 rfl) ?_
  refine lv_bipush (v := 64) hx hb dM_init_19 (by decide) ?_
  refine va_newa (atype := .boolean) (a0 := (64, .inl (fun _ => 0))) (ty := .boolean) hx hb (hw _ w103) rfl hK hP hD hS hA (fun _ => rfl) (by decide) (by decide) (by decide) (Nat.le_of_ble_eq_true rfl) (Nat.le_of_ble_eq_true rfl) dM_init_21 (fun q2 cA H hK hP hD hS => ?_)
  obtain rfl := tk_eq hK (i := 1) (j := 4) rfl rfl
  have hK := hK.sub (tys' := tyA cI cZ cJ cT) [0, 1, 2, 3] rfl
  have hP : va_P (dC, dI) vwC [(m0, .inr (4, [.int 0, .ref q1, .int 0, .int (-1), .int 0, .null, .null, .null, .int 0, .int 0, .int 0, .int 0, .null, .null, .null, .null, .null, .null])), (q1, .inl (cI, 384, .inl (fun _ => 0))), (q2, .inl (cZ, 64, .inl (fun _ => 0)))] H := hP
  have hD : va_D A [(m0, .inr (4, [.int 0, .ref q1, .int 0, .int (-1), .int 0, .null, .null, .null, .int 0, .int 0, .int 0, .int 0, .null, .null, .null, .null, .null, .null])), (q1, .inl (cI, 384, .inl (fun _ => 0))), (q2, .inl (cZ, 64, .inl (fun _ => 0)))] := hD
  refine va_put (D := (dC, dI)) (ci := 4) (v := .ref q2) (ty := .array .boolean) (C := "LoggedStoreModel") (T := uM) (N := 18) hx hb hw inM tyM tyM_ok nmM hown hK hP hD hS 0 rfl rfl 5 (by decide) (hw _ w617) (fun _ h9 => h9) rfl (by decide +kernel) rfl rfl (Nat.le_of_ble_eq_true rfl) dM_init_23 (fun H locs hP hD hS => ?_)
  have hP : va_P (dC, dI) vwC [(m0, .inr (4, [.int 0, .ref q1, .int 0, .int (-1), .int 0, .ref q2, .null, .null, .int 0, .int 0, .int 0, .int 0, .null, .null, .null, .null, .null, .null])), (q1, .inl (cI, 384, .inl (fun _ => 0))), (q2, .inl (cZ, 64, .inl (fun _ => 0)))] H := hP
  have hD : va_D A [(m0, .inr (4, [.int 0, .ref q1, .int 0, .int (-1), .int 0, .ref q2, .null, .null, .int 0, .int 0, .int 0, .int 0, .null, .null, .null, .null, .null, .null])), (q1, .inl (cI, 384, .inl (fun _ => 0))), (q2, .inl (cZ, 64, .inl (fun _ => 0)))] := hD
  refine lv_aload_n hx hb dM_init_26 rfl (lv_at hl 0 rfl) ?_
  refine lv_bipush (v := 64) hx hb dM_init_27 (by decide) ?_
  refine va_newa (atype := .int) (a0 := (64, .inl (fun _ => 0))) (ty := .int) hx hb (hw _ w83) rfl hK hP hD hS hA (fun _ => rfl) (by decide) (by decide) (by decide) (Nat.le_of_ble_eq_true rfl) (Nat.le_of_ble_eq_true rfl) dM_init_29 (fun q3 cA H hK hP hD hS => ?_)
  obtain rfl := tk_eq hK (i := 0) (j := 4) rfl rfl
  have hK := hK.sub (tys' := tyA cI cZ cJ cT) [0, 1, 2, 3] rfl
  have hP : va_P (dC, dI) vwC [(m0, .inr (4, [.int 0, .ref q1, .int 0, .int (-1), .int 0, .ref q2, .null, .null, .int 0, .int 0, .int 0, .int 0, .null, .null, .null, .null, .null, .null])), (q1, .inl (cI, 384, .inl (fun _ => 0))), (q2, .inl (cZ, 64, .inl (fun _ => 0))), (q3, .inl (cI, 64, .inl (fun _ => 0)))] H := hP
  have hD : va_D A [(m0, .inr (4, [.int 0, .ref q1, .int 0, .int (-1), .int 0, .ref q2, .null, .null, .int 0, .int 0, .int 0, .int 0, .null, .null, .null, .null, .null, .null])), (q1, .inl (cI, 384, .inl (fun _ => 0))), (q2, .inl (cZ, 64, .inl (fun _ => 0))), (q3, .inl (cI, 64, .inl (fun _ => 0)))] := hD
  refine va_put (D := (dC, dI)) (ci := 4) (v := .ref q3) (ty := .array .int) (C := "LoggedStoreModel") (T := uM) (N := 18) hx hb hw inM tyM tyM_ok nmM hown hK hP hD hS 0 rfl rfl 6 (by decide) (hw _ w618) (fun _ h9 => h9) rfl (by decide +kernel) rfl rfl (Nat.le_of_ble_eq_true rfl) dM_init_31 (fun H locs hP hD hS => ?_)
  have hP : va_P (dC, dI) vwC [(m0, .inr (4, [.int 0, .ref q1, .int 0, .int (-1), .int 0, .ref q2, .ref q3, .null, .int 0, .int 0, .int 0, .int 0, .null, .null, .null, .null, .null, .null])), (q1, .inl (cI, 384, .inl (fun _ => 0))), (q2, .inl (cZ, 64, .inl (fun _ => 0))), (q3, .inl (cI, 64, .inl (fun _ => 0)))] H := hP
  have hD : va_D A [(m0, .inr (4, [.int 0, .ref q1, .int 0, .int (-1), .int 0, .ref q2, .ref q3, .null, .int 0, .int 0, .int 0, .int 0, .null, .null, .null, .null, .null, .null])), (q1, .inl (cI, 384, .inl (fun _ => 0))), (q2, .inl (cZ, 64, .inl (fun _ => 0))), (q3, .inl (cI, 64, .inl (fun _ => 0)))] := hD
  refine lv_aload_n hx hb dM_init_34 rfl (lv_at hl 0 rfl) ?_
  refine lv_bipush (v := 64) hx hb dM_init_35 (by decide) ?_
  refine va_newa (atype := .int) (a0 := (64, .inl (fun _ => 0))) (ty := .int) hx hb (hw _ w83) rfl hK hP hD hS hA (fun _ => rfl) (by decide) (by decide) (by decide) (Nat.le_of_ble_eq_true rfl) (Nat.le_of_ble_eq_true rfl) dM_init_37 (fun q4 cA H hK hP hD hS => ?_)
  obtain rfl := tk_eq hK (i := 0) (j := 4) rfl rfl
  have hK := hK.sub (tys' := tyA cI cZ cJ cT) [0, 1, 2, 3] rfl
  have hP : va_P (dC, dI) vwC [(m0, .inr (4, [.int 0, .ref q1, .int 0, .int (-1), .int 0, .ref q2, .ref q3, .null, .int 0, .int 0, .int 0, .int 0, .null, .null, .null, .null, .null, .null])), (q1, .inl (cI, 384, .inl (fun _ => 0))), (q2, .inl (cZ, 64, .inl (fun _ => 0))), (q3, .inl (cI, 64, .inl (fun _ => 0))), (q4, .inl (cI, 64, .inl (fun _ => 0)))] H := hP
  have hD : va_D A [(m0, .inr (4, [.int 0, .ref q1, .int 0, .int (-1), .int 0, .ref q2, .ref q3, .null, .int 0, .int 0, .int 0, .int 0, .null, .null, .null, .null, .null, .null])), (q1, .inl (cI, 384, .inl (fun _ => 0))), (q2, .inl (cZ, 64, .inl (fun _ => 0))), (q3, .inl (cI, 64, .inl (fun _ => 0))), (q4, .inl (cI, 64, .inl (fun _ => 0)))] := hD
  refine va_put (D := (dC, dI)) (ci := 4) (v := .ref q4) (ty := .array .int) (C := "LoggedStoreModel") (T := uM) (N := 18) hx hb hw inM tyM tyM_ok nmM hown hK hP hD hS 0 rfl rfl 7 (by decide) (hw _ w619) (fun _ h9 => h9) rfl (by decide +kernel) rfl rfl (Nat.le_of_ble_eq_true rfl) dM_init_39 (fun H locs hP hD hS => ?_)
  have hP : va_P (dC, dI) vwC [(m0, .inr (4, [.int 0, .ref q1, .int 0, .int (-1), .int 0, .ref q2, .ref q3, .ref q4, .int 0, .int 0, .int 0, .int 0, .null, .null, .null, .null, .null, .null])), (q1, .inl (cI, 384, .inl (fun _ => 0))), (q2, .inl (cZ, 64, .inl (fun _ => 0))), (q3, .inl (cI, 64, .inl (fun _ => 0))), (q4, .inl (cI, 64, .inl (fun _ => 0)))] H := hP
  have hD : va_D A [(m0, .inr (4, [.int 0, .ref q1, .int 0, .int (-1), .int 0, .ref q2, .ref q3, .ref q4, .int 0, .int 0, .int 0, .int 0, .null, .null, .null, .null, .null, .null])), (q1, .inl (cI, 384, .inl (fun _ => 0))), (q2, .inl (cZ, 64, .inl (fun _ => 0))), (q3, .inl (cI, 64, .inl (fun _ => 0))), (q4, .inl (cI, 64, .inl (fun _ => 0)))] := hD
  refine lv_aload_n hx hb dM_init_42 rfl (lv_at hl 0 rfl) ?_
  refine lv_iconst (v := 1) hx hb dM_init_43 (by decide) ?_
  refine va_put (D := (dC, dI)) (ci := 4) (v := .int 1) (ty := .int) (C := "LoggedStoreModel") (T := uM) (N := 18) hx hb hw inM tyM tyM_ok nmM hown hK hP hD hS 0 rfl rfl 9 (by decide) (hw _ w621) (fun _ h9 => h9) rfl (by decide +kernel) rfl rfl (Nat.le_of_ble_eq_true rfl) dM_init_44 (fun H locs hP hD hS => ?_)
  have hP : va_P (dC, dI) vwC [(m0, .inr (4, [.int 0, .ref q1, .int 0, .int (-1), .int 0, .ref q2, .ref q3, .ref q4, .int 0, .int 1, .int 0, .int 0, .null, .null, .null, .null, .null, .null])), (q1, .inl (cI, 384, .inl (fun _ => 0))), (q2, .inl (cZ, 64, .inl (fun _ => 0))), (q3, .inl (cI, 64, .inl (fun _ => 0))), (q4, .inl (cI, 64, .inl (fun _ => 0)))] H := hP
  have hD : va_D A [(m0, .inr (4, [.int 0, .ref q1, .int 0, .int (-1), .int 0, .ref q2, .ref q3, .ref q4, .int 0, .int 1, .int 0, .int 0, .null, .null, .null, .null, .null, .null])), (q1, .inl (cI, 384, .inl (fun _ => 0))), (q2, .inl (cZ, 64, .inl (fun _ => 0))), (q3, .inl (cI, 64, .inl (fun _ => 0))), (q4, .inl (cI, 64, .inl (fun _ => 0)))] := hD
  refine lv_aload_n hx hb dM_init_47 rfl (lv_at hl 0 rfl) ?_
  refine lv_iconst (v := 3) hx hb dM_init_48 (by decide) ?_
  refine va_newa (atype := .boolean) (a0 := (3, .inl (fun _ => 0))) (ty := .boolean) hx hb (hw _ w103) rfl hK hP hD hS hA (fun _ => rfl) (by decide) (by decide) (by decide) (Nat.le_of_ble_eq_true rfl) (Nat.le_of_ble_eq_true rfl) dM_init_49 (fun q5 cA H hK hP hD hS => ?_)
  obtain rfl := tk_eq hK (i := 1) (j := 4) rfl rfl
  have hK := hK.sub (tys' := tyA cI cZ cJ cT) [0, 1, 2, 3] rfl
  have hP : va_P (dC, dI) vwC [(m0, .inr (4, [.int 0, .ref q1, .int 0, .int (-1), .int 0, .ref q2, .ref q3, .ref q4, .int 0, .int 1, .int 0, .int 0, .null, .null, .null, .null, .null, .null])), (q1, .inl (cI, 384, .inl (fun _ => 0))), (q2, .inl (cZ, 64, .inl (fun _ => 0))), (q3, .inl (cI, 64, .inl (fun _ => 0))), (q4, .inl (cI, 64, .inl (fun _ => 0))), (q5, .inl (cZ, 3, .inl (fun _ => 0)))] H := hP
  have hD : va_D A [(m0, .inr (4, [.int 0, .ref q1, .int 0, .int (-1), .int 0, .ref q2, .ref q3, .ref q4, .int 0, .int 1, .int 0, .int 0, .null, .null, .null, .null, .null, .null])), (q1, .inl (cI, 384, .inl (fun _ => 0))), (q2, .inl (cZ, 64, .inl (fun _ => 0))), (q3, .inl (cI, 64, .inl (fun _ => 0))), (q4, .inl (cI, 64, .inl (fun _ => 0))), (q5, .inl (cZ, 3, .inl (fun _ => 0)))] := hD
  refine va_put (D := (dC, dI)) (ci := 4) (v := .ref q5) (ty := .array .boolean) (C := "LoggedStoreModel") (T := uM) (N := 18) hx hb hw inM tyM tyM_ok nmM hown hK hP hD hS 0 rfl rfl 12 (by decide) (hw _ w624) (fun _ h9 => h9) rfl (by decide +kernel) rfl rfl (Nat.le_of_ble_eq_true rfl) dM_init_51 (fun H locs hP hD hS => ?_)
  have hP : va_P (dC, dI) vwC [(m0, .inr (4, [.int 0, .ref q1, .int 0, .int (-1), .int 0, .ref q2, .ref q3, .ref q4, .int 0, .int 1, .int 0, .int 0, .ref q5, .null, .null, .null, .null, .null])), (q1, .inl (cI, 384, .inl (fun _ => 0))), (q2, .inl (cZ, 64, .inl (fun _ => 0))), (q3, .inl (cI, 64, .inl (fun _ => 0))), (q4, .inl (cI, 64, .inl (fun _ => 0))), (q5, .inl (cZ, 3, .inl (fun _ => 0)))] H := hP
  have hD : va_D A [(m0, .inr (4, [.int 0, .ref q1, .int 0, .int (-1), .int 0, .ref q2, .ref q3, .ref q4, .int 0, .int 1, .int 0, .int 0, .ref q5, .null, .null, .null, .null, .null])), (q1, .inl (cI, 384, .inl (fun _ => 0))), (q2, .inl (cZ, 64, .inl (fun _ => 0))), (q3, .inl (cI, 64, .inl (fun _ => 0))), (q4, .inl (cI, 64, .inl (fun _ => 0))), (q5, .inl (cZ, 3, .inl (fun _ => 0)))] := hD
  refine lv_aload_n hx hb dM_init_54 rfl (lv_at hl 0 rfl) ?_
  refine lv_iconst (v := 3) hx hb dM_init_55 (by decide) ?_
  refine va_newa (atype := .int) (a0 := (3, .inl (fun _ => 0))) (ty := .int) hx hb (hw _ w83) rfl hK hP hD hS hA (fun _ => rfl) (by decide) (by decide) (by decide) (Nat.le_of_ble_eq_true rfl) (Nat.le_of_ble_eq_true rfl) dM_init_56 (fun q6 cA H hK hP hD hS => ?_)
  obtain rfl := tk_eq hK (i := 0) (j := 4) rfl rfl
  have hK := hK.sub (tys' := tyA cI cZ cJ cT) [0, 1, 2, 3] rfl
  have hP : va_P (dC, dI) vwC [(m0, .inr (4, [.int 0, .ref q1, .int 0, .int (-1), .int 0, .ref q2, .ref q3, .ref q4, .int 0, .int 1, .int 0, .int 0, .ref q5, .null, .null, .null, .null, .null])), (q1, .inl (cI, 384, .inl (fun _ => 0))), (q2, .inl (cZ, 64, .inl (fun _ => 0))), (q3, .inl (cI, 64, .inl (fun _ => 0))), (q4, .inl (cI, 64, .inl (fun _ => 0))), (q5, .inl (cZ, 3, .inl (fun _ => 0))), (q6, .inl (cI, 3, .inl (fun _ => 0)))] H := hP
  have hD : va_D A [(m0, .inr (4, [.int 0, .ref q1, .int 0, .int (-1), .int 0, .ref q2, .ref q3, .ref q4, .int 0, .int 1, .int 0, .int 0, .ref q5, .null, .null, .null, .null, .null])), (q1, .inl (cI, 384, .inl (fun _ => 0))), (q2, .inl (cZ, 64, .inl (fun _ => 0))), (q3, .inl (cI, 64, .inl (fun _ => 0))), (q4, .inl (cI, 64, .inl (fun _ => 0))), (q5, .inl (cZ, 3, .inl (fun _ => 0))), (q6, .inl (cI, 3, .inl (fun _ => 0)))] := hD
  refine va_put (D := (dC, dI)) (ci := 4) (v := .ref q6) (ty := .array .int) (C := "LoggedStoreModel") (T := uM) (N := 18) hx hb hw inM tyM tyM_ok nmM hown hK hP hD hS 0 rfl rfl 13 (by decide) (hw _ w625) (fun _ h9 => h9) rfl (by decide +kernel) rfl rfl (Nat.le_of_ble_eq_true rfl) dM_init_58 (fun H locs hP hD hS => ?_)
  have hP : va_P (dC, dI) vwC [(m0, .inr (4, [.int 0, .ref q1, .int 0, .int (-1), .int 0, .ref q2, .ref q3, .ref q4, .int 0, .int 1, .int 0, .int 0, .ref q5, .ref q6, .null, .null, .null, .null])), (q1, .inl (cI, 384, .inl (fun _ => 0))), (q2, .inl (cZ, 64, .inl (fun _ => 0))), (q3, .inl (cI, 64, .inl (fun _ => 0))), (q4, .inl (cI, 64, .inl (fun _ => 0))), (q5, .inl (cZ, 3, .inl (fun _ => 0))), (q6, .inl (cI, 3, .inl (fun _ => 0)))] H := hP
  have hD : va_D A [(m0, .inr (4, [.int 0, .ref q1, .int 0, .int (-1), .int 0, .ref q2, .ref q3, .ref q4, .int 0, .int 1, .int 0, .int 0, .ref q5, .ref q6, .null, .null, .null, .null])), (q1, .inl (cI, 384, .inl (fun _ => 0))), (q2, .inl (cZ, 64, .inl (fun _ => 0))), (q3, .inl (cI, 64, .inl (fun _ => 0))), (q4, .inl (cI, 64, .inl (fun _ => 0))), (q5, .inl (cZ, 3, .inl (fun _ => 0))), (q6, .inl (cI, 3, .inl (fun _ => 0)))] := hD
  refine lv_aload_n hx hb dM_init_61 rfl (lv_at hl 0 rfl) ?_
  refine lv_sipush (v := 192) hx hb dM_init_62 (by decide) ?_
  refine va_newa (atype := .boolean) (a0 := (192, .inl (fun _ => 0))) (ty := .boolean) hx hb (hw _ w103) rfl hK hP hD hS hA (fun _ => rfl) (by decide) (by decide) (by decide) (Nat.le_of_ble_eq_true rfl) (Nat.le_of_ble_eq_true rfl) dM_init_65 (fun q7 cA H hK hP hD hS => ?_)
  obtain rfl := tk_eq hK (i := 1) (j := 4) rfl rfl
  have hK := hK.sub (tys' := tyA cI cZ cJ cT) [0, 1, 2, 3] rfl
  have hP : va_P (dC, dI) vwC [(m0, .inr (4, [.int 0, .ref q1, .int 0, .int (-1), .int 0, .ref q2, .ref q3, .ref q4, .int 0, .int 1, .int 0, .int 0, .ref q5, .ref q6, .null, .null, .null, .null])), (q1, .inl (cI, 384, .inl (fun _ => 0))), (q2, .inl (cZ, 64, .inl (fun _ => 0))), (q3, .inl (cI, 64, .inl (fun _ => 0))), (q4, .inl (cI, 64, .inl (fun _ => 0))), (q5, .inl (cZ, 3, .inl (fun _ => 0))), (q6, .inl (cI, 3, .inl (fun _ => 0))), (q7, .inl (cZ, 192, .inl (fun _ => 0)))] H := hP
  have hD : va_D A [(m0, .inr (4, [.int 0, .ref q1, .int 0, .int (-1), .int 0, .ref q2, .ref q3, .ref q4, .int 0, .int 1, .int 0, .int 0, .ref q5, .ref q6, .null, .null, .null, .null])), (q1, .inl (cI, 384, .inl (fun _ => 0))), (q2, .inl (cZ, 64, .inl (fun _ => 0))), (q3, .inl (cI, 64, .inl (fun _ => 0))), (q4, .inl (cI, 64, .inl (fun _ => 0))), (q5, .inl (cZ, 3, .inl (fun _ => 0))), (q6, .inl (cI, 3, .inl (fun _ => 0))), (q7, .inl (cZ, 192, .inl (fun _ => 0)))] := hD
  refine va_put (D := (dC, dI)) (ci := 4) (v := .ref q7) (ty := .array .boolean) (C := "LoggedStoreModel") (T := uM) (N := 18) hx hb hw inM tyM tyM_ok nmM hown hK hP hD hS 0 rfl rfl 14 (by decide) (hw _ w626) (fun _ h9 => h9) rfl (by decide +kernel) rfl rfl (Nat.le_of_ble_eq_true rfl) dM_init_67 (fun H locs hP hD hS => ?_)
  have hP : va_P (dC, dI) vwC [(m0, .inr (4, [.int 0, .ref q1, .int 0, .int (-1), .int 0, .ref q2, .ref q3, .ref q4, .int 0, .int 1, .int 0, .int 0, .ref q5, .ref q6, .ref q7, .null, .null, .null])), (q1, .inl (cI, 384, .inl (fun _ => 0))), (q2, .inl (cZ, 64, .inl (fun _ => 0))), (q3, .inl (cI, 64, .inl (fun _ => 0))), (q4, .inl (cI, 64, .inl (fun _ => 0))), (q5, .inl (cZ, 3, .inl (fun _ => 0))), (q6, .inl (cI, 3, .inl (fun _ => 0))), (q7, .inl (cZ, 192, .inl (fun _ => 0)))] H := hP
  have hD : va_D A [(m0, .inr (4, [.int 0, .ref q1, .int 0, .int (-1), .int 0, .ref q2, .ref q3, .ref q4, .int 0, .int 1, .int 0, .int 0, .ref q5, .ref q6, .ref q7, .null, .null, .null])), (q1, .inl (cI, 384, .inl (fun _ => 0))), (q2, .inl (cZ, 64, .inl (fun _ => 0))), (q3, .inl (cI, 64, .inl (fun _ => 0))), (q4, .inl (cI, 64, .inl (fun _ => 0))), (q5, .inl (cZ, 3, .inl (fun _ => 0))), (q6, .inl (cI, 3, .inl (fun _ => 0))), (q7, .inl (cZ, 192, .inl (fun _ => 0)))] := hD
  refine lv_aload_n hx hb dM_init_70 rfl (lv_at hl 0 rfl) ?_
  refine lv_sipush (v := 192) hx hb dM_init_71 (by decide) ?_
  refine va_newa (atype := .int) (a0 := (192, .inl (fun _ => 0))) (ty := .int) hx hb (hw _ w83) rfl hK hP hD hS hA (fun _ => rfl) (by decide) (by decide) (by decide) (Nat.le_of_ble_eq_true rfl) (Nat.le_of_ble_eq_true rfl) dM_init_74 (fun q8 cA H hK hP hD hS => ?_)
  obtain rfl := tk_eq hK (i := 0) (j := 4) rfl rfl
  have hK := hK.sub (tys' := tyA cI cZ cJ cT) [0, 1, 2, 3] rfl
  have hP : va_P (dC, dI) vwC [(m0, .inr (4, [.int 0, .ref q1, .int 0, .int (-1), .int 0, .ref q2, .ref q3, .ref q4, .int 0, .int 1, .int 0, .int 0, .ref q5, .ref q6, .ref q7, .null, .null, .null])), (q1, .inl (cI, 384, .inl (fun _ => 0))), (q2, .inl (cZ, 64, .inl (fun _ => 0))), (q3, .inl (cI, 64, .inl (fun _ => 0))), (q4, .inl (cI, 64, .inl (fun _ => 0))), (q5, .inl (cZ, 3, .inl (fun _ => 0))), (q6, .inl (cI, 3, .inl (fun _ => 0))), (q7, .inl (cZ, 192, .inl (fun _ => 0))), (q8, .inl (cI, 192, .inl (fun _ => 0)))] H := hP
  have hD : va_D A [(m0, .inr (4, [.int 0, .ref q1, .int 0, .int (-1), .int 0, .ref q2, .ref q3, .ref q4, .int 0, .int 1, .int 0, .int 0, .ref q5, .ref q6, .ref q7, .null, .null, .null])), (q1, .inl (cI, 384, .inl (fun _ => 0))), (q2, .inl (cZ, 64, .inl (fun _ => 0))), (q3, .inl (cI, 64, .inl (fun _ => 0))), (q4, .inl (cI, 64, .inl (fun _ => 0))), (q5, .inl (cZ, 3, .inl (fun _ => 0))), (q6, .inl (cI, 3, .inl (fun _ => 0))), (q7, .inl (cZ, 192, .inl (fun _ => 0))), (q8, .inl (cI, 192, .inl (fun _ => 0)))] := hD
  refine va_put (D := (dC, dI)) (ci := 4) (v := .ref q8) (ty := .array .int) (C := "LoggedStoreModel") (T := uM) (N := 18) hx hb hw inM tyM tyM_ok nmM hown hK hP hD hS 0 rfl rfl 15 (by decide) (hw _ w627) (fun _ h9 => h9) rfl (by decide +kernel) rfl rfl (Nat.le_of_ble_eq_true rfl) dM_init_76 (fun H locs hP hD hS => ?_)
  have hP : va_P (dC, dI) vwC [(m0, .inr (4, [.int 0, .ref q1, .int 0, .int (-1), .int 0, .ref q2, .ref q3, .ref q4, .int 0, .int 1, .int 0, .int 0, .ref q5, .ref q6, .ref q7, .ref q8, .null, .null])), (q1, .inl (cI, 384, .inl (fun _ => 0))), (q2, .inl (cZ, 64, .inl (fun _ => 0))), (q3, .inl (cI, 64, .inl (fun _ => 0))), (q4, .inl (cI, 64, .inl (fun _ => 0))), (q5, .inl (cZ, 3, .inl (fun _ => 0))), (q6, .inl (cI, 3, .inl (fun _ => 0))), (q7, .inl (cZ, 192, .inl (fun _ => 0))), (q8, .inl (cI, 192, .inl (fun _ => 0)))] H := hP
  have hD : va_D A [(m0, .inr (4, [.int 0, .ref q1, .int 0, .int (-1), .int 0, .ref q2, .ref q3, .ref q4, .int 0, .int 1, .int 0, .int 0, .ref q5, .ref q6, .ref q7, .ref q8, .null, .null])), (q1, .inl (cI, 384, .inl (fun _ => 0))), (q2, .inl (cZ, 64, .inl (fun _ => 0))), (q3, .inl (cI, 64, .inl (fun _ => 0))), (q4, .inl (cI, 64, .inl (fun _ => 0))), (q5, .inl (cZ, 3, .inl (fun _ => 0))), (q6, .inl (cI, 3, .inl (fun _ => 0))), (q7, .inl (cZ, 192, .inl (fun _ => 0))), (q8, .inl (cI, 192, .inl (fun _ => 0)))] := hD
  refine lv_aload_n hx hb dM_init_79 rfl (lv_at hl 0 rfl) ?_
  refine lv_sipush (v := 192) hx hb dM_init_80 (by decide) ?_
  refine va_newa (atype := .int) (a0 := (192, .inl (fun _ => 0))) (ty := .int) hx hb (hw _ w83) rfl hK hP hD hS hA (fun _ => rfl) (by decide) (by decide) (by decide) (Nat.le_of_ble_eq_true rfl) (Nat.le_of_ble_eq_true rfl) dM_init_83 (fun q9 cA H hK hP hD hS => ?_)
  obtain rfl := tk_eq hK (i := 0) (j := 4) rfl rfl
  have hK := hK.sub (tys' := tyA cI cZ cJ cT) [0, 1, 2, 3] rfl
  have hP : va_P (dC, dI) vwC [(m0, .inr (4, [.int 0, .ref q1, .int 0, .int (-1), .int 0, .ref q2, .ref q3, .ref q4, .int 0, .int 1, .int 0, .int 0, .ref q5, .ref q6, .ref q7, .ref q8, .null, .null])), (q1, .inl (cI, 384, .inl (fun _ => 0))), (q2, .inl (cZ, 64, .inl (fun _ => 0))), (q3, .inl (cI, 64, .inl (fun _ => 0))), (q4, .inl (cI, 64, .inl (fun _ => 0))), (q5, .inl (cZ, 3, .inl (fun _ => 0))), (q6, .inl (cI, 3, .inl (fun _ => 0))), (q7, .inl (cZ, 192, .inl (fun _ => 0))), (q8, .inl (cI, 192, .inl (fun _ => 0))), (q9, .inl (cI, 192, .inl (fun _ => 0)))] H := hP
  have hD : va_D A [(m0, .inr (4, [.int 0, .ref q1, .int 0, .int (-1), .int 0, .ref q2, .ref q3, .ref q4, .int 0, .int 1, .int 0, .int 0, .ref q5, .ref q6, .ref q7, .ref q8, .null, .null])), (q1, .inl (cI, 384, .inl (fun _ => 0))), (q2, .inl (cZ, 64, .inl (fun _ => 0))), (q3, .inl (cI, 64, .inl (fun _ => 0))), (q4, .inl (cI, 64, .inl (fun _ => 0))), (q5, .inl (cZ, 3, .inl (fun _ => 0))), (q6, .inl (cI, 3, .inl (fun _ => 0))), (q7, .inl (cZ, 192, .inl (fun _ => 0))), (q8, .inl (cI, 192, .inl (fun _ => 0))), (q9, .inl (cI, 192, .inl (fun _ => 0)))] := hD
  refine va_put (D := (dC, dI)) (ci := 4) (v := .ref q9) (ty := .array .int) (C := "LoggedStoreModel") (T := uM) (N := 18) hx hb hw inM tyM tyM_ok nmM hown hK hP hD hS 0 rfl rfl 16 (by decide) (hw _ w628) (fun _ h9 => h9) rfl (by decide +kernel) rfl rfl (Nat.le_of_ble_eq_true rfl) dM_init_85 (fun H locs hP hD hS => ?_)
  have hP : va_P (dC, dI) vwC [(m0, .inr (4, [.int 0, .ref q1, .int 0, .int (-1), .int 0, .ref q2, .ref q3, .ref q4, .int 0, .int 1, .int 0, .int 0, .ref q5, .ref q6, .ref q7, .ref q8, .ref q9, .null])), (q1, .inl (cI, 384, .inl (fun _ => 0))), (q2, .inl (cZ, 64, .inl (fun _ => 0))), (q3, .inl (cI, 64, .inl (fun _ => 0))), (q4, .inl (cI, 64, .inl (fun _ => 0))), (q5, .inl (cZ, 3, .inl (fun _ => 0))), (q6, .inl (cI, 3, .inl (fun _ => 0))), (q7, .inl (cZ, 192, .inl (fun _ => 0))), (q8, .inl (cI, 192, .inl (fun _ => 0))), (q9, .inl (cI, 192, .inl (fun _ => 0)))] H := hP
  have hD : va_D A [(m0, .inr (4, [.int 0, .ref q1, .int 0, .int (-1), .int 0, .ref q2, .ref q3, .ref q4, .int 0, .int 1, .int 0, .int 0, .ref q5, .ref q6, .ref q7, .ref q8, .ref q9, .null])), (q1, .inl (cI, 384, .inl (fun _ => 0))), (q2, .inl (cZ, 64, .inl (fun _ => 0))), (q3, .inl (cI, 64, .inl (fun _ => 0))), (q4, .inl (cI, 64, .inl (fun _ => 0))), (q5, .inl (cZ, 3, .inl (fun _ => 0))), (q6, .inl (cI, 3, .inl (fun _ => 0))), (q7, .inl (cZ, 192, .inl (fun _ => 0))), (q8, .inl (cI, 192, .inl (fun _ => 0))), (q9, .inl (cI, 192, .inl (fun _ => 0)))] := hD
  refine lv_aload_n hx hb dM_init_88 rfl (lv_at hl 0 rfl) ?_
  refine lv_sipush (v := 192) hx hb dM_init_89 (by decide) ?_
  refine va_newa (atype := .int) (a0 := (192, .inl (fun _ => 0))) (ty := .int) hx hb (hw _ w83) rfl hK hP hD hS hA (fun _ => rfl) (by decide) (by decide) (by decide) (Nat.le_of_ble_eq_true rfl) (Nat.le_of_ble_eq_true rfl) dM_init_92 (fun q10 cA H hK hP hD hS => ?_)
  obtain rfl := tk_eq hK (i := 0) (j := 4) rfl rfl
  have hK := hK.sub (tys' := tyA cI cZ cJ cT) [0, 1, 2, 3] rfl
  have hP : va_P (dC, dI) vwC [(m0, .inr (4, [.int 0, .ref q1, .int 0, .int (-1), .int 0, .ref q2, .ref q3, .ref q4, .int 0, .int 1, .int 0, .int 0, .ref q5, .ref q6, .ref q7, .ref q8, .ref q9, .null])), (q1, .inl (cI, 384, .inl (fun _ => 0))), (q2, .inl (cZ, 64, .inl (fun _ => 0))), (q3, .inl (cI, 64, .inl (fun _ => 0))), (q4, .inl (cI, 64, .inl (fun _ => 0))), (q5, .inl (cZ, 3, .inl (fun _ => 0))), (q6, .inl (cI, 3, .inl (fun _ => 0))), (q7, .inl (cZ, 192, .inl (fun _ => 0))), (q8, .inl (cI, 192, .inl (fun _ => 0))), (q9, .inl (cI, 192, .inl (fun _ => 0))), (q10, .inl (cI, 192, .inl (fun _ => 0)))] H := hP
  have hD : va_D A [(m0, .inr (4, [.int 0, .ref q1, .int 0, .int (-1), .int 0, .ref q2, .ref q3, .ref q4, .int 0, .int 1, .int 0, .int 0, .ref q5, .ref q6, .ref q7, .ref q8, .ref q9, .null])), (q1, .inl (cI, 384, .inl (fun _ => 0))), (q2, .inl (cZ, 64, .inl (fun _ => 0))), (q3, .inl (cI, 64, .inl (fun _ => 0))), (q4, .inl (cI, 64, .inl (fun _ => 0))), (q5, .inl (cZ, 3, .inl (fun _ => 0))), (q6, .inl (cI, 3, .inl (fun _ => 0))), (q7, .inl (cZ, 192, .inl (fun _ => 0))), (q8, .inl (cI, 192, .inl (fun _ => 0))), (q9, .inl (cI, 192, .inl (fun _ => 0))), (q10, .inl (cI, 192, .inl (fun _ => 0)))] := hD
  refine va_put (D := (dC, dI)) (ci := 4) (v := .ref q10) (ty := .array .int) (C := "LoggedStoreModel") (T := uM) (N := 18) hx hb hw inM tyM tyM_ok nmM hown hK hP hD hS 0 rfl rfl 17 (by decide) (hw _ w629) (fun _ h9 => h9) rfl (by decide +kernel) rfl rfl (Nat.le_of_ble_eq_true rfl) dM_init_94 (fun H locs hP hD hS => ?_)
  have hP : va_P (dC, dI) vwC [(m0, .inr (4, [.int 0, .ref q1, .int 0, .int (-1), .int 0, .ref q2, .ref q3, .ref q4, .int 0, .int 1, .int 0, .int 0, .ref q5, .ref q6, .ref q7, .ref q8, .ref q9, .ref q10])), (q1, .inl (cI, 384, .inl (fun _ => 0))), (q2, .inl (cZ, 64, .inl (fun _ => 0))), (q3, .inl (cI, 64, .inl (fun _ => 0))), (q4, .inl (cI, 64, .inl (fun _ => 0))), (q5, .inl (cZ, 3, .inl (fun _ => 0))), (q6, .inl (cI, 3, .inl (fun _ => 0))), (q7, .inl (cZ, 192, .inl (fun _ => 0))), (q8, .inl (cI, 192, .inl (fun _ => 0))), (q9, .inl (cI, 192, .inl (fun _ => 0))), (q10, .inl (cI, 192, .inl (fun _ => 0)))] H := hP
  have hD : va_D A [(m0, .inr (4, [.int 0, .ref q1, .int 0, .int (-1), .int 0, .ref q2, .ref q3, .ref q4, .int 0, .int 1, .int 0, .int 0, .ref q5, .ref q6, .ref q7, .ref q8, .ref q9, .ref q10])), (q1, .inl (cI, 384, .inl (fun _ => 0))), (q2, .inl (cZ, 64, .inl (fun _ => 0))), (q3, .inl (cI, 64, .inl (fun _ => 0))), (q4, .inl (cI, 64, .inl (fun _ => 0))), (q5, .inl (cZ, 3, .inl (fun _ => 0))), (q6, .inl (cI, 3, .inl (fun _ => 0))), (q7, .inl (cZ, 192, .inl (fun _ => 0))), (q8, .inl (cI, 192, .inl (fun _ => 0))), (q9, .inl (cI, 192, .inl (fun _ => 0))), (q10, .inl (cI, 192, .inl (fun _ => 0)))] := hD
  refine lv_aload_n hx hb dM_init_97 rfl (lv_at hl 0 rfl) ?_
  refine va_get (D := (dC, dI)) (ci := 4) (v := .ref q1) (C := "LoggedStoreModel") (T := uM) (N := 18) hx hb hw inM hown hK hP 0 rfl rfl 1 (by decide) (hw _ w613) (fun _ h9 => h9) rfl dM_init_98 ?_
  refine lv_iconst (v := 0) hx hb dM_init_101 (by decide) ?_
  refine lv_iconst (v := 1) hx hb dM_init_102 (by decide) ?_
  refine va_iast hx hb hK hP hD hS 1 0 rfl rfl (tv_in (by decide +kernel)) dM_init_103 (fun H locs hP hD hS => ?_)
  have hP : va_P (dC, dI) vwC [(m0, .inr (4, [.int 0, .ref q1, .int 0, .int (-1), .int 0, .ref q2, .ref q3, .ref q4, .int 0, .int 1, .int 0, .int 0, .ref q5, .ref q6, .ref q7, .ref q8, .ref q9, .ref q10])), (q1, .inl (cI, 384, .inl (upd (fun _ => 0) (0 : Int32).toNatClampNeg 1))), (q2, .inl (cZ, 64, .inl (fun _ => 0))), (q3, .inl (cI, 64, .inl (fun _ => 0))), (q4, .inl (cI, 64, .inl (fun _ => 0))), (q5, .inl (cZ, 3, .inl (fun _ => 0))), (q6, .inl (cI, 3, .inl (fun _ => 0))), (q7, .inl (cZ, 192, .inl (fun _ => 0))), (q8, .inl (cI, 192, .inl (fun _ => 0))), (q9, .inl (cI, 192, .inl (fun _ => 0))), (q10, .inl (cI, 192, .inl (fun _ => 0)))] H := hP
  have hD : va_D A [(m0, .inr (4, [.int 0, .ref q1, .int 0, .int (-1), .int 0, .ref q2, .ref q3, .ref q4, .int 0, .int 1, .int 0, .int 0, .ref q5, .ref q6, .ref q7, .ref q8, .ref q9, .ref q10])), (q1, .inl (cI, 384, .inl (upd (fun _ => 0) (0 : Int32).toNatClampNeg 1))), (q2, .inl (cZ, 64, .inl (fun _ => 0))), (q3, .inl (cI, 64, .inl (fun _ => 0))), (q4, .inl (cI, 64, .inl (fun _ => 0))), (q5, .inl (cZ, 3, .inl (fun _ => 0))), (q6, .inl (cI, 3, .inl (fun _ => 0))), (q7, .inl (cZ, 192, .inl (fun _ => 0))), (q8, .inl (cI, 192, .inl (fun _ => 0))), (q9, .inl (cI, 192, .inl (fun _ => 0))), (q10, .inl (cI, 192, .inl (fun _ => 0)))] := hD
  refine lv_aload_n hx hb dM_init_104 rfl (lv_at hl 0 rfl) ?_
  refine va_get (D := (dC, dI)) (ci := 4) (v := .ref q1) (C := "LoggedStoreModel") (T := uM) (N := 18) hx hb hw inM hown hK hP 0 rfl rfl 1 (by decide) (hw _ w613) (fun _ h9 => h9) rfl dM_init_105 ?_
  refine lv_iconst (v := 3) hx hb dM_init_108 (by decide) ?_
  refine lv_iconst (v := 1) hx hb dM_init_109 (by decide) ?_
  refine lv_iconst (v := 0) hx hb dM_init_110 (by decide) ?_
  refine lv_iconst (v := 0) hx hb dM_init_111 (by decide) ?_
  refine lv_iconst (v := 0) hx hb dM_init_112 (by decide) ?_
  have hPc := hP.sub (ws' := []) [] rfl
  refine vp_callSi (W.runS (As := [.int 1, .int 0, .int 0, .int 0]) (rest := [.int 3, .ref q1]) ⟨hx, hb, hml, hown, hw⟩ (c_M_chk l dC dI cI cZ cJ cT 1 0 0 0) ⟨callB_of 4 hw (gA0 w608) rfl rfl rfl (hw _ w45) (hw _ w606) (by decide +kernel) ⟨Nat.le_of_ble_eq_true rfl, Nat.le_of_ble_eq_true rfl⟩, (hw _ w607)⟩ ⟨kb_S, fun U hU hW => ⟨rfl, by rw [hU]; exact hPc, hKK.moved hW⟩⟩ rfl rfl hl.1 rfl (lv_room (Nat.le_of_ble_eq_true rfl)) dM_init_113 ⟨Nat.le_of_ble_eq_true rfl, Nat.le_of_ble_eq_true rfl⟩) (fun r11 e12 => ?_)
  obtain rfl : r11 = 1013969759 := e12.trans (by decide +kernel)
  refine va_iast hx hb hK hP hD hS 1 0 rfl rfl (tv_in (by decide +kernel)) dM_init_116 (fun H locs hP hD hS => ?_)
  have hP : va_P (dC, dI) vwC [(m0, .inr (4, [.int 0, .ref q1, .int 0, .int (-1), .int 0, .ref q2, .ref q3, .ref q4, .int 0, .int 1, .int 0, .int 0, .ref q5, .ref q6, .ref q7, .ref q8, .ref q9, .ref q10])), (q1, .inl (cI, 384, .inl (upd (upd (fun _ => 0) (0 : Int32).toNatClampNeg 1) (3 : Int32).toNatClampNeg 1013969759))), (q2, .inl (cZ, 64, .inl (fun _ => 0))), (q3, .inl (cI, 64, .inl (fun _ => 0))), (q4, .inl (cI, 64, .inl (fun _ => 0))), (q5, .inl (cZ, 3, .inl (fun _ => 0))), (q6, .inl (cI, 3, .inl (fun _ => 0))), (q7, .inl (cZ, 192, .inl (fun _ => 0))), (q8, .inl (cI, 192, .inl (fun _ => 0))), (q9, .inl (cI, 192, .inl (fun _ => 0))), (q10, .inl (cI, 192, .inl (fun _ => 0)))] H := hP
  have hD : va_D A [(m0, .inr (4, [.int 0, .ref q1, .int 0, .int (-1), .int 0, .ref q2, .ref q3, .ref q4, .int 0, .int 1, .int 0, .int 0, .ref q5, .ref q6, .ref q7, .ref q8, .ref q9, .ref q10])), (q1, .inl (cI, 384, .inl (upd (upd (fun _ => 0) (0 : Int32).toNatClampNeg 1) (3 : Int32).toNatClampNeg 1013969759))), (q2, .inl (cZ, 64, .inl (fun _ => 0))), (q3, .inl (cI, 64, .inl (fun _ => 0))), (q4, .inl (cI, 64, .inl (fun _ => 0))), (q5, .inl (cZ, 3, .inl (fun _ => 0))), (q6, .inl (cI, 3, .inl (fun _ => 0))), (q7, .inl (cZ, 192, .inl (fun _ => 0))), (q8, .inl (cI, 192, .inl (fun _ => 0))), (q9, .inl (cI, 192, .inl (fun _ => 0))), (q10, .inl (cI, 192, .inl (fun _ => 0)))] := hD
  have hP9 := hP.sub (ws' := [(m0, .inr (4, [.int 0, .ref q1, .int 0, .int (-1), .int 0, .ref q2, .ref q3, .ref q4, .int 0, .int 1, .int 0, .int 0, .ref q5, .ref q6, .ref q7, .ref q8, .ref q9, .ref q10])), (q1, .inl (cI, 384, .inl (upd (upd (fun _ => 0) (0 : Int32).toNatClampNeg 1) (3 : Int32).toNatClampNeg 1013969759))), (q2, .inl (cZ, 64, .inl (fun _ => 0))), (q3, .inl (cI, 64, .inl (fun _ => 0))), (q4, .inl (cI, 64, .inl (fun _ => 0))), (q5, .inl (cZ, 3, .inl (fun _ => 0))), (q6, .inl (cI, 3, .inl (fun _ => 0))), (q7, .inl (cZ, 192, .inl (fun _ => 0))), (q8, .inl (cI, 192, .inl (fun _ => 0))), (q9, .inl (cI, 192, .inl (fun _ => 0))), (q10, .inl (cI, 192, .inl (fun _ => 0)))]) [0, 1, 2, 3, 4, 5, 6, 7, 8, 9, 10] rfl
  have hD9 := hD.sub (ws' := [(m0, .inr (4, [.int 0, .ref q1, .int 0, .int (-1), .int 0, .ref q2, .ref q3, .ref q4, .int 0, .int 1, .int 0, .int 0, .ref q5, .ref q6, .ref q7, .ref q8, .ref q9, .ref q10])), (q1, .inl (cI, 384, .inl (upd (upd (fun _ => 0) (0 : Int32).toNatClampNeg 1) (3 : Int32).toNatClampNeg 1013969759))), (q2, .inl (cZ, 64, .inl (fun _ => 0))), (q3, .inl (cI, 64, .inl (fun _ => 0))), (q4, .inl (cI, 64, .inl (fun _ => 0))), (q5, .inl (cZ, 3, .inl (fun _ => 0))), (q6, .inl (cI, 3, .inl (fun _ => 0))), (q7, .inl (cZ, 192, .inl (fun _ => 0))), (q8, .inl (cI, 192, .inl (fun _ => 0))), (q9, .inl (cI, 192, .inl (fun _ => 0))), (q10, .inl (cI, 192, .inl (fun _ => 0)))]) [0, 1, 2, 3, 4, 5, 6, 7, 8, 9, 10] (by decide) rfl
  refine W.widen (k := 10) (n := 1350) (by decide) (by decide) ?_
  exact W.vret hx hb hr (fun t ht hW => ⟨⟨fun k => match k with | 0 => q1 | 1 => q2 | 2 => q3 | 3 => q4 | 4 => q5 | 5 => q6 | 6 => q7 | 7 => q8 | 8 => q9 | _ => q10, rfl, trivial, by rw [ht]; exact hP9, hD9⟩, hS.F ht⟩) hS.2.2 dM_init_117

set_option maxHeartbeats 4000000 in
set_option maxRecDepth 100000 in
theorem c_within_t (l : Launch) (dC : Nat → ClassId) (dI : Nat → Nat → Nat) (cI cZ cJ cT : ClassId) (v9 lo hi : Int32) (h1 : ¬ v9 < lo) (h2 : ¬ hi < v9) : Met l yM_within (Cond.code yM_within cM_within 3 (some .boolean) :: wsA) ({ frames := 0, cells := 0, slots := 0, locals := 0 }) (va_Pc [.int v9, .int lo, .int hi] (fun U => va_P (dC, dI) vwC [] U.heap ∧ KK dC dI cI cZ cJ cT U)) (vp_Si (fun r => r = 1)) 0 0 (fun _ => False) := by
  refine Met.ofW (cc := cM_within) (maxL := 3) (ret := (some .boolean)) (by decide) rfl ?_
  intro p e s m args below meth c s₁ B hml hv
  obtain ⟨rfl, hP, hKK⟩ := hv
  have hK := hKK.1
  have hx := B.exec
  have hb := B.bytes
  have hr := B.returns
  have hw : ∀ w ∈ wsA, w.before _ s = true := fun w h => atoms_spec (ws := (Cond.code yM_within cM_within 3 (some .boolean) :: wsA)) B.pre w (List.mem_cons_of_mem _ h)
  have hown : s.vm.findClass "LoggedStoreModel" = some m.cls := findClass_of_methodNamed B.named
  have hlocks := B.notSynchronized
  have hl := lv_entry ([.int v9, .int lo, .int hi]) (n := 3) (Nat.le_of_ble_eq_true rfl)
  rw [lg_entry_eq]
  generalize (lg_sl ([.int v9, .int lo, .int hi]) ++ List.replicate (3 - (lg_sl ([.int v9, .int lo, .int hi])).length) Slot.unset).toArray = ls at hl ⊢
  have hl : lv_has ls 3 [(0, .int v9), (1, .int lo), (2, .int hi)] := hl
  refine lv_iload_n hx hb dM_within_0 rfl (lv_at hl 0 rfl) ?_
  refine lv_iload_n hx hb dM_within_1 rfl (lv_at hl 1 rfl) ?_
  refine lv_icmp_lt (tgt := 14) hx hb dM_within_2 (by decide) (fun h9 => absurd h9 (h1)) (fun _ => ?_)
  refine lv_iload_n hx hb dM_within_5 rfl (lv_at hl 0 rfl) ?_
  refine lv_iload_n hx hb dM_within_6 rfl (lv_at hl 2 rfl) ?_
  refine lv_icmp_gt (tgt := 14) hx hb dM_within_7 (by decide) (fun h9 => absurd h9 (h2)) (fun _ => ?_)
  refine lv_iconst (v := 1) hx hb dM_within_10 (by decide) ?_
  refine lv_goto (tgt := 15) hx hb dM_within_11 (by decide) ?_
  exact W.zret (v := 1) (ty := .boolean) hx hb hr (by decide) (fun t ht hW => ⟨1, rfl, rfl, ht⟩) (fun q h => by cases h) dM_within_15

set_option maxHeartbeats 4000000 in
set_option maxRecDepth 100000 in
theorem c_within_f (l : Launch) (dC : Nat → ClassId) (dI : Nat → Nat → Nat) (cI cZ cJ cT : ClassId) (v9 lo hi : Int32) (h1 : v9 < lo) : Met l yM_within (Cond.code yM_within cM_within 3 (some .boolean) :: wsA) ({ frames := 0, cells := 0, slots := 0, locals := 0 }) (va_Pc [.int v9, .int lo, .int hi] (fun U => va_P (dC, dI) vwC [] U.heap ∧ KK dC dI cI cZ cJ cT U)) (vp_Si (fun r => r = 0)) 0 0 (fun _ => False) := by
  refine Met.ofW (cc := cM_within) (maxL := 3) (ret := (some .boolean)) (by decide) rfl ?_
  intro p e s m args below meth c s₁ B hml hv
  obtain ⟨rfl, hP, hKK⟩ := hv
  have hK := hKK.1
  have hx := B.exec
  have hb := B.bytes
  have hr := B.returns
  have hw : ∀ w ∈ wsA, w.before _ s = true := fun w h => atoms_spec (ws := (Cond.code yM_within cM_within 3 (some .boolean) :: wsA)) B.pre w (List.mem_cons_of_mem _ h)
  have hown : s.vm.findClass "LoggedStoreModel" = some m.cls := findClass_of_methodNamed B.named
  have hlocks := B.notSynchronized
  have hl := lv_entry ([.int v9, .int lo, .int hi]) (n := 3) (Nat.le_of_ble_eq_true rfl)
  rw [lg_entry_eq]
  generalize (lg_sl ([.int v9, .int lo, .int hi]) ++ List.replicate (3 - (lg_sl ([.int v9, .int lo, .int hi])).length) Slot.unset).toArray = ls at hl ⊢
  have hl : lv_has ls 3 [(0, .int v9), (1, .int lo), (2, .int hi)] := hl
  refine lv_iload_n hx hb dM_within_0 rfl (lv_at hl 0 rfl) ?_
  refine lv_iload_n hx hb dM_within_1 rfl (lv_at hl 1 rfl) ?_
  refine lv_icmp_lt (tgt := 14) hx hb dM_within_2 (by decide) (fun _ => ?_) (fun h9 => absurd (h1) h9)
  refine lv_iconst (v := 0) hx hb dM_within_14 (by decide) ?_
  exact W.zret (v := 0) (ty := .boolean) hx hb hr (by decide) (fun t ht hW => ⟨0, rfl, rfl, ht⟩) (fun q h => by cases h) dM_within_15

set_option maxHeartbeats 4000000 in
set_option maxRecDepth 100000 in
theorem c_within_g (l : Launch) (dC : Nat → ClassId) (dI : Nat → Nat → Nat) (cI cZ cJ cT : ClassId) (v9 lo hi : Int32) (h1 : ¬ v9 < lo) (h2 : hi < v9) : Met l yM_within (Cond.code yM_within cM_within 3 (some .boolean) :: wsA) ({ frames := 0, cells := 0, slots := 0, locals := 0 }) (va_Pc [.int v9, .int lo, .int hi] (fun U => va_P (dC, dI) vwC [] U.heap ∧ KK dC dI cI cZ cJ cT U)) (vp_Si (fun r => r = 0)) 0 0 (fun _ => False) := by
  refine Met.ofW (cc := cM_within) (maxL := 3) (ret := (some .boolean)) (by decide) rfl ?_
  intro p e s m args below meth c s₁ B hml hv
  obtain ⟨rfl, hP, hKK⟩ := hv
  have hK := hKK.1
  have hx := B.exec
  have hb := B.bytes
  have hr := B.returns
  have hw : ∀ w ∈ wsA, w.before _ s = true := fun w h => atoms_spec (ws := (Cond.code yM_within cM_within 3 (some .boolean) :: wsA)) B.pre w (List.mem_cons_of_mem _ h)
  have hown : s.vm.findClass "LoggedStoreModel" = some m.cls := findClass_of_methodNamed B.named
  have hlocks := B.notSynchronized
  have hl := lv_entry ([.int v9, .int lo, .int hi]) (n := 3) (Nat.le_of_ble_eq_true rfl)
  rw [lg_entry_eq]
  generalize (lg_sl ([.int v9, .int lo, .int hi]) ++ List.replicate (3 - (lg_sl ([.int v9, .int lo, .int hi])).length) Slot.unset).toArray = ls at hl ⊢
  have hl : lv_has ls 3 [(0, .int v9), (1, .int lo), (2, .int hi)] := hl
  refine lv_iload_n hx hb dM_within_0 rfl (lv_at hl 0 rfl) ?_
  refine lv_iload_n hx hb dM_within_1 rfl (lv_at hl 1 rfl) ?_
  refine lv_icmp_lt (tgt := 14) hx hb dM_within_2 (by decide) (fun h9 => absurd h9 (h1)) (fun _ => ?_)
  refine lv_iload_n hx hb dM_within_5 rfl (lv_at hl 0 rfl) ?_
  refine lv_iload_n hx hb dM_within_6 rfl (lv_at hl 2 rfl) ?_
  refine lv_icmp_gt (tgt := 14) hx hb dM_within_7 (by decide) (fun _ => ?_) (fun h9 => absurd (h2) h9)
  refine lv_iconst (v := 0) hx hb dM_within_14 (by decide) ?_
  exact W.zret (v := 0) (ty := .boolean) hx hb hr (by decide) (fun t ht hW => ⟨0, rfl, rfl, ht⟩) (fun q h => by cases h) dM_within_15

set_option maxHeartbeats 4000000 in
set_option maxRecDepth 100000 in
theorem c_lackOf (l : Launch) (dC : Nat → ClassId) (dI : Nat → Nat → Nat) (cI cZ cJ cT : ClassId) (m0 md mh mn mc mo mb mk ml ms mw : Nat) (t9 : Int32) : Met l yM_lackOf (Cond.code yM_lackOf cM_lackOf 2 (some .int) :: wsA) ({ frames := 1, cells := 0, slots := 0, locals := 22 }) (va_Pc [.ref m0, .int t9] (fun U => va_P (dC, dI) vwC [(m0, .inr (4, [.int 0, .ref md, .int 0, .int (-1), .int 0, .ref mh, .ref mn, .ref mc, .int 0, .int 1, .int 0, .int 0, .ref mo, .ref mb, .ref mk, .ref ml, .ref ms, .ref mw])), (mo, .inl (cZ, 3, .inl (fun _ => 0)))] U.heap ∧ KK dC dI cI cZ cJ cT U)) (vp_Si (fun r => r = 2)) 0 0 (fun _ => False) := by
  refine Met.ofW (cc := cM_lackOf) (maxL := 2) (ret := (some .int)) (by decide) rfl ?_
  intro p e s m args below meth c s₁ B hml hv
  obtain ⟨rfl, hP, hKK⟩ := hv
  rcases tk_t t9 with h1 | ⟨h1, h2, h3⟩ | rfl | rfl | rfl
  · have hK := hKK.1
    have hx := B.exec
    have hb := B.bytes
    have hr := B.returns
    have hw : ∀ w ∈ wsA, w.before _ s = true := fun w h => atoms_spec (ws := (Cond.code yM_lackOf cM_lackOf 2 (some .int) :: wsA)) B.pre w (List.mem_cons_of_mem _ h)
    have hown : s.vm.findClass "LoggedStoreModel" = some m.cls := findClass_of_methodNamed B.named
    have hlocks := B.notSynchronized
    have hl := lv_entry ([.ref m0, .int t9]) (n := 2) (Nat.le_of_ble_eq_true rfl)
    rw [lg_entry_eq]
    generalize (lg_sl ([.ref m0, .int t9]) ++ List.replicate (2 - (lg_sl ([.ref m0, .int t9])).length) Slot.unset).toArray = ls at hl ⊢
    have hl : lv_has ls 2 [(0, .ref m0), (1, .int t9)] := hl
    refine lv_aload_n hx hb dM_lackOf_0 rfl (lv_at hl 0 rfl) ?_
    refine va_get (D := (dC, dI)) (ci := 4) (v := .int 0) (C := "LoggedStoreModel") (T := uM) (N := 18) hx hb hw inM hown hK hP 0 rfl rfl 2 (by decide) (hw _ w614) (fun _ h9 => h9) rfl dM_lackOf_1 ?_
    refine lv_if_eq (tgt := 11) hx hb dM_lackOf_4 (by decide) (fun _ => ?_) (fun h9 => absurd (by decide) h9)
    refine lv_iload_n hx hb dM_lackOf_11 rfl (lv_at hl 1 rfl) ?_
    refine lv_iconst (v := 0) hx hb dM_lackOf_12 (by decide) ?_
    refine lv_iconst (v := 2) hx hb dM_lackOf_13 (by decide) ?_
    have hPc := hP.sub (ws' := []) [] rfl
    refine vp_callSi (W.runS (As := [.int t9, .int 0, .int 2]) (rest := []) ⟨hx, hb, hml, hown, hw⟩ (c_within_f l dC dI cI cZ cJ cT t9 0 2 h1) ⟨callB_of 3 hw (gA0 w677) rfl rfl rfl (hw _ w45) (hw _ w675) (by decide +kernel) ⟨Nat.le_of_ble_eq_true rfl, Nat.le_of_ble_eq_true rfl⟩, (hw _ w676)⟩ ⟨kb_S, fun U hU hW => ⟨rfl, by rw [hU]; exact hPc, hKK.moved hW⟩⟩ rfl rfl hl.1 rfl (lv_room (Nat.le_of_ble_eq_true rfl)) dM_lackOf_14 ⟨Nat.le_of_ble_eq_true rfl, Nat.le_of_ble_eq_true rfl⟩) (fun r1 e2 => ?_)
    obtain rfl : r1 = 0 := e2
    refine lv_if_eq (tgt := 29) hx hb dM_lackOf_17 (by decide) (fun _ => ?_) (fun h9 => absurd (by decide) h9)
    refine lv_iconst (v := 2) hx hb dM_lackOf_29 (by decide) ?_
    refine lv_goto (tgt := 34) hx hb dM_lackOf_30 (by decide) ?_
    exact W.iret (v := 2) hx hb hr (fun t ht hW => ⟨2, rfl, rfl, ht⟩) (fun q h => by cases h) dM_lackOf_34
  · have hK := hKK.1
    have hx := B.exec
    have hb := B.bytes
    have hr := B.returns
    have hw : ∀ w ∈ wsA, w.before _ s = true := fun w h => atoms_spec (ws := (Cond.code yM_lackOf cM_lackOf 2 (some .int) :: wsA)) B.pre w (List.mem_cons_of_mem _ h)
    have hown : s.vm.findClass "LoggedStoreModel" = some m.cls := findClass_of_methodNamed B.named
    have hlocks := B.notSynchronized
    have hl := lv_entry ([.ref m0, .int t9]) (n := 2) (Nat.le_of_ble_eq_true rfl)
    rw [lg_entry_eq]
    generalize (lg_sl ([.ref m0, .int t9]) ++ List.replicate (2 - (lg_sl ([.ref m0, .int t9])).length) Slot.unset).toArray = ls at hl ⊢
    have hl : lv_has ls 2 [(0, .ref m0), (1, .int t9)] := hl
    refine lv_aload_n hx hb dM_lackOf_0 rfl (lv_at hl 0 rfl) ?_
    refine va_get (D := (dC, dI)) (ci := 4) (v := .int 0) (C := "LoggedStoreModel") (T := uM) (N := 18) hx hb hw inM hown hK hP 0 rfl rfl 2 (by decide) (hw _ w614) (fun _ h9 => h9) rfl dM_lackOf_1 ?_
    refine lv_if_eq (tgt := 11) hx hb dM_lackOf_4 (by decide) (fun _ => ?_) (fun h9 => absurd (by decide) h9)
    refine lv_iload_n hx hb dM_lackOf_11 rfl (lv_at hl 1 rfl) ?_
    refine lv_iconst (v := 0) hx hb dM_lackOf_12 (by decide) ?_
    refine lv_iconst (v := 2) hx hb dM_lackOf_13 (by decide) ?_
    have hPc := hP.sub (ws' := []) [] rfl
    refine vp_callSi (W.runS (As := [.int t9, .int 0, .int 2]) (rest := []) ⟨hx, hb, hml, hown, hw⟩ (c_within_g l dC dI cI cZ cJ cT t9 0 2 h1 h3) ⟨callB_of 3 hw (gA0 w677) rfl rfl rfl (hw _ w45) (hw _ w675) (by decide +kernel) ⟨Nat.le_of_ble_eq_true rfl, Nat.le_of_ble_eq_true rfl⟩, (hw _ w676)⟩ ⟨kb_S, fun U hU hW => ⟨rfl, by rw [hU]; exact hPc, hKK.moved hW⟩⟩ rfl rfl hl.1 rfl (lv_room (Nat.le_of_ble_eq_true rfl)) dM_lackOf_14 ⟨Nat.le_of_ble_eq_true rfl, Nat.le_of_ble_eq_true rfl⟩) (fun r1 e2 => ?_)
    obtain rfl : r1 = 0 := e2
    refine lv_if_eq (tgt := 29) hx hb dM_lackOf_17 (by decide) (fun _ => ?_) (fun h9 => absurd (by decide) h9)
    refine lv_iconst (v := 2) hx hb dM_lackOf_29 (by decide) ?_
    refine lv_goto (tgt := 34) hx hb dM_lackOf_30 (by decide) ?_
    exact W.iret (v := 2) hx hb hr (fun t ht hW => ⟨2, rfl, rfl, ht⟩) (fun q h => by cases h) dM_lackOf_34
  · have hK := hKK.1
    have hx := B.exec
    have hb := B.bytes
    have hr := B.returns
    have hw : ∀ w ∈ wsA, w.before _ s = true := fun w h => atoms_spec (ws := (Cond.code yM_lackOf cM_lackOf 2 (some .int) :: wsA)) B.pre w (List.mem_cons_of_mem _ h)
    have hown : s.vm.findClass "LoggedStoreModel" = some m.cls := findClass_of_methodNamed B.named
    have hlocks := B.notSynchronized
    have hl := lv_entry ([.ref m0, .int 0]) (n := 2) (Nat.le_of_ble_eq_true rfl)
    rw [lg_entry_eq]
    generalize (lg_sl ([.ref m0, .int 0]) ++ List.replicate (2 - (lg_sl ([.ref m0, .int 0])).length) Slot.unset).toArray = ls at hl ⊢
    have hl : lv_has ls 2 [(0, .ref m0), (1, .int 0)] := hl
    refine lv_aload_n hx hb dM_lackOf_0 rfl (lv_at hl 0 rfl) ?_
    refine va_get (D := (dC, dI)) (ci := 4) (v := .int 0) (C := "LoggedStoreModel") (T := uM) (N := 18) hx hb hw inM hown hK hP 0 rfl rfl 2 (by decide) (hw _ w614) (fun _ h9 => h9) rfl dM_lackOf_1 ?_
    refine lv_if_eq (tgt := 11) hx hb dM_lackOf_4 (by decide) (fun _ => ?_) (fun h9 => absurd (by decide) h9)
    refine lv_iload_n hx hb dM_lackOf_11 rfl (lv_at hl 1 rfl) ?_
    refine lv_iconst (v := 0) hx hb dM_lackOf_12 (by decide) ?_
    refine lv_iconst (v := 2) hx hb dM_lackOf_13 (by decide) ?_
    have hPc := hP.sub (ws' := []) [] rfl
    refine vp_callSi (W.runS (As := [.int 0, .int 0, .int 2]) (rest := []) ⟨hx, hb, hml, hown, hw⟩ (c_within_t l dC dI cI cZ cJ cT 0 0 2 (by decide) (by decide)) ⟨callB_of 3 hw (gA0 w677) rfl rfl rfl (hw _ w45) (hw _ w675) (by decide +kernel) ⟨Nat.le_of_ble_eq_true rfl, Nat.le_of_ble_eq_true rfl⟩, (hw _ w676)⟩ ⟨kb_S, fun U hU hW => ⟨rfl, by rw [hU]; exact hPc, hKK.moved hW⟩⟩ rfl rfl hl.1 rfl (lv_room (Nat.le_of_ble_eq_true rfl)) dM_lackOf_14 ⟨Nat.le_of_ble_eq_true rfl, Nat.le_of_ble_eq_true rfl⟩) (fun r1 e2 => ?_)
    obtain rfl : r1 = 1 := e2
    refine lv_if_eq (tgt := 29) hx hb dM_lackOf_17 (by decide) (fun h9 => absurd h9 (by decide)) (fun _ => ?_)
    refine lv_aload_n hx hb dM_lackOf_20 rfl (lv_at hl 0 rfl) ?_
    refine va_get (D := (dC, dI)) (ci := 4) (v := .ref mo) (C := "LoggedStoreModel") (T := uM) (N := 18) hx hb hw inM hown hK hP 0 rfl rfl 12 (by decide) (hw _ w624) (fun _ h9 => h9) rfl dM_lackOf_21 ?_
    refine lv_iload_n hx hb dM_lackOf_24 rfl (lv_at hl 1 rfl) ?_
    refine va_zald hx hb hK hP 1 1 rfl rfl (tv_in (by decide +kernel)) dM_lackOf_25 ?_
    refine lv_topi (nm_r (e' := 0) (rfl) ?_)
    refine lv_if_ne (tgt := 33) hx hb dM_lackOf_26 (by decide) (fun h9 => absurd (by decide) h9) (fun _ => ?_)
    refine lv_iconst (v := 2) hx hb dM_lackOf_29 (by decide) ?_
    refine lv_goto (tgt := 34) hx hb dM_lackOf_30 (by decide) ?_
    exact W.iret (v := 2) hx hb hr (fun t ht hW => ⟨2, rfl, rfl, ht⟩) (fun q h => by cases h) dM_lackOf_34
  · have hK := hKK.1
    have hx := B.exec
    have hb := B.bytes
    have hr := B.returns
    have hw : ∀ w ∈ wsA, w.before _ s = true := fun w h => atoms_spec (ws := (Cond.code yM_lackOf cM_lackOf 2 (some .int) :: wsA)) B.pre w (List.mem_cons_of_mem _ h)
    have hown : s.vm.findClass "LoggedStoreModel" = some m.cls := findClass_of_methodNamed B.named
    have hlocks := B.notSynchronized
    have hl := lv_entry ([.ref m0, .int 1]) (n := 2) (Nat.le_of_ble_eq_true rfl)
    rw [lg_entry_eq]
    generalize (lg_sl ([.ref m0, .int 1]) ++ List.replicate (2 - (lg_sl ([.ref m0, .int 1])).length) Slot.unset).toArray = ls at hl ⊢
    have hl : lv_has ls 2 [(0, .ref m0), (1, .int 1)] := hl
    refine lv_aload_n hx hb dM_lackOf_0 rfl (lv_at hl 0 rfl) ?_
    refine va_get (D := (dC, dI)) (ci := 4) (v := .int 0) (C := "LoggedStoreModel") (T := uM) (N := 18) hx hb hw inM hown hK hP 0 rfl rfl 2 (by decide) (hw _ w614) (fun _ h9 => h9) rfl dM_lackOf_1 ?_
    refine lv_if_eq (tgt := 11) hx hb dM_lackOf_4 (by decide) (fun _ => ?_) (fun h9 => absurd (by decide) h9)
    refine lv_iload_n hx hb dM_lackOf_11 rfl (lv_at hl 1 rfl) ?_
    refine lv_iconst (v := 0) hx hb dM_lackOf_12 (by decide) ?_
    refine lv_iconst (v := 2) hx hb dM_lackOf_13 (by decide) ?_
    have hPc := hP.sub (ws' := []) [] rfl
    refine vp_callSi (W.runS (As := [.int 1, .int 0, .int 2]) (rest := []) ⟨hx, hb, hml, hown, hw⟩ (c_within_t l dC dI cI cZ cJ cT 1 0 2 (by decide) (by decide)) ⟨callB_of 3 hw (gA0 w677) rfl rfl rfl (hw _ w45) (hw _ w675) (by decide +kernel) ⟨Nat.le_of_ble_eq_true rfl, Nat.le_of_ble_eq_true rfl⟩, (hw _ w676)⟩ ⟨kb_S, fun U hU hW => ⟨rfl, by rw [hU]; exact hPc, hKK.moved hW⟩⟩ rfl rfl hl.1 rfl (lv_room (Nat.le_of_ble_eq_true rfl)) dM_lackOf_14 ⟨Nat.le_of_ble_eq_true rfl, Nat.le_of_ble_eq_true rfl⟩) (fun r1 e2 => ?_)
    obtain rfl : r1 = 1 := e2
    refine lv_if_eq (tgt := 29) hx hb dM_lackOf_17 (by decide) (fun h9 => absurd h9 (by decide)) (fun _ => ?_)
    refine lv_aload_n hx hb dM_lackOf_20 rfl (lv_at hl 0 rfl) ?_
    refine va_get (D := (dC, dI)) (ci := 4) (v := .ref mo) (C := "LoggedStoreModel") (T := uM) (N := 18) hx hb hw inM hown hK hP 0 rfl rfl 12 (by decide) (hw _ w624) (fun _ h9 => h9) rfl dM_lackOf_21 ?_
    refine lv_iload_n hx hb dM_lackOf_24 rfl (lv_at hl 1 rfl) ?_
    refine va_zald hx hb hK hP 1 1 rfl rfl (tv_in (by decide +kernel)) dM_lackOf_25 ?_
    refine lv_topi (nm_r (e' := 0) (rfl) ?_)
    refine lv_if_ne (tgt := 33) hx hb dM_lackOf_26 (by decide) (fun h9 => absurd (by decide) h9) (fun _ => ?_)
    refine lv_iconst (v := 2) hx hb dM_lackOf_29 (by decide) ?_
    refine lv_goto (tgt := 34) hx hb dM_lackOf_30 (by decide) ?_
    exact W.iret (v := 2) hx hb hr (fun t ht hW => ⟨2, rfl, rfl, ht⟩) (fun q h => by cases h) dM_lackOf_34
  · have hK := hKK.1
    have hx := B.exec
    have hb := B.bytes
    have hr := B.returns
    have hw : ∀ w ∈ wsA, w.before _ s = true := fun w h => atoms_spec (ws := (Cond.code yM_lackOf cM_lackOf 2 (some .int) :: wsA)) B.pre w (List.mem_cons_of_mem _ h)
    have hown : s.vm.findClass "LoggedStoreModel" = some m.cls := findClass_of_methodNamed B.named
    have hlocks := B.notSynchronized
    have hl := lv_entry ([.ref m0, .int 2]) (n := 2) (Nat.le_of_ble_eq_true rfl)
    rw [lg_entry_eq]
    generalize (lg_sl ([.ref m0, .int 2]) ++ List.replicate (2 - (lg_sl ([.ref m0, .int 2])).length) Slot.unset).toArray = ls at hl ⊢
    have hl : lv_has ls 2 [(0, .ref m0), (1, .int 2)] := hl
    refine lv_aload_n hx hb dM_lackOf_0 rfl (lv_at hl 0 rfl) ?_
    refine va_get (D := (dC, dI)) (ci := 4) (v := .int 0) (C := "LoggedStoreModel") (T := uM) (N := 18) hx hb hw inM hown hK hP 0 rfl rfl 2 (by decide) (hw _ w614) (fun _ h9 => h9) rfl dM_lackOf_1 ?_
    refine lv_if_eq (tgt := 11) hx hb dM_lackOf_4 (by decide) (fun _ => ?_) (fun h9 => absurd (by decide) h9)
    refine lv_iload_n hx hb dM_lackOf_11 rfl (lv_at hl 1 rfl) ?_
    refine lv_iconst (v := 0) hx hb dM_lackOf_12 (by decide) ?_
    refine lv_iconst (v := 2) hx hb dM_lackOf_13 (by decide) ?_
    have hPc := hP.sub (ws' := []) [] rfl
    refine vp_callSi (W.runS (As := [.int 2, .int 0, .int 2]) (rest := []) ⟨hx, hb, hml, hown, hw⟩ (c_within_t l dC dI cI cZ cJ cT 2 0 2 (by decide) (by decide)) ⟨callB_of 3 hw (gA0 w677) rfl rfl rfl (hw _ w45) (hw _ w675) (by decide +kernel) ⟨Nat.le_of_ble_eq_true rfl, Nat.le_of_ble_eq_true rfl⟩, (hw _ w676)⟩ ⟨kb_S, fun U hU hW => ⟨rfl, by rw [hU]; exact hPc, hKK.moved hW⟩⟩ rfl rfl hl.1 rfl (lv_room (Nat.le_of_ble_eq_true rfl)) dM_lackOf_14 ⟨Nat.le_of_ble_eq_true rfl, Nat.le_of_ble_eq_true rfl⟩) (fun r1 e2 => ?_)
    obtain rfl : r1 = 1 := e2
    refine lv_if_eq (tgt := 29) hx hb dM_lackOf_17 (by decide) (fun h9 => absurd h9 (by decide)) (fun _ => ?_)
    refine lv_aload_n hx hb dM_lackOf_20 rfl (lv_at hl 0 rfl) ?_
    refine va_get (D := (dC, dI)) (ci := 4) (v := .ref mo) (C := "LoggedStoreModel") (T := uM) (N := 18) hx hb hw inM hown hK hP 0 rfl rfl 12 (by decide) (hw _ w624) (fun _ h9 => h9) rfl dM_lackOf_21 ?_
    refine lv_iload_n hx hb dM_lackOf_24 rfl (lv_at hl 1 rfl) ?_
    refine va_zald hx hb hK hP 1 1 rfl rfl (tv_in (by decide +kernel)) dM_lackOf_25 ?_
    refine lv_topi (nm_r (e' := 0) (rfl) ?_)
    refine lv_if_ne (tgt := 33) hx hb dM_lackOf_26 (by decide) (fun h9 => absurd (by decide) h9) (fun _ => ?_)
    refine lv_iconst (v := 2) hx hb dM_lackOf_29 (by decide) ?_
    refine lv_goto (tgt := 34) hx hb dM_lackOf_30 (by decide) ?_
    exact W.iret (v := 2) hx hb hr (fun t ht hW => ⟨2, rfl, rfl, ht⟩) (fun q h => by cases h) dM_lackOf_34

set_option maxHeartbeats 4000000 in
set_option maxRecDepth 100000 in
theorem c_lackOfKey (l : Launch) (dC : Nat → ClassId) (dI : Nat → Nat → Nat) (cI cZ cJ cT : ClassId) (m0 md mh mn mc mo mb mk ml ms mw : Nat) (t9 k9 : Int32) : Met l yM_lackOfKey (Cond.code yM_lackOfKey cM_lackOfKey 4 (some .int) :: wsA) ({ frames := 2, cells := 0, slots := 0, locals := 43 }) (va_Pc [.ref m0, .int t9, .int k9] (fun U => va_P (dC, dI) vwC [(m0, .inr (4, [.int 0, .ref md, .int 0, .int (-1), .int 0, .ref mh, .ref mn, .ref mc, .int 0, .int 1, .int 0, .int 0, .ref mo, .ref mb, .ref mk, .ref ml, .ref ms, .ref mw])), (mo, .inl (cZ, 3, .inl (fun _ => 0)))] U.heap ∧ KK dC dI cI cZ cJ cT U)) (vp_Si (fun r => r = 2)) 0 0 (fun _ => False) := by
  refine Met.ofW (cc := cM_lackOfKey) (maxL := 4) (ret := (some .int)) (by decide) rfl ?_
  intro p e s m args below meth c s₁ B hml hv
  obtain ⟨rfl, hP, hKK⟩ := hv
  have hK := hKK.1
  have hx := B.exec
  have hb := B.bytes
  have hr := B.returns
  have hw : ∀ w ∈ wsA, w.before _ s = true := fun w h => atoms_spec (ws := (Cond.code yM_lackOfKey cM_lackOfKey 4 (some .int) :: wsA)) B.pre w (List.mem_cons_of_mem _ h)
  have hown : s.vm.findClass "LoggedStoreModel" = some m.cls := findClass_of_methodNamed B.named
  have hlocks := B.notSynchronized
  have hl := lv_entry ([.ref m0, .int t9, .int k9]) (n := 4) (Nat.le_of_ble_eq_true rfl)
  rw [lg_entry_eq]
  generalize (lg_sl ([.ref m0, .int t9, .int k9]) ++ List.replicate (4 - (lg_sl ([.ref m0, .int t9, .int k9])).length) Slot.unset).toArray = ls at hl ⊢
  have hl : lv_has ls 4 [(0, .ref m0), (1, .int t9), (2, .int k9)] := hl
  refine lv_aload_n hx hb dM_lackOfKey_0 rfl (lv_at hl 0 rfl) ?_
  refine lv_iload_n hx hb dM_lackOfKey_1 rfl (lv_at hl 1 rfl) ?_
  have hPc := hP.sub (ws' := [(m0, .inr (4, [.int 0, .ref md, .int 0, .int (-1), .int 0, .ref mh, .ref mn, .ref mc, .int 0, .int 1, .int 0, .int 0, .ref mo, .ref mb, .ref mk, .ref ml, .ref ms, .ref mw])), (mo, .inl (cZ, 3, .inl (fun _ => 0)))]) [0, 1] rfl
  refine vp_callSi (W.runV (C := "LoggedStoreModel") (b := m0) (As := [.int t9]) (rest := []) ⟨hx, hb, hml, hown, hw⟩ (c_lackOf l dC dI cI cZ cJ cT m0 md mh mn mc mo mb mk ml ms mw t9) ⟨callB_of 1 hw (gA0 w689) rfl rfl rfl (hw _ w45) (hw _ w686) (by decide +kernel) ⟨Nat.le_of_ble_eq_true rfl, Nat.le_of_ble_eq_true rfl⟩, (hw _ w688), (hw _ w22)⟩ ⟨kb_S, va_recv (ci := 4) (q0 := 0) hK hP rfl rfl, fun U hU hW => ⟨rfl, by rw [hU]; exact hPc, hKK.moved hW⟩⟩ rfl rfl hl.1 rfl (lv_room (Nat.le_of_ble_eq_true rfl)) dM_lackOfKey_2 ⟨Nat.le_of_ble_eq_true rfl, Nat.le_of_ble_eq_true rfl⟩) (fun r1 e2 => ?_)
  obtain rfl : r1 = 2 := e2
  refine lv_istore_n hx hb dM_lackOfKey_5 rfl hl (by decide) rfl (fun ls hl => ?_)
  have hl : lv_has ls 4 [(3, .int 2), (0, .ref m0), (1, .int t9), (2, .int k9)] := hl
  refine lv_iload_n hx hb dM_lackOfKey_6 rfl (lv_at hl 0 rfl) ?_
  refine lv_if_le (tgt := 14) hx hb dM_lackOfKey_7 (by decide) (fun h9 => absurd h9 (by decide)) (fun _ => ?_)
  refine lv_iload_n hx hb dM_lackOfKey_10 rfl (lv_at hl 0 rfl) ?_
  refine lv_goto (tgt := 29) hx hb dM_lackOfKey_11 (by decide) ?_
  exact W.iret (v := 2) hx hb hr (fun t ht hW => ⟨2, rfl, rfl, ht⟩) (fun q h => by cases h) dM_lackOfKey_29

set_option maxHeartbeats 4000000 in
set_option maxRecDepth 100000 in
theorem c_M_get (l : Launch) (dC : Nat → ClassId) (dI : Nat → Nat → Nat) (cI cZ cJ cT : ClassId) (m0 md mh mn mc mo mb mk ml ms mw : Nat) (t9 k9 : Int32) (sz : Nat) : Met l yM_get (Cond.code yM_get cM_get 3 (some .int) :: wsA) ({ frames := 3, cells := 0, slots := 0, locals := 66 }) (va_Pc [.ref m0, .int t9, .int k9] (fun U => U.heap.size = sz ∧ va_P (dC, dI) vwC [(m0, .inr (4, [.int 0, .ref md, .int 0, .int (-1), .int 0, .ref mh, .ref mn, .ref mc, .int 0, .int 1, .int 0, .int 0, .ref mo, .ref mb, .ref mk, .ref ml, .ref ms, .ref mw])), (mo, .inl (cZ, 3, .inl (fun _ => 0)))] U.heap ∧ KK dC dI cI cZ cJ cT U ∧ va_D (fun _ => True) [(m0, .inr (4, [.int 0, .ref md, .int 0, .int (-1), .int 0, .ref mh, .ref mn, .ref mc, .int 0, .int 1, .int 0, .int 0, .ref mo, .ref mb, .ref mk, .ref ml, .ref ms, .ref mw])), (mo, .inl (cZ, 3, .inl (fun _ => 0)))])) (va_Qi (S := Nat → Nat) (fun r _ => r = 0) (fun u t => va_P (dC, dI) vwC [(m0, .inr (4, [.int 2, .ref md, .int 0, .int (-1), .int 0, .ref mh, .ref mn, .ref mc, .int 0, .int 1, .int 0, .int 0, .ref mo, .ref mb, .ref mk, .ref ml, .ref ms, .ref mw]))] t.heap ∧ va_D (va_A [(m0, .inr (4, [.int 0, .ref md, .int 0, .int (-1), .int 0, .ref mh, .ref mn, .ref mc, .int 0, .int 1, .int 0, .int 0, .ref mo, .ref mb, .ref mk, .ref ml, .ref ms, .ref mw])), (mo, .inl (cZ, 3, .inl (fun _ => 0)))] sz) [(m0, .inr (4, [.int 2, .ref md, .int 0, .int (-1), .int 0, .ref mh, .ref mn, .ref mc, .int 0, .int 1, .int 0, .int 0, .ref mo, .ref mb, .ref mk, .ref ml, .ref ms, .ref mw]))]) (va_A [(m0, .inr (4, [.int 0, .ref md, .int 0, .int (-1), .int 0, .ref mh, .ref mn, .ref mc, .int 0, .int 1, .int 0, .int 0, .ref mo, .ref mb, .ref mk, .ref ml, .ref ms, .ref mw])), (mo, .inl (cZ, 3, .inl (fun _ => 0)))] sz)) 0 0 (va_A [(m0, .inr (4, [.int 0, .ref md, .int 0, .int (-1), .int 0, .ref mh, .ref mn, .ref mc, .int 0, .int 1, .int 0, .int 0, .ref mo, .ref mb, .ref mk, .ref ml, .ref ms, .ref mw])), (mo, .inl (cZ, 3, .inl (fun _ => 0)))] sz) := by
  refine Met.ofW (cc := cM_get) (maxL := 3) (ret := (some .int)) (by decide) rfl ?_
  intro p e s m args below meth c s₁ B hml hv
  obtain ⟨rfl, hsz, hP, hKK, hD0⟩ := hv
  have hK := hKK.1
  have hx := B.exec
  have hb := B.bytes
  have hr := B.returns
  have hw : ∀ w ∈ wsA, w.before _ s = true := fun w h => atoms_spec (ws := (Cond.code yM_get cM_get 3 (some .int) :: wsA)) B.pre w (List.mem_cons_of_mem _ h)
  have hown : s.vm.findClass "LoggedStoreModel" = some m.cls := findClass_of_methodNamed B.named
  have hlocks := B.notSynchronized
  subst hsz
  have hD := hD0.self (sz := s.heap.size)
  generalize hAe : va_A [(m0, .inr (4, [.int 0, .ref md, .int 0, .int (-1), .int 0, .ref mh, .ref mn, .ref mc, .int 0, .int 1, .int 0, .int 0, .ref mo, .ref mb, .ref mk, .ref ml, .ref ms, .ref mw])), (mo, .inl (cZ, 3, .inl (fun _ => 0)))] s.heap.size = A at hD ⊢
  have hA : ∀ q : Nat, s.heap.size ≤ q → A q := fun q h => by rw [← hAe]; exact Or.inr h
  have hS : va_S A s.heap s.heap [] := va_S.rf
  have hl := lv_entry ([.ref m0, .int t9, .int k9]) (n := 3) (Nat.le_of_ble_eq_true rfl)
  rw [lg_entry_eq]
  generalize (lg_sl ([.ref m0, .int t9, .int k9]) ++ List.replicate (3 - (lg_sl ([.ref m0, .int t9, .int k9])).length) Slot.unset).toArray = ls at hl ⊢
  have hl : lv_has ls 3 [(0, .ref m0), (1, .int t9), (2, .int k9)] := hl
  refine lv_aload_n hx hb dM_get_0 rfl (lv_at hl 0 rfl) ?_
  refine lv_aload_n hx hb dM_get_1 rfl (lv_at hl 0 rfl) ?_
  refine lv_iload_n hx hb dM_get_2 rfl (lv_at hl 1 rfl) ?_
  refine lv_iload_n hx hb dM_get_3 rfl (lv_at hl 2 rfl) ?_
  have hPc := hP.sub (ws' := [(m0, .inr (4, [.int 0, .ref md, .int 0, .int (-1), .int 0, .ref mh, .ref mn, .ref mc, .int 0, .int 1, .int 0, .int 0, .ref mo, .ref mb, .ref mk, .ref ml, .ref ms, .ref mw])), (mo, .inl (cZ, 3, .inl (fun _ => 0)))]) [0, 1] rfl
  refine vp_callSi (W.runV (C := "LoggedStoreModel") (b := m0) (As := [.int t9, .int k9]) (rest := [.ref m0]) ⟨hx, hb, hml, hown, hw⟩ (c_lackOfKey l dC dI cI cZ cJ cT m0 md mh mn mc mo mb mk ml ms mw t9 k9) ⟨callB_of 2 hw (gA0 w685) rfl rfl rfl (hw _ w45) (hw _ w682) (by decide +kernel) ⟨Nat.le_of_ble_eq_true rfl, Nat.le_of_ble_eq_true rfl⟩, (hw _ w684), (hw _ w21)⟩ ⟨kb_S, va_recv (ci := 4) (q0 := 0) hK hP rfl rfl, fun U hU hW => ⟨rfl, by rw [hU]; exact hPc, hKK.moved hW⟩⟩ rfl rfl hl.1 rfl (lv_room (Nat.le_of_ble_eq_true rfl)) dM_get_4 ⟨Nat.le_of_ble_eq_true rfl, Nat.le_of_ble_eq_true rfl⟩) (fun r1 e2 => ?_)
  obtain rfl : r1 = 2 := e2
  refine va_put (D := (dC, dI)) (ci := 4) (v := .int 2) (ty := .int) (C := "LoggedStoreModel") (T := uM) (N := 18) hx hb hw inM tyM tyM_ok nmM hown hK hP hD hS 0 rfl rfl 0 (by decide) (hw _ w612) (fun _ h9 => h9) rfl (by decide +kernel) rfl rfl (Nat.le_of_ble_eq_true rfl) dM_get_7 (fun H locs hP hD hS => ?_)
  have hP : va_P (dC, dI) vwC [(m0, .inr (4, [.int 2, .ref md, .int 0, .int (-1), .int 0, .ref mh, .ref mn, .ref mc, .int 0, .int 1, .int 0, .int 0, .ref mo, .ref mb, .ref mk, .ref ml, .ref ms, .ref mw])), (mo, .inl (cZ, 3, .inl (fun _ => 0)))] H := hP
  have hD : va_D A [(m0, .inr (4, [.int 2, .ref md, .int 0, .int (-1), .int 0, .ref mh, .ref mn, .ref mc, .int 0, .int 1, .int 0, .int 0, .ref mo, .ref mb, .ref mk, .ref ml, .ref ms, .ref mw])), (mo, .inl (cZ, 3, .inl (fun _ => 0)))] := hD
  refine lv_aload_n hx hb dM_get_10 rfl (lv_at hl 0 rfl) ?_
  refine va_get (D := (dC, dI)) (ci := 4) (v := .int 2) (C := "LoggedStoreModel") (T := uM) (N := 18) hx hb hw inM hown hK hP 0 rfl rfl 0 (by decide) (hw _ w612) (fun _ h9 => h9) rfl dM_get_11 ?_
  refine lv_if_ne (tgt := 31) hx hb dM_get_14 (by decide) (fun _ => ?_) (fun h9 => absurd h9 (by decide))
  refine lv_aload_n hx hb dM_get_31 rfl (lv_at hl 0 rfl) ?_
  refine va_get (D := (dC, dI)) (ci := 4) (v := .int 2) (C := "LoggedStoreModel") (T := uM) (N := 18) hx hb hw inM hown hK hP 0 rfl rfl 0 (by decide) (hw _ w612) (fun _ h9 => h9) rfl dM_get_32 ?_
  refine lv_if_le (tgt := 42) hx hb dM_get_35 (by decide) (fun h9 => absurd h9 (by decide)) (fun _ => ?_)
  refine lv_iconst (v := 0) hx hb dM_get_38 (by decide) ?_
  refine lv_goto (tgt := 82) hx hb dM_get_39 (by decide) ?_
  have hP9 := hP.sub (ws' := [(m0, .inr (4, [.int 2, .ref md, .int 0, .int (-1), .int 0, .ref mh, .ref mn, .ref mc, .int 0, .int 1, .int 0, .int 0, .ref mo, .ref mb, .ref mk, .ref ml, .ref ms, .ref mw]))]) [0] rfl
  have hD9 := hD.sub (ws' := [(m0, .inr (4, [.int 2, .ref md, .int 0, .int (-1), .int 0, .ref mh, .ref mn, .ref mc, .int 0, .int 1, .int 0, .int 0, .ref mo, .ref mb, .ref mk, .ref ml, .ref ms, .ref mw]))]) [0] (by decide) rfl
  refine W.widen (k := 0) (n := 0) (by decide) (by decide) ?_
  exact W.iret (v := 0) hx hb hr (fun t ht hW => ⟨⟨0, fun _ => 0, rfl, rfl, by rw [ht]; exact hP9, hD9⟩, hS.F ht⟩) hS.2.2 dM_get_82

set_option maxHeartbeats 4000000 in
set_option maxRecDepth 100000 in
theorem c_M_put (l : Launch) (dC : Nat → ClassId) (dI : Nat → Nat → Nat) (cI cZ cJ cT : ClassId) (m0 md mh mn mc mo mb mk ml ms mw : Nat) (t9 k9 n9 : Int32) (sz : Nat) : Met l yM_put (Cond.code yM_put cM_put 5 (some .boolean) :: wsA) ({ frames := 3, cells := 0, slots := 0, locals := 66 }) (va_Pc [.ref m0, .int t9, .int k9, .int n9] (fun U => U.heap.size = sz ∧ va_P (dC, dI) vwC [(m0, .inr (4, [.int 0, .ref md, .int 0, .int (-1), .int 0, .ref mh, .ref mn, .ref mc, .int 0, .int 1, .int 0, .int 0, .ref mo, .ref mb, .ref mk, .ref ml, .ref ms, .ref mw])), (mo, .inl (cZ, 3, .inl (fun _ => 0)))] U.heap ∧ KK dC dI cI cZ cJ cT U ∧ va_D (fun _ => True) [(m0, .inr (4, [.int 0, .ref md, .int 0, .int (-1), .int 0, .ref mh, .ref mn, .ref mc, .int 0, .int 1, .int 0, .int 0, .ref mo, .ref mb, .ref mk, .ref ml, .ref ms, .ref mw])), (mo, .inl (cZ, 3, .inl (fun _ => 0)))])) (va_Qi (S := Nat → Nat) (fun r _ => r = 0) (fun u t => va_P (dC, dI) vwC [(m0, .inr (4, [.int 2, .ref md, .int 0, .int (-1), .int 0, .ref mh, .ref mn, .ref mc, .int 0, .int 1, .int 0, .int 0, .ref mo, .ref mb, .ref mk, .ref ml, .ref ms, .ref mw]))] t.heap ∧ va_D (va_A [(m0, .inr (4, [.int 0, .ref md, .int 0, .int (-1), .int 0, .ref mh, .ref mn, .ref mc, .int 0, .int 1, .int 0, .int 0, .ref mo, .ref mb, .ref mk, .ref ml, .ref ms, .ref mw])), (mo, .inl (cZ, 3, .inl (fun _ => 0)))] sz) [(m0, .inr (4, [.int 2, .ref md, .int 0, .int (-1), .int 0, .ref mh, .ref mn, .ref mc, .int 0, .int 1, .int 0, .int 0, .ref mo, .ref mb, .ref mk, .ref ml, .ref ms, .ref mw]))]) (va_A [(m0, .inr (4, [.int 0, .ref md, .int 0, .int (-1), .int 0, .ref mh, .ref mn, .ref mc, .int 0, .int 1, .int 0, .int 0, .ref mo, .ref mb, .ref mk, .ref ml, .ref ms, .ref mw])), (mo, .inl (cZ, 3, .inl (fun _ => 0)))] sz)) 0 0 (va_A [(m0, .inr (4, [.int 0, .ref md, .int 0, .int (-1), .int 0, .ref mh, .ref mn, .ref mc, .int 0, .int 1, .int 0, .int 0, .ref mo, .ref mb, .ref mk, .ref ml, .ref ms, .ref mw])), (mo, .inl (cZ, 3, .inl (fun _ => 0)))] sz) := by
  refine Met.ofW (cc := cM_put) (maxL := 5) (ret := (some .boolean)) (by decide) rfl ?_
  intro p e s m args below meth c s₁ B hml hv
  obtain ⟨rfl, hsz, hP, hKK, hD0⟩ := hv
  have hK := hKK.1
  have hx := B.exec
  have hb := B.bytes
  have hr := B.returns
  have hw : ∀ w ∈ wsA, w.before _ s = true := fun w h => atoms_spec (ws := (Cond.code yM_put cM_put 5 (some .boolean) :: wsA)) B.pre w (List.mem_cons_of_mem _ h)
  have hown : s.vm.findClass "LoggedStoreModel" = some m.cls := findClass_of_methodNamed B.named
  have hlocks := B.notSynchronized
  subst hsz
  have hD := hD0.self (sz := s.heap.size)
  generalize hAe : va_A [(m0, .inr (4, [.int 0, .ref md, .int 0, .int (-1), .int 0, .ref mh, .ref mn, .ref mc, .int 0, .int 1, .int 0, .int 0, .ref mo, .ref mb, .ref mk, .ref ml, .ref ms, .ref mw])), (mo, .inl (cZ, 3, .inl (fun _ => 0)))] s.heap.size = A at hD ⊢
  have hA : ∀ q : Nat, s.heap.size ≤ q → A q := fun q h => by rw [← hAe]; exact Or.inr h
  have hS : va_S A s.heap s.heap [] := va_S.rf
  have hl := lv_entry ([.ref m0, .int t9, .int k9, .int n9]) (n := 5) (Nat.le_of_ble_eq_true rfl)
  rw [lg_entry_eq]
  generalize (lg_sl ([.ref m0, .int t9, .int k9, .int n9]) ++ List.replicate (5 - (lg_sl ([.ref m0, .int t9, .int k9, .int n9])).length) Slot.unset).toArray = ls at hl ⊢
  have hl : lv_has ls 5 [(0, .ref m0), (1, .int t9), (2, .int k9), (3, .int n9)] := hl
  refine lv_aload_n hx hb dM_put_0 rfl (lv_at hl 0 rfl) ?_
  refine lv_aload_n hx hb dM_put_1 rfl (lv_at hl 0 rfl) ?_
  refine lv_iload_n hx hb dM_put_2 rfl (lv_at hl 1 rfl) ?_
  refine lv_iload_n hx hb dM_put_3 rfl (lv_at hl 2 rfl) ?_
  have hPc := hP.sub (ws' := [(m0, .inr (4, [.int 0, .ref md, .int 0, .int (-1), .int 0, .ref mh, .ref mn, .ref mc, .int 0, .int 1, .int 0, .int 0, .ref mo, .ref mb, .ref mk, .ref ml, .ref ms, .ref mw])), (mo, .inl (cZ, 3, .inl (fun _ => 0)))]) [0, 1] rfl
  refine vp_callSi (W.runV (C := "LoggedStoreModel") (b := m0) (As := [.int t9, .int k9]) (rest := [.ref m0]) ⟨hx, hb, hml, hown, hw⟩ (c_lackOfKey l dC dI cI cZ cJ cT m0 md mh mn mc mo mb mk ml ms mw t9 k9) ⟨callB_of 2 hw (gA0 w685) rfl rfl rfl (hw _ w45) (hw _ w682) (by decide +kernel) ⟨Nat.le_of_ble_eq_true rfl, Nat.le_of_ble_eq_true rfl⟩, (hw _ w684), (hw _ w21)⟩ ⟨kb_S, va_recv (ci := 4) (q0 := 0) hK hP rfl rfl, fun U hU hW => ⟨rfl, by rw [hU]; exact hPc, hKK.moved hW⟩⟩ rfl rfl hl.1 rfl (lv_room (Nat.le_of_ble_eq_true rfl)) dM_put_4 ⟨Nat.le_of_ble_eq_true rfl, Nat.le_of_ble_eq_true rfl⟩) (fun r1 e2 => ?_)
  obtain rfl : r1 = 2 := e2
  refine va_put (D := (dC, dI)) (ci := 4) (v := .int 2) (ty := .int) (C := "LoggedStoreModel") (T := uM) (N := 18) hx hb hw inM tyM tyM_ok nmM hown hK hP hD hS 0 rfl rfl 0 (by decide) (hw _ w612) (fun _ h9 => h9) rfl (by decide +kernel) rfl rfl (Nat.le_of_ble_eq_true rfl) dM_put_7 (fun H locs hP hD hS => ?_)
  have hP : va_P (dC, dI) vwC [(m0, .inr (4, [.int 2, .ref md, .int 0, .int (-1), .int 0, .ref mh, .ref mn, .ref mc, .int 0, .int 1, .int 0, .int 0, .ref mo, .ref mb, .ref mk, .ref ml, .ref ms, .ref mw])), (mo, .inl (cZ, 3, .inl (fun _ => 0)))] H := hP
  have hD : va_D A [(m0, .inr (4, [.int 2, .ref md, .int 0, .int (-1), .int 0, .ref mh, .ref mn, .ref mc, .int 0, .int 1, .int 0, .int 0, .ref mo, .ref mb, .ref mk, .ref ml, .ref ms, .ref mw])), (mo, .inl (cZ, 3, .inl (fun _ => 0)))] := hD
  refine lv_aload_n hx hb dM_put_10 rfl (lv_at hl 0 rfl) ?_
  refine va_get (D := (dC, dI)) (ci := 4) (v := .int 2) (C := "LoggedStoreModel") (T := uM) (N := 18) hx hb hw inM hown hK hP 0 rfl rfl 0 (by decide) (hw _ w612) (fun _ h9 => h9) rfl dM_put_11 ?_
  refine lv_if_le (tgt := 19) hx hb dM_put_14 (by decide) (fun h9 => absurd h9 (by decide)) (fun _ => ?_)
  refine lv_iconst (v := 0) hx hb dM_put_17 (by decide) ?_
  have hP9 := hP.sub (ws' := [(m0, .inr (4, [.int 2, .ref md, .int 0, .int (-1), .int 0, .ref mh, .ref mn, .ref mc, .int 0, .int 1, .int 0, .int 0, .ref mo, .ref mb, .ref mk, .ref ml, .ref ms, .ref mw]))]) [0] rfl
  have hD9 := hD.sub (ws' := [(m0, .inr (4, [.int 2, .ref md, .int 0, .int (-1), .int 0, .ref mh, .ref mn, .ref mc, .int 0, .int 1, .int 0, .int 0, .ref mo, .ref mb, .ref mk, .ref ml, .ref ms, .ref mw]))]) [0] (by decide) rfl
  refine W.widen (k := 0) (n := 0) (by decide) (by decide) ?_
  exact W.zret (v := 0) (ty := .boolean) hx hb hr (by decide) (fun t ht hW => ⟨⟨0, fun _ => 0, rfl, rfl, by rw [ht]; exact hP9, hD9⟩, hS.F ht⟩) hS.2.2 dM_put_18

set_option maxHeartbeats 4000000 in
set_option maxRecDepth 100000 in
theorem c_M_remove (l : Launch) (dC : Nat → ClassId) (dI : Nat → Nat → Nat) (cI cZ cJ cT : ClassId) (m0 md mh mn mc mo mb mk ml ms mw : Nat) (t9 k9 : Int32) (sz : Nat) : Met l yM_remove (Cond.code yM_remove cM_remove 3 none :: wsA) ({ frames := 3, cells := 0, slots := 0, locals := 66 }) (va_Pc [.ref m0, .int t9, .int k9] (fun U => U.heap.size = sz ∧ va_P (dC, dI) vwC [(m0, .inr (4, [.int 0, .ref md, .int 0, .int (-1), .int 0, .ref mh, .ref mn, .ref mc, .int 0, .int 1, .int 0, .int 0, .ref mo, .ref mb, .ref mk, .ref ml, .ref ms, .ref mw])), (mo, .inl (cZ, 3, .inl (fun _ => 0)))] U.heap ∧ KK dC dI cI cZ cJ cT U ∧ va_D (fun _ => True) [(m0, .inr (4, [.int 0, .ref md, .int 0, .int (-1), .int 0, .ref mh, .ref mn, .ref mc, .int 0, .int 1, .int 0, .int 0, .ref mo, .ref mb, .ref mk, .ref ml, .ref ms, .ref mw])), (mo, .inl (cZ, 3, .inl (fun _ => 0)))])) (va_Qv (S := Nat → Nat) (fun _ => True) (fun u t => va_P (dC, dI) vwC [(m0, .inr (4, [.int 2, .ref md, .int 0, .int (-1), .int 0, .ref mh, .ref mn, .ref mc, .int 0, .int 1, .int 0, .int 0, .ref mo, .ref mb, .ref mk, .ref ml, .ref ms, .ref mw]))] t.heap ∧ va_D (va_A [(m0, .inr (4, [.int 0, .ref md, .int 0, .int (-1), .int 0, .ref mh, .ref mn, .ref mc, .int 0, .int 1, .int 0, .int 0, .ref mo, .ref mb, .ref mk, .ref ml, .ref ms, .ref mw])), (mo, .inl (cZ, 3, .inl (fun _ => 0)))] sz) [(m0, .inr (4, [.int 2, .ref md, .int 0, .int (-1), .int 0, .ref mh, .ref mn, .ref mc, .int 0, .int 1, .int 0, .int 0, .ref mo, .ref mb, .ref mk, .ref ml, .ref ms, .ref mw]))]) (va_A [(m0, .inr (4, [.int 0, .ref md, .int 0, .int (-1), .int 0, .ref mh, .ref mn, .ref mc, .int 0, .int 1, .int 0, .int 0, .ref mo, .ref mb, .ref mk, .ref ml, .ref ms, .ref mw])), (mo, .inl (cZ, 3, .inl (fun _ => 0)))] sz)) 0 0 (va_A [(m0, .inr (4, [.int 0, .ref md, .int 0, .int (-1), .int 0, .ref mh, .ref mn, .ref mc, .int 0, .int 1, .int 0, .int 0, .ref mo, .ref mb, .ref mk, .ref ml, .ref ms, .ref mw])), (mo, .inl (cZ, 3, .inl (fun _ => 0)))] sz) := by
  refine Met.ofW (cc := cM_remove) (maxL := 3) (ret := none) (by decide) rfl ?_
  intro p e s m args below meth c s₁ B hml hv
  obtain ⟨rfl, hsz, hP, hKK, hD0⟩ := hv
  have hK := hKK.1
  have hx := B.exec
  have hb := B.bytes
  have hr := B.returns
  have hw : ∀ w ∈ wsA, w.before _ s = true := fun w h => atoms_spec (ws := (Cond.code yM_remove cM_remove 3 none :: wsA)) B.pre w (List.mem_cons_of_mem _ h)
  have hown : s.vm.findClass "LoggedStoreModel" = some m.cls := findClass_of_methodNamed B.named
  have hlocks := B.notSynchronized
  subst hsz
  have hD := hD0.self (sz := s.heap.size)
  generalize hAe : va_A [(m0, .inr (4, [.int 0, .ref md, .int 0, .int (-1), .int 0, .ref mh, .ref mn, .ref mc, .int 0, .int 1, .int 0, .int 0, .ref mo, .ref mb, .ref mk, .ref ml, .ref ms, .ref mw])), (mo, .inl (cZ, 3, .inl (fun _ => 0)))] s.heap.size = A at hD ⊢
  have hA : ∀ q : Nat, s.heap.size ≤ q → A q := fun q h => by rw [← hAe]; exact Or.inr h
  have hS : va_S A s.heap s.heap [] := va_S.rf
  have hl := lv_entry ([.ref m0, .int t9, .int k9]) (n := 3) (Nat.le_of_ble_eq_true rfl)
  rw [lg_entry_eq]
  generalize (lg_sl ([.ref m0, .int t9, .int k9]) ++ List.replicate (3 - (lg_sl ([.ref m0, .int t9, .int k9])).length) Slot.unset).toArray = ls at hl ⊢
  have hl : lv_has ls 3 [(0, .ref m0), (1, .int t9), (2, .int k9)] := hl
  refine lv_aload_n hx hb dM_remove_0 rfl (lv_at hl 0 rfl) ?_
  refine lv_aload_n hx hb dM_remove_1 rfl (lv_at hl 0 rfl) ?_
  refine lv_iload_n hx hb dM_remove_2 rfl (lv_at hl 1 rfl) ?_
  refine lv_iload_n hx hb dM_remove_3 rfl (lv_at hl 2 rfl) ?_
  have hPc := hP.sub (ws' := [(m0, .inr (4, [.int 0, .ref md, .int 0, .int (-1), .int 0, .ref mh, .ref mn, .ref mc, .int 0, .int 1, .int 0, .int 0, .ref mo, .ref mb, .ref mk, .ref ml, .ref ms, .ref mw])), (mo, .inl (cZ, 3, .inl (fun _ => 0)))]) [0, 1] rfl
  refine vp_callSi (W.runV (C := "LoggedStoreModel") (b := m0) (As := [.int t9, .int k9]) (rest := [.ref m0]) ⟨hx, hb, hml, hown, hw⟩ (c_lackOfKey l dC dI cI cZ cJ cT m0 md mh mn mc mo mb mk ml ms mw t9 k9) ⟨callB_of 2 hw (gA0 w685) rfl rfl rfl (hw _ w45) (hw _ w682) (by decide +kernel) ⟨Nat.le_of_ble_eq_true rfl, Nat.le_of_ble_eq_true rfl⟩, (hw _ w684), (hw _ w21)⟩ ⟨kb_S, va_recv (ci := 4) (q0 := 0) hK hP rfl rfl, fun U hU hW => ⟨rfl, by rw [hU]; exact hPc, hKK.moved hW⟩⟩ rfl rfl hl.1 rfl (lv_room (Nat.le_of_ble_eq_true rfl)) dM_remove_4 ⟨Nat.le_of_ble_eq_true rfl, Nat.le_of_ble_eq_true rfl⟩) (fun r1 e2 => ?_)
  obtain rfl : r1 = 2 := e2
  refine va_put (D := (dC, dI)) (ci := 4) (v := .int 2) (ty := .int) (C := "LoggedStoreModel") (T := uM) (N := 18) hx hb hw inM tyM tyM_ok nmM hown hK hP hD hS 0 rfl rfl 0 (by decide) (hw _ w612) (fun _ h9 => h9) rfl (by decide +kernel) rfl rfl (Nat.le_of_ble_eq_true rfl) dM_remove_7 (fun H locs hP hD hS => ?_)
  have hP : va_P (dC, dI) vwC [(m0, .inr (4, [.int 2, .ref md, .int 0, .int (-1), .int 0, .ref mh, .ref mn, .ref mc, .int 0, .int 1, .int 0, .int 0, .ref mo, .ref mb, .ref mk, .ref ml, .ref ms, .ref mw])), (mo, .inl (cZ, 3, .inl (fun _ => 0)))] H := hP
  have hD : va_D A [(m0, .inr (4, [.int 2, .ref md, .int 0, .int (-1), .int 0, .ref mh, .ref mn, .ref mc, .int 0, .int 1, .int 0, .int 0, .ref mo, .ref mb, .ref mk, .ref ml, .ref ms, .ref mw])), (mo, .inl (cZ, 3, .inl (fun _ => 0)))] := hD
  refine lv_aload_n hx hb dM_remove_10 rfl (lv_at hl 0 rfl) ?_
  refine va_get (D := (dC, dI)) (ci := 4) (v := .int 2) (C := "LoggedStoreModel") (T := uM) (N := 18) hx hb hw inM hown hK hP 0 rfl rfl 0 (by decide) (hw _ w612) (fun _ h9 => h9) rfl dM_remove_11 ?_
  refine lv_if_ne (tgt := 31) hx hb dM_remove_14 (by decide) (fun _ => ?_) (fun h9 => absurd h9 (by decide))
  refine lv_aload_n hx hb dM_remove_31 rfl (lv_at hl 0 rfl) ?_
  refine va_get (D := (dC, dI)) (ci := 4) (v := .int 2) (C := "LoggedStoreModel") (T := uM) (N := 18) hx hb hw inM hown hK hP 0 rfl rfl 0 (by decide) (hw _ w612) (fun _ h9 => h9) rfl dM_remove_32 ?_
  refine lv_if_ne (tgt := 50) hx hb dM_remove_35 (by decide) (fun _ => ?_) (fun h9 => absurd h9 (by decide))
  have hP9 := hP.sub (ws' := [(m0, .inr (4, [.int 2, .ref md, .int 0, .int (-1), .int 0, .ref mh, .ref mn, .ref mc, .int 0, .int 1, .int 0, .int 0, .ref mo, .ref mb, .ref mk, .ref ml, .ref ms, .ref mw]))]) [0] rfl
  have hD9 := hD.sub (ws' := [(m0, .inr (4, [.int 2, .ref md, .int 0, .int (-1), .int 0, .ref mh, .ref mn, .ref mc, .int 0, .int 1, .int 0, .int 0, .ref mo, .ref mb, .ref mk, .ref ml, .ref ms, .ref mw]))]) [0] (by decide) rfl
  refine W.widen (k := 0) (n := 0) (by decide) (by decide) ?_
  exact W.vret hx hb hr (fun t ht hW => ⟨⟨fun _ => 0, rfl, trivial, by rw [ht]; exact hP9, hD9⟩, hS.F ht⟩) hS.2.2 dM_remove_50

set_option maxHeartbeats 4000000 in
set_option maxRecDepth 100000 in
theorem c_M_next (l : Launch) (dC : Nat → ClassId) (dI : Nat → Nat → Nat) (cI cZ cJ cT : ClassId) (m0 md mh mn mc mo mb mk ml ms mw : Nat) (t9 k9 : Int32) (sz : Nat) : Met l yM_next (Cond.code yM_next cM_next 4 (some .int) :: wsA) ({ frames := 3, cells := 0, slots := 0, locals := 66 }) (va_Pc [.ref m0, .int t9, .int k9] (fun U => U.heap.size = sz ∧ va_P (dC, dI) vwC [(m0, .inr (4, [.int 0, .ref md, .int 0, .int (-1), .int 0, .ref mh, .ref mn, .ref mc, .int 0, .int 1, .int 0, .int 0, .ref mo, .ref mb, .ref mk, .ref ml, .ref ms, .ref mw])), (mo, .inl (cZ, 3, .inl (fun _ => 0)))] U.heap ∧ KK dC dI cI cZ cJ cT U ∧ va_D (fun _ => True) [(m0, .inr (4, [.int 0, .ref md, .int 0, .int (-1), .int 0, .ref mh, .ref mn, .ref mc, .int 0, .int 1, .int 0, .int 0, .ref mo, .ref mb, .ref mk, .ref ml, .ref ms, .ref mw])), (mo, .inl (cZ, 3, .inl (fun _ => 0)))])) (va_Qi (S := Nat → Nat) (fun r _ => r = 0) (fun u t => va_P (dC, dI) vwC [(m0, .inr (4, [.int 2, .ref md, .int 0, .int (-1), .int 0, .ref mh, .ref mn, .ref mc, .int 0, .int 1, .int 0, .int 0, .ref mo, .ref mb, .ref mk, .ref ml, .ref ms, .ref mw]))] t.heap ∧ va_D (va_A [(m0, .inr (4, [.int 0, .ref md, .int 0, .int (-1), .int 0, .ref mh, .ref mn, .ref mc, .int 0, .int 1, .int 0, .int 0, .ref mo, .ref mb, .ref mk, .ref ml, .ref ms, .ref mw])), (mo, .inl (cZ, 3, .inl (fun _ => 0)))] sz) [(m0, .inr (4, [.int 2, .ref md, .int 0, .int (-1), .int 0, .ref mh, .ref mn, .ref mc, .int 0, .int 1, .int 0, .int 0, .ref mo, .ref mb, .ref mk, .ref ml, .ref ms, .ref mw]))]) (va_A [(m0, .inr (4, [.int 0, .ref md, .int 0, .int (-1), .int 0, .ref mh, .ref mn, .ref mc, .int 0, .int 1, .int 0, .int 0, .ref mo, .ref mb, .ref mk, .ref ml, .ref ms, .ref mw])), (mo, .inl (cZ, 3, .inl (fun _ => 0)))] sz)) 0 0 (va_A [(m0, .inr (4, [.int 0, .ref md, .int 0, .int (-1), .int 0, .ref mh, .ref mn, .ref mc, .int 0, .int 1, .int 0, .int 0, .ref mo, .ref mb, .ref mk, .ref ml, .ref ms, .ref mw])), (mo, .inl (cZ, 3, .inl (fun _ => 0)))] sz) := by
  refine Met.ofW (cc := cM_next) (maxL := 4) (ret := (some .int)) (by decide) rfl ?_
  intro p e s m args below meth c s₁ B hml hv
  obtain ⟨rfl, hsz, hP, hKK, hD0⟩ := hv
  have hK := hKK.1
  have hx := B.exec
  have hb := B.bytes
  have hr := B.returns
  have hw : ∀ w ∈ wsA, w.before _ s = true := fun w h => atoms_spec (ws := (Cond.code yM_next cM_next 4 (some .int) :: wsA)) B.pre w (List.mem_cons_of_mem _ h)
  have hown : s.vm.findClass "LoggedStoreModel" = some m.cls := findClass_of_methodNamed B.named
  have hlocks := B.notSynchronized
  subst hsz
  have hD := hD0.self (sz := s.heap.size)
  generalize hAe : va_A [(m0, .inr (4, [.int 0, .ref md, .int 0, .int (-1), .int 0, .ref mh, .ref mn, .ref mc, .int 0, .int 1, .int 0, .int 0, .ref mo, .ref mb, .ref mk, .ref ml, .ref ms, .ref mw])), (mo, .inl (cZ, 3, .inl (fun _ => 0)))] s.heap.size = A at hD ⊢
  have hA : ∀ q : Nat, s.heap.size ≤ q → A q := fun q h => by rw [← hAe]; exact Or.inr h
  have hS : va_S A s.heap s.heap [] := va_S.rf
  have hl := lv_entry ([.ref m0, .int t9, .int k9]) (n := 4) (Nat.le_of_ble_eq_true rfl)
  rw [lg_entry_eq]
  generalize (lg_sl ([.ref m0, .int t9, .int k9]) ++ List.replicate (4 - (lg_sl ([.ref m0, .int t9, .int k9])).length) Slot.unset).toArray = ls at hl ⊢
  have hl : lv_has ls 4 [(0, .ref m0), (1, .int t9), (2, .int k9)] := hl
  refine lv_aload_n hx hb dM_next_0 rfl (lv_at hl 0 rfl) ?_
  refine lv_aload_n hx hb dM_next_1 rfl (lv_at hl 0 rfl) ?_
  refine lv_iload_n hx hb dM_next_2 rfl (lv_at hl 1 rfl) ?_
  refine lv_iload_n hx hb dM_next_3 rfl (lv_at hl 2 rfl) ?_
  have hPc := hP.sub (ws' := [(m0, .inr (4, [.int 0, .ref md, .int 0, .int (-1), .int 0, .ref mh, .ref mn, .ref mc, .int 0, .int 1, .int 0, .int 0, .ref mo, .ref mb, .ref mk, .ref ml, .ref ms, .ref mw])), (mo, .inl (cZ, 3, .inl (fun _ => 0)))]) [0, 1] rfl
  refine vp_callSi (W.runV (C := "LoggedStoreModel") (b := m0) (As := [.int t9, .int k9]) (rest := [.ref m0]) ⟨hx, hb, hml, hown, hw⟩ (c_lackOfKey l dC dI cI cZ cJ cT m0 md mh mn mc mo mb mk ml ms mw t9 k9) ⟨callB_of 2 hw (gA0 w685) rfl rfl rfl (hw _ w45) (hw _ w682) (by decide +kernel) ⟨Nat.le_of_ble_eq_true rfl, Nat.le_of_ble_eq_true rfl⟩, (hw _ w684), (hw _ w21)⟩ ⟨kb_S, va_recv (ci := 4) (q0 := 0) hK hP rfl rfl, fun U hU hW => ⟨rfl, by rw [hU]; exact hPc, hKK.moved hW⟩⟩ rfl rfl hl.1 rfl (lv_room (Nat.le_of_ble_eq_true rfl)) dM_next_4 ⟨Nat.le_of_ble_eq_true rfl, Nat.le_of_ble_eq_true rfl⟩) (fun r1 e2 => ?_)
  obtain rfl : r1 = 2 := e2
  refine va_put (D := (dC, dI)) (ci := 4) (v := .int 2) (ty := .int) (C := "LoggedStoreModel") (T := uM) (N := 18) hx hb hw inM tyM tyM_ok nmM hown hK hP hD hS 0 rfl rfl 0 (by decide) (hw _ w612) (fun _ h9 => h9) rfl (by decide +kernel) rfl rfl (Nat.le_of_ble_eq_true rfl) dM_next_7 (fun H locs hP hD hS => ?_)
  have hP : va_P (dC, dI) vwC [(m0, .inr (4, [.int 2, .ref md, .int 0, .int (-1), .int 0, .ref mh, .ref mn, .ref mc, .int 0, .int 1, .int 0, .int 0, .ref mo, .ref mb, .ref mk, .ref ml, .ref ms, .ref mw])), (mo, .inl (cZ, 3, .inl (fun _ => 0)))] H := hP
  have hD : va_D A [(m0, .inr (4, [.int 2, .ref md, .int 0, .int (-1), .int 0, .ref mh, .ref mn, .ref mc, .int 0, .int 1, .int 0, .int 0, .ref mo, .ref mb, .ref mk, .ref ml, .ref ms, .ref mw])), (mo, .inl (cZ, 3, .inl (fun _ => 0)))] := hD
  refine lv_aload_n hx hb dM_next_10 rfl (lv_at hl 0 rfl) ?_
  refine va_get (D := (dC, dI)) (ci := 4) (v := .int 2) (C := "LoggedStoreModel") (T := uM) (N := 18) hx hb hw inM hown hK hP 0 rfl rfl 0 (by decide) (hw _ w612) (fun _ h9 => h9) rfl dM_next_11 ?_
  refine lv_if_le (tgt := 19) hx hb dM_next_14 (by decide) (fun h9 => absurd h9 (by decide)) (fun _ => ?_)
  refine lv_iconst (v := 0) hx hb dM_next_17 (by decide) ?_
  have hP9 := hP.sub (ws' := [(m0, .inr (4, [.int 2, .ref md, .int 0, .int (-1), .int 0, .ref mh, .ref mn, .ref mc, .int 0, .int 1, .int 0, .int 0, .ref mo, .ref mb, .ref mk, .ref ml, .ref ms, .ref mw]))]) [0] rfl
  have hD9 := hD.sub (ws' := [(m0, .inr (4, [.int 2, .ref md, .int 0, .int (-1), .int 0, .ref mh, .ref mn, .ref mc, .int 0, .int 1, .int 0, .int 0, .ref mo, .ref mb, .ref mk, .ref ml, .ref ms, .ref mw]))]) [0] (by decide) rfl
  refine W.widen (k := 0) (n := 0) (by decide) (by decide) ?_
  exact W.iret (v := 0) hx hb hr (fun t ht hW => ⟨⟨0, fun _ => 0, rfl, rfl, by rw [ht]; exact hP9, hD9⟩, hS.F ht⟩) hS.2.2 dM_next_18

set_option maxHeartbeats 4000000 in
set_option maxRecDepth 100000 in
theorem c_M_drop (l : Launch) (dC : Nat → ClassId) (dI : Nat → Nat → Nat) (cI cZ cJ cT : ClassId) (m0 md mh mn mc mo mb mk ml ms mw : Nat) (t9 : Int32) (sz : Nat) : Met l yM_drop (Cond.code yM_drop cM_drop 2 (some .int) :: wsA) ({ frames := 2, cells := 0, slots := 0, locals := 43 }) (va_Pc [.ref m0, .int t9] (fun U => U.heap.size = sz ∧ va_P (dC, dI) vwC [(m0, .inr (4, [.int 0, .ref md, .int 0, .int (-1), .int 0, .ref mh, .ref mn, .ref mc, .int 0, .int 1, .int 0, .int 0, .ref mo, .ref mb, .ref mk, .ref ml, .ref ms, .ref mw])), (mo, .inl (cZ, 3, .inl (fun _ => 0)))] U.heap ∧ KK dC dI cI cZ cJ cT U ∧ va_D (fun _ => True) [(m0, .inr (4, [.int 0, .ref md, .int 0, .int (-1), .int 0, .ref mh, .ref mn, .ref mc, .int 0, .int 1, .int 0, .int 0, .ref mo, .ref mb, .ref mk, .ref ml, .ref ms, .ref mw])), (mo, .inl (cZ, 3, .inl (fun _ => 0)))])) (va_Qi (S := Nat → Nat) (fun r _ => r = 0) (fun u t => va_P (dC, dI) vwC [(m0, .inr (4, [.int 2, .ref md, .int 0, .int (-1), .int 0, .ref mh, .ref mn, .ref mc, .int 0, .int 1, .int 0, .int 0, .ref mo, .ref mb, .ref mk, .ref ml, .ref ms, .ref mw]))] t.heap ∧ va_D (va_A [(m0, .inr (4, [.int 0, .ref md, .int 0, .int (-1), .int 0, .ref mh, .ref mn, .ref mc, .int 0, .int 1, .int 0, .int 0, .ref mo, .ref mb, .ref mk, .ref ml, .ref ms, .ref mw])), (mo, .inl (cZ, 3, .inl (fun _ => 0)))] sz) [(m0, .inr (4, [.int 2, .ref md, .int 0, .int (-1), .int 0, .ref mh, .ref mn, .ref mc, .int 0, .int 1, .int 0, .int 0, .ref mo, .ref mb, .ref mk, .ref ml, .ref ms, .ref mw]))]) (va_A [(m0, .inr (4, [.int 0, .ref md, .int 0, .int (-1), .int 0, .ref mh, .ref mn, .ref mc, .int 0, .int 1, .int 0, .int 0, .ref mo, .ref mb, .ref mk, .ref ml, .ref ms, .ref mw])), (mo, .inl (cZ, 3, .inl (fun _ => 0)))] sz)) 0 0 (va_A [(m0, .inr (4, [.int 0, .ref md, .int 0, .int (-1), .int 0, .ref mh, .ref mn, .ref mc, .int 0, .int 1, .int 0, .int 0, .ref mo, .ref mb, .ref mk, .ref ml, .ref ms, .ref mw])), (mo, .inl (cZ, 3, .inl (fun _ => 0)))] sz) := by
  refine Met.ofW (cc := cM_drop) (maxL := 2) (ret := (some .int)) (by decide) rfl ?_
  intro p e s m args below meth c s₁ B hml hv
  obtain ⟨rfl, hsz, hP, hKK, hD0⟩ := hv
  have hK := hKK.1
  have hx := B.exec
  have hb := B.bytes
  have hr := B.returns
  have hw : ∀ w ∈ wsA, w.before _ s = true := fun w h => atoms_spec (ws := (Cond.code yM_drop cM_drop 2 (some .int) :: wsA)) B.pre w (List.mem_cons_of_mem _ h)
  have hown : s.vm.findClass "LoggedStoreModel" = some m.cls := findClass_of_methodNamed B.named
  have hlocks := B.notSynchronized
  subst hsz
  have hD := hD0.self (sz := s.heap.size)
  generalize hAe : va_A [(m0, .inr (4, [.int 0, .ref md, .int 0, .int (-1), .int 0, .ref mh, .ref mn, .ref mc, .int 0, .int 1, .int 0, .int 0, .ref mo, .ref mb, .ref mk, .ref ml, .ref ms, .ref mw])), (mo, .inl (cZ, 3, .inl (fun _ => 0)))] s.heap.size = A at hD ⊢
  have hA : ∀ q : Nat, s.heap.size ≤ q → A q := fun q h => by rw [← hAe]; exact Or.inr h
  have hS : va_S A s.heap s.heap [] := va_S.rf
  have hl := lv_entry ([.ref m0, .int t9]) (n := 2) (Nat.le_of_ble_eq_true rfl)
  rw [lg_entry_eq]
  generalize (lg_sl ([.ref m0, .int t9]) ++ List.replicate (2 - (lg_sl ([.ref m0, .int t9])).length) Slot.unset).toArray = ls at hl ⊢
  have hl : lv_has ls 2 [(0, .ref m0), (1, .int t9)] := hl
  refine lv_aload_n hx hb dM_drop_0 rfl (lv_at hl 0 rfl) ?_
  refine lv_aload_n hx hb dM_drop_1 rfl (lv_at hl 0 rfl) ?_
  refine lv_iload_n hx hb dM_drop_2 rfl (lv_at hl 1 rfl) ?_
  have hPc := hP.sub (ws' := [(m0, .inr (4, [.int 0, .ref md, .int 0, .int (-1), .int 0, .ref mh, .ref mn, .ref mc, .int 0, .int 1, .int 0, .int 0, .ref mo, .ref mb, .ref mk, .ref ml, .ref ms, .ref mw])), (mo, .inl (cZ, 3, .inl (fun _ => 0)))]) [0, 1] rfl
  refine vp_callSi (W.runV (C := "LoggedStoreModel") (b := m0) (As := [.int t9]) (rest := [.ref m0]) ⟨hx, hb, hml, hown, hw⟩ (c_lackOf l dC dI cI cZ cJ cT m0 md mh mn mc mo mb mk ml ms mw t9) ⟨callB_of 1 hw (gA0 w689) rfl rfl rfl (hw _ w45) (hw _ w686) (by decide +kernel) ⟨Nat.le_of_ble_eq_true rfl, Nat.le_of_ble_eq_true rfl⟩, (hw _ w688), (hw _ w22)⟩ ⟨kb_S, va_recv (ci := 4) (q0 := 0) hK hP rfl rfl, fun U hU hW => ⟨rfl, by rw [hU]; exact hPc, hKK.moved hW⟩⟩ rfl rfl hl.1 rfl (lv_room (Nat.le_of_ble_eq_true rfl)) dM_drop_3 ⟨Nat.le_of_ble_eq_true rfl, Nat.le_of_ble_eq_true rfl⟩) (fun r1 e2 => ?_)
  obtain rfl : r1 = 2 := e2
  refine va_put (D := (dC, dI)) (ci := 4) (v := .int 2) (ty := .int) (C := "LoggedStoreModel") (T := uM) (N := 18) hx hb hw inM tyM tyM_ok nmM hown hK hP hD hS 0 rfl rfl 0 (by decide) (hw _ w612) (fun _ h9 => h9) rfl (by decide +kernel) rfl rfl (Nat.le_of_ble_eq_true rfl) dM_drop_6 (fun H locs hP hD hS => ?_)
  have hP : va_P (dC, dI) vwC [(m0, .inr (4, [.int 2, .ref md, .int 0, .int (-1), .int 0, .ref mh, .ref mn, .ref mc, .int 0, .int 1, .int 0, .int 0, .ref mo, .ref mb, .ref mk, .ref ml, .ref ms, .ref mw])), (mo, .inl (cZ, 3, .inl (fun _ => 0)))] H := hP
  have hD : va_D A [(m0, .inr (4, [.int 2, .ref md, .int 0, .int (-1), .int 0, .ref mh, .ref mn, .ref mc, .int 0, .int 1, .int 0, .int 0, .ref mo, .ref mb, .ref mk, .ref ml, .ref ms, .ref mw])), (mo, .inl (cZ, 3, .inl (fun _ => 0)))] := hD
  refine lv_aload_n hx hb dM_drop_9 rfl (lv_at hl 0 rfl) ?_
  refine va_get (D := (dC, dI)) (ci := 4) (v := .int 2) (C := "LoggedStoreModel") (T := uM) (N := 18) hx hb hw inM hown hK hP 0 rfl rfl 0 (by decide) (hw _ w612) (fun _ h9 => h9) rfl dM_drop_10 ?_
  refine lv_if_le (tgt := 18) hx hb dM_drop_13 (by decide) (fun h9 => absurd h9 (by decide)) (fun _ => ?_)
  refine lv_iconst (v := 0) hx hb dM_drop_16 (by decide) ?_
  have hP9 := hP.sub (ws' := [(m0, .inr (4, [.int 2, .ref md, .int 0, .int (-1), .int 0, .ref mh, .ref mn, .ref mc, .int 0, .int 1, .int 0, .int 0, .ref mo, .ref mb, .ref mk, .ref ml, .ref ms, .ref mw]))]) [0] rfl
  have hD9 := hD.sub (ws' := [(m0, .inr (4, [.int 2, .ref md, .int 0, .int (-1), .int 0, .ref mh, .ref mn, .ref mc, .int 0, .int 1, .int 0, .int 0, .ref mo, .ref mb, .ref mk, .ref ml, .ref ms, .ref mw]))]) [0] (by decide) rfl
  refine W.widen (k := 0) (n := 0) (by decide) (by decide) ?_
  exact W.iret (v := 0) hx hb hr (fun t ht hW => ⟨⟨0, fun _ => 0, rfl, rfl, by rw [ht]; exact hP9, hD9⟩, hS.F ht⟩) hS.2.2 dM_drop_17

set_option maxHeartbeats 4000000 in
set_option maxRecDepth 100000 in
theorem c_M_commit (l : Launch) (dC : Nat → ClassId) (dI : Nat → Nat → Nat) (cI cZ cJ cT : ClassId) (m0 md mh mn mc mo mb mk ml ms mw : Nat) (t9 : Int32) (sz : Nat) : Met l yM_commit (Cond.code yM_commit cM_commit 3 (some .int) :: wsA) ({ frames := 2, cells := 0, slots := 0, locals := 43 }) (va_Pc [.ref m0, .int t9] (fun U => U.heap.size = sz ∧ va_P (dC, dI) vwC [(m0, .inr (4, [.int 0, .ref md, .int 0, .int (-1), .int 0, .ref mh, .ref mn, .ref mc, .int 0, .int 1, .int 0, .int 0, .ref mo, .ref mb, .ref mk, .ref ml, .ref ms, .ref mw])), (mo, .inl (cZ, 3, .inl (fun _ => 0)))] U.heap ∧ KK dC dI cI cZ cJ cT U ∧ va_D (fun _ => True) [(m0, .inr (4, [.int 0, .ref md, .int 0, .int (-1), .int 0, .ref mh, .ref mn, .ref mc, .int 0, .int 1, .int 0, .int 0, .ref mo, .ref mb, .ref mk, .ref ml, .ref ms, .ref mw])), (mo, .inl (cZ, 3, .inl (fun _ => 0)))])) (va_Qi (S := Nat → Nat) (fun r _ => r = 0) (fun u t => va_P (dC, dI) vwC [(m0, .inr (4, [.int 2, .ref md, .int 0, .int (-1), .int 0, .ref mh, .ref mn, .ref mc, .int 0, .int 1, .int 0, .int 0, .ref mo, .ref mb, .ref mk, .ref ml, .ref ms, .ref mw]))] t.heap ∧ va_D (va_A [(m0, .inr (4, [.int 0, .ref md, .int 0, .int (-1), .int 0, .ref mh, .ref mn, .ref mc, .int 0, .int 1, .int 0, .int 0, .ref mo, .ref mb, .ref mk, .ref ml, .ref ms, .ref mw])), (mo, .inl (cZ, 3, .inl (fun _ => 0)))] sz) [(m0, .inr (4, [.int 2, .ref md, .int 0, .int (-1), .int 0, .ref mh, .ref mn, .ref mc, .int 0, .int 1, .int 0, .int 0, .ref mo, .ref mb, .ref mk, .ref ml, .ref ms, .ref mw]))]) (va_A [(m0, .inr (4, [.int 0, .ref md, .int 0, .int (-1), .int 0, .ref mh, .ref mn, .ref mc, .int 0, .int 1, .int 0, .int 0, .ref mo, .ref mb, .ref mk, .ref ml, .ref ms, .ref mw])), (mo, .inl (cZ, 3, .inl (fun _ => 0)))] sz)) 0 0 (va_A [(m0, .inr (4, [.int 0, .ref md, .int 0, .int (-1), .int 0, .ref mh, .ref mn, .ref mc, .int 0, .int 1, .int 0, .int 0, .ref mo, .ref mb, .ref mk, .ref ml, .ref ms, .ref mw])), (mo, .inl (cZ, 3, .inl (fun _ => 0)))] sz) := by
  refine Met.ofW (cc := cM_commit) (maxL := 3) (ret := (some .int)) (by decide) rfl ?_
  intro p e s m args below meth c s₁ B hml hv
  obtain ⟨rfl, hsz, hP, hKK, hD0⟩ := hv
  have hK := hKK.1
  have hx := B.exec
  have hb := B.bytes
  have hr := B.returns
  have hw : ∀ w ∈ wsA, w.before _ s = true := fun w h => atoms_spec (ws := (Cond.code yM_commit cM_commit 3 (some .int) :: wsA)) B.pre w (List.mem_cons_of_mem _ h)
  have hown : s.vm.findClass "LoggedStoreModel" = some m.cls := findClass_of_methodNamed B.named
  have hlocks := B.notSynchronized
  subst hsz
  have hD := hD0.self (sz := s.heap.size)
  generalize hAe : va_A [(m0, .inr (4, [.int 0, .ref md, .int 0, .int (-1), .int 0, .ref mh, .ref mn, .ref mc, .int 0, .int 1, .int 0, .int 0, .ref mo, .ref mb, .ref mk, .ref ml, .ref ms, .ref mw])), (mo, .inl (cZ, 3, .inl (fun _ => 0)))] s.heap.size = A at hD ⊢
  have hA : ∀ q : Nat, s.heap.size ≤ q → A q := fun q h => by rw [← hAe]; exact Or.inr h
  have hS : va_S A s.heap s.heap [] := va_S.rf
  have hl := lv_entry ([.ref m0, .int t9]) (n := 3) (Nat.le_of_ble_eq_true rfl)
  rw [lg_entry_eq]
  generalize (lg_sl ([.ref m0, .int t9]) ++ List.replicate (3 - (lg_sl ([.ref m0, .int t9])).length) Slot.unset).toArray = ls at hl ⊢
  have hl : lv_has ls 3 [(0, .ref m0), (1, .int t9)] := hl
  refine lv_aload_n hx hb dM_commit_0 rfl (lv_at hl 0 rfl) ?_
  refine lv_aload_n hx hb dM_commit_1 rfl (lv_at hl 0 rfl) ?_
  refine lv_iload_n hx hb dM_commit_2 rfl (lv_at hl 1 rfl) ?_
  have hPc := hP.sub (ws' := [(m0, .inr (4, [.int 0, .ref md, .int 0, .int (-1), .int 0, .ref mh, .ref mn, .ref mc, .int 0, .int 1, .int 0, .int 0, .ref mo, .ref mb, .ref mk, .ref ml, .ref ms, .ref mw])), (mo, .inl (cZ, 3, .inl (fun _ => 0)))]) [0, 1] rfl
  refine vp_callSi (W.runV (C := "LoggedStoreModel") (b := m0) (As := [.int t9]) (rest := [.ref m0]) ⟨hx, hb, hml, hown, hw⟩ (c_lackOf l dC dI cI cZ cJ cT m0 md mh mn mc mo mb mk ml ms mw t9) ⟨callB_of 1 hw (gA0 w689) rfl rfl rfl (hw _ w45) (hw _ w686) (by decide +kernel) ⟨Nat.le_of_ble_eq_true rfl, Nat.le_of_ble_eq_true rfl⟩, (hw _ w688), (hw _ w22)⟩ ⟨kb_S, va_recv (ci := 4) (q0 := 0) hK hP rfl rfl, fun U hU hW => ⟨rfl, by rw [hU]; exact hPc, hKK.moved hW⟩⟩ rfl rfl hl.1 rfl (lv_room (Nat.le_of_ble_eq_true rfl)) dM_commit_3 ⟨Nat.le_of_ble_eq_true rfl, Nat.le_of_ble_eq_true rfl⟩) (fun r1 e2 => ?_)
  obtain rfl : r1 = 2 := e2
  refine va_put (D := (dC, dI)) (ci := 4) (v := .int 2) (ty := .int) (C := "LoggedStoreModel") (T := uM) (N := 18) hx hb hw inM tyM tyM_ok nmM hown hK hP hD hS 0 rfl rfl 0 (by decide) (hw _ w612) (fun _ h9 => h9) rfl (by decide +kernel) rfl rfl (Nat.le_of_ble_eq_true rfl) dM_commit_6 (fun H locs hP hD hS => ?_)
  have hP : va_P (dC, dI) vwC [(m0, .inr (4, [.int 2, .ref md, .int 0, .int (-1), .int 0, .ref mh, .ref mn, .ref mc, .int 0, .int 1, .int 0, .int 0, .ref mo, .ref mb, .ref mk, .ref ml, .ref ms, .ref mw])), (mo, .inl (cZ, 3, .inl (fun _ => 0)))] H := hP
  have hD : va_D A [(m0, .inr (4, [.int 2, .ref md, .int 0, .int (-1), .int 0, .ref mh, .ref mn, .ref mc, .int 0, .int 1, .int 0, .int 0, .ref mo, .ref mb, .ref mk, .ref ml, .ref ms, .ref mw])), (mo, .inl (cZ, 3, .inl (fun _ => 0)))] := hD
  refine lv_aload_n hx hb dM_commit_9 rfl (lv_at hl 0 rfl) ?_
  refine va_get (D := (dC, dI)) (ci := 4) (v := .int 2) (C := "LoggedStoreModel") (T := uM) (N := 18) hx hb hw inM hown hK hP 0 rfl rfl 0 (by decide) (hw _ w612) (fun _ h9 => h9) rfl dM_commit_10 ?_
  refine lv_if_le (tgt := 18) hx hb dM_commit_13 (by decide) (fun h9 => absurd h9 (by decide)) (fun _ => ?_)
  refine lv_iconst (v := 0) hx hb dM_commit_16 (by decide) ?_
  have hP9 := hP.sub (ws' := [(m0, .inr (4, [.int 2, .ref md, .int 0, .int (-1), .int 0, .ref mh, .ref mn, .ref mc, .int 0, .int 1, .int 0, .int 0, .ref mo, .ref mb, .ref mk, .ref ml, .ref ms, .ref mw]))]) [0] rfl
  have hD9 := hD.sub (ws' := [(m0, .inr (4, [.int 2, .ref md, .int 0, .int (-1), .int 0, .ref mh, .ref mn, .ref mc, .int 0, .int 1, .int 0, .int 0, .ref mo, .ref mb, .ref mk, .ref ml, .ref ms, .ref mw]))]) [0] (by decide) rfl
  refine W.widen (k := 0) (n := 0) (by decide) (by decide) ?_
  exact W.iret (v := 0) hx hb hr (fun t ht hW => ⟨⟨0, fun _ => 0, rfl, rfl, by rw [ht]; exact hP9, hD9⟩, hS.F ht⟩) hS.2.2 dM_commit_17

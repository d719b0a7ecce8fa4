set_option maxRecDepth 100000 in
theorem w28 : (Cond.selects "LoggedStoreModel" yM_writeChecked yM_writeChecked) ∈ wsA := List.mem_filter.mpr ⟨List.mem_of_getElem? (i := 28) rfl, rfl⟩
set_option maxRecDepth 100000 in
theorem w29 : (Cond.selects "LoggedStoreModel" yM_write yM_write) ∈ wsA := List.mem_filter.mpr ⟨List.mem_of_getElem? (i := 29) rfl, rfl⟩
set_option maxRecDepth 100000 in
theorem w30 : (Cond.selects "LoggedStoreModel" yM_putWord yM_putWord) ∈ wsA := List.mem_filter.mpr ⟨List.mem_of_getElem? (i := 30) rfl, rfl⟩
set_option maxRecDepth 100000 in
theorem w34 : (Cond.selects "LoggedStoreModel" yM_counts yM_counts) ∈ wsA := List.mem_filter.mpr ⟨List.mem_of_getElem? (i := 34) rfl, rfl⟩
set_option maxRecDepth 100000 in
theorem w35 : (Cond.selects "LoggedStoreModel" yM_isGood yM_isGood) ∈ wsA := List.mem_filter.mpr ⟨List.mem_of_getElem? (i := 35) rfl, rfl⟩
set_option maxRecDepth 100000 in
theorem w36 : (Cond.selects "LoggedStoreModel" yM_takeArea yM_takeArea) ∈ wsA := List.mem_filter.mpr ⟨List.mem_of_getElem? (i := 36) rfl, rfl⟩
set_option maxRecDepth 100000 in
theorem w37 : (Cond.selects "LoggedStoreModel" yM_takeLog yM_takeLog) ∈ wsA := List.mem_filter.mpr ⟨List.mem_of_getElem? (i := 37) rfl, rfl⟩
set_option maxRecDepth 100000 in
theorem w622 : (Cond.fieldLink "LoggedStoreModel" 121 "LoggedStoreModel" "area" "I") ∈ wsA := List.mem_filter.mpr ⟨List.mem_of_getElem? (i := 622) rfl, rfl⟩
set_option maxRecDepth 100000 in
theorem w730 : (Cond.methodLink "LoggedStoreModel" 98 yM_writeChecked) ∈ wsA := List.mem_filter.mpr ⟨List.mem_of_getElem? (i := 730) rfl, rfl⟩
set_option maxRecDepth 100000 in
theorem w732 : (Cond.instanceMethod yM_writeChecked) ∈ wsA := List.mem_filter.mpr ⟨List.mem_of_getElem? (i := 732) rfl, rfl⟩
set_option maxRecDepth 100000 in
theorem w733 : (Cond.code yM_writeChecked cM_writeChecked 5 none) ∈ wsA := List.mem_filter.mpr ⟨List.mem_of_getElem? (i := 733) rfl, rfl⟩
set_option maxRecDepth 100000 in
theorem w734 : (Cond.methodLink "LoggedStoreModel" 69 yM_write) ∈ wsA := List.mem_filter.mpr ⟨List.mem_of_getElem? (i := 734) rfl, rfl⟩
set_option maxRecDepth 100000 in
theorem w736 : (Cond.instanceMethod yM_write) ∈ wsA := List.mem_filter.mpr ⟨List.mem_of_getElem? (i := 736) rfl, rfl⟩
set_option maxRecDepth 100000 in
theorem w737 : (Cond.code yM_write cM_write 6 none) ∈ wsA := List.mem_filter.mpr ⟨List.mem_of_getElem? (i := 737) rfl, rfl⟩
set_option maxRecDepth 100000 in
theorem w738 : (Cond.methodLink "LoggedStoreModel" 65 yM_putWord) ∈ wsA := List.mem_filter.mpr ⟨List.mem_of_getElem? (i := 738) rfl, rfl⟩
set_option maxRecDepth 100000 in
theorem w740 : (Cond.instanceMethod yM_putWord) ∈ wsA := List.mem_filter.mpr ⟨List.mem_of_getElem? (i := 740) rfl, rfl⟩
set_option maxRecDepth 100000 in
theorem w741 : (Cond.code yM_putWord cM_putWord 4 none) ∈ wsA := List.mem_filter.mpr ⟨List.mem_of_getElem? (i := 741) rfl, rfl⟩
set_option maxRecDepth 100000 in
theorem w749 : (Cond.code yM_checkpoint cM_checkpoint 6 (some .int)) ∈ wsA := List.mem_filter.mpr ⟨List.mem_of_getElem? (i := 749) rfl, rfl⟩
set_option maxRecDepth 100000 in
theorem w761 : (Cond.code yM_recover cM_recover 3 (some .int)) ∈ wsA := List.mem_filter.mpr ⟨List.mem_of_getElem? (i := 761) rfl, rfl⟩
set_option maxRecDepth 100000 in
theorem w762 : (Cond.methodLink "LoggedStoreModel" 133 yM_counts) ∈ wsA := List.mem_filter.mpr ⟨List.mem_of_getElem? (i := 762) rfl, rfl⟩
set_option maxRecDepth 100000 in
theorem w764 : (Cond.instanceMethod yM_counts) ∈ wsA := List.mem_filter.mpr ⟨List.mem_of_getElem? (i := 764) rfl, rfl⟩
set_option maxRecDepth 100000 in
theorem w765 : (Cond.code yM_counts cM_counts 2 (some .boolean)) ∈ wsA := List.mem_filter.mpr ⟨List.mem_of_getElem? (i := 765) rfl, rfl⟩
set_option maxRecDepth 100000 in
theorem w766 : (Cond.methodLink "LoggedStoreModel" 127 yM_isGood) ∈ wsA := List.mem_filter.mpr ⟨List.mem_of_getElem? (i := 766) rfl, rfl⟩
set_option maxRecDepth 100000 in
theorem w768 : (Cond.instanceMethod yM_isGood) ∈ wsA := List.mem_filter.mpr ⟨List.mem_of_getElem? (i := 768) rfl, rfl⟩
set_option maxRecDepth 100000 in
theorem w769 : (Cond.code yM_isGood cM_isGood 2 (some .boolean)) ∈ wsA := List.mem_filter.mpr ⟨List.mem_of_getElem? (i := 769) rfl, rfl⟩
set_option maxRecDepth 100000 in
theorem w770 : (Cond.methodLink "LoggedStoreModel" 136 yM_takeArea) ∈ wsA := List.mem_filter.mpr ⟨List.mem_of_getElem? (i := 770) rfl, rfl⟩
set_option maxRecDepth 100000 in
theorem w772 : (Cond.instanceMethod yM_takeArea) ∈ wsA := List.mem_filter.mpr ⟨List.mem_of_getElem? (i := 772) rfl, rfl⟩
set_option maxRecDepth 100000 in
theorem w773 : (Cond.code yM_takeArea cM_takeArea 5 none) ∈ wsA := List.mem_filter.mpr ⟨List.mem_of_getElem? (i := 773) rfl, rfl⟩
set_option maxRecDepth 100000 in
theorem w774 : (Cond.methodLink "LoggedStoreModel" 139 yM_takeLog) ∈ wsA := List.mem_filter.mpr ⟨List.mem_of_getElem? (i := 774) rfl, rfl⟩
set_option maxRecDepth 100000 in
theorem w776 : (Cond.instanceMethod yM_takeLog) ∈ wsA := List.mem_filter.mpr ⟨List.mem_of_getElem? (i := 776) rfl, rfl⟩
set_option maxRecDepth 100000 in
theorem w777 : (Cond.code yM_takeLog cM_takeLog 7 none) ∈ wsA := List.mem_filter.mpr ⟨List.mem_of_getElem? (i := 777) rfl, rfl⟩
set_option maxRecDepth 100000 in
theorem w809 : (Cond.code yM_word cM_word 3 (some .int)) ∈ wsA := List.mem_filter.mpr ⟨List.mem_of_getElem? (i := 809) rfl, rfl⟩
theorem dM_word_0 : decode cM_word 0 = .ok (.aload_n 0, 1) := by decide +kernel
theorem dM_word_1 : decode cM_word 1 = .ok (.iconst 0, 1) := by decide +kernel
theorem dM_word_2 : decode cM_word 2 = .ok (.putfield 52, 3) := by decide +kernel
theorem dM_word_5 : decode cM_word 5 = .ok (.iload_n 1, 1) := by decide +kernel
theorem dM_word_6 : decode cM_word 6 = .ok (.iconst 0, 1) := by decide +kernel
theorem dM_word_7 : decode cM_word 7 = .ok (.bipush 95, 2) := by decide +kernel
theorem dM_word_9 : decode cM_word 9 = .ok (.invokestatic 73, 3) := by decide +kernel
theorem dM_word_12 : decode cM_word 12 = .ok (.ifCond .eq 25, 3) := by decide +kernel
theorem dM_word_15 : decode cM_word 15 = .ok (.iload_n 2, 1) := by decide +kernel
theorem dM_word_16 : decode cM_word 16 = .ok (.iconst 0, 1) := by decide +kernel
theorem dM_word_17 : decode cM_word 17 = .ok (.iconst 3, 1) := by decide +kernel
theorem dM_word_18 : decode cM_word 18 = .ok (.invokestatic 73, 3) := by decide +kernel
theorem dM_word_21 : decode cM_word 21 = .ok (.ifCond .eq 16, 3) := by decide +kernel
theorem dM_word_24 : decode cM_word 24 = .ok (.aload_n 0, 1) := by decide +kernel
theorem dM_word_25 : decode cM_word 25 = .ok (.getfield 7, 3) := by decide +kernel
theorem dM_word_28 : decode cM_word 28 = .ok (.iconst 4, 1) := by decide +kernel
theorem dM_word_29 : decode cM_word 29 = .ok (.iload_n 1, 1) := by decide +kernel
theorem dM_word_30 : decode cM_word 30 = .ok (.imul, 1) := by decide +kernel
theorem dM_word_31 : decode cM_word 31 = .ok (.iload_n 2, 1) := by decide +kernel
theorem dM_word_32 : decode cM_word 32 = .ok (.iadd, 1) := by decide +kernel
theorem dM_word_33 : decode cM_word 33 = .ok (.iaload, 1) := by decide +kernel
theorem dM_word_34 : decode cM_word 34 = .ok (.goto 4, 3) := by decide +kernel
theorem dM_word_37 : decode cM_word 37 = .ok (.iconst 0, 1) := by decide +kernel
theorem dM_word_38 : decode cM_word 38 = .ok (.ireturn, 1) := by decide +kernel
theorem dM_putWord_0 : decode cM_putWord 0 = .ok (.aload_n 0, 1) := by decide +kernel
theorem dM_putWord_1 : decode cM_putWord 1 = .ok (.getfield 13, 3) := by decide +kernel
theorem dM_putWord_4 : decode cM_putWord 4 = .ok (.ifCond .ne 11, 3) := by decide +kernel
theorem dM_putWord_15 : decode cM_putWord 15 = .ok (.aload_n 0, 1) := by decide +kernel
theorem dM_putWord_16 : decode cM_putWord 16 = .ok (.getfield 7, 3) := by decide +kernel
theorem dM_putWord_19 : decode cM_putWord 19 = .ok (.iconst 4, 1) := by decide +kernel
theorem dM_putWord_20 : decode cM_putWord 20 = .ok (.iload_n 1, 1) := by decide +kernel
theorem dM_putWord_21 : decode cM_putWord 21 = .ok (.imul, 1) := by decide +kernel
theorem dM_putWord_22 : decode cM_putWord 22 = .ok (.iload_n 2, 1) := by decide +kernel
theorem dM_putWord_23 : decode cM_putWord 23 = .ok (.iadd, 1) := by decide +kernel
theorem dM_putWord_24 : decode cM_putWord 24 = .ok (.iload_n 3, 1) := by decide +kernel
theorem dM_putWord_25 : decode cM_putWord 25 = .ok (.iastore, 1) := by decide +kernel
theorem dM_putWord_26 : decode cM_putWord 26 = .ok (.return_, 1) := by decide +kernel
theorem dM_write_0 : decode cM_write 0 = .ok (.aload_n 0, 1) := by decide +kernel
theorem dM_write_1 : decode cM_write 1 = .ok (.getfield 61, 3) := by decide +kernel
theorem dM_write_4 : decode cM_write 4 = .ok (.ifCond .eq 4, 3) := by decide +kernel
theorem dM_write_8 : decode cM_write 8 = .ok (.aload_n 0, 1) := by decide +kernel
theorem dM_write_9 : decode cM_write 9 = .ok (.iload_n 1, 1) := by decide +kernel
theorem dM_write_10 : decode cM_write 10 = .ok (.iconst 0, 1) := by decide +kernel
theorem dM_write_11 : decode cM_write 11 = .ok (.iload_n 2, 1) := by decide +kernel
theorem dM_write_12 : decode cM_write 12 = .ok (.invokevirtual 65, 3) := by decide +kernel
theorem dM_write_15 : decode cM_write 15 = .ok (.aload_n 0, 1) := by decide +kernel
theorem dM_write_16 : decode cM_write 16 = .ok (.iload_n 1, 1) := by decide +kernel
theorem dM_write_17 : decode cM_write 17 = .ok (.iconst 1, 1) := by decide +kernel
theorem dM_write_18 : decode cM_write 18 = .ok (.iload_n 3, 1) := by decide +kernel
theorem dM_write_19 : decode cM_write 19 = .ok (.invokevirtual 65, 3) := by decide +kernel
theorem dM_write_22 : decode cM_write 22 = .ok (.aload_n 0, 1) := by decide +kernel
theorem dM_write_23 : decode cM_write 23 = .ok (.iload_n 1, 1) := by decide +kernel
theorem dM_write_24 : decode cM_write 24 = .ok (.iconst 2, 1) := by decide +kernel
theorem dM_write_25 : decode cM_write 25 = .ok (.iload 4, 2) := by decide +kernel
theorem dM_write_27 : decode cM_write 27 = .ok (.invokevirtual 65, 3) := by decide +kernel
theorem dM_write_30 : decode cM_write 30 = .ok (.aload_n 0, 1) := by decide +kernel
theorem dM_write_31 : decode cM_write 31 = .ok (.iload_n 1, 1) := by decide +kernel
theorem dM_write_32 : decode cM_write 32 = .ok (.iconst 3, 1) := by decide +kernel
theorem dM_write_33 : decode cM_write 33 = .ok (.iload 5, 2) := by decide +kernel
theorem dM_write_35 : decode cM_write 35 = .ok (.invokevirtual 65, 3) := by decide +kernel
theorem dM_write_38 : decode cM_write 38 = .ok (.aload_n 0, 1) := by decide +kernel
theorem dM_write_39 : decode cM_write 39 = .ok (.aload_n 0, 1) := by decide +kernel
theorem dM_write_40 : decode cM_write 40 = .ok (.getfield 13, 3) := by decide +kernel
theorem dM_write_43 : decode cM_write 43 = .ok (.ifCond .ne 7, 3) := by decide +kernel
theorem dM_write_50 : decode cM_write 50 = .ok (.iconst 0, 1) := by decide +kernel
theorem dM_write_51 : decode cM_write 51 = .ok (.putfield 61, 3) := by decide +kernel
theorem dM_write_54 : decode cM_write 54 = .ok (.aload_n 0, 1) := by decide +kernel
theorem dM_write_55 : decode cM_write 55 = .ok (.aload_n 0, 1) := by decide +kernel
theorem dM_write_56 : decode cM_write 56 = .ok (.getfield 13, 3) := by decide +kernel
theorem dM_write_59 : decode cM_write 59 = .ok (.ifCond .le 12, 3) := by decide +kernel
theorem dM_write_71 : decode cM_write 71 = .ok (.aload_n 0, 1) := by decide +kernel
theorem dM_write_72 : decode cM_write 72 = .ok (.getfield 13, 3) := by decide +kernel
theorem dM_write_75 : decode cM_write 75 = .ok (.putfield 13, 3) := by decide +kernel
theorem dM_write_78 : decode cM_write 78 = .ok (.return_, 1) := by decide +kernel
theorem dM_writeChecked_0 : decode cM_writeChecked 0 = .ok (.aload_n 0, 1) := by decide +kernel
theorem dM_writeChecked_1 : decode cM_writeChecked 1 = .ok (.iload_n 1, 1) := by decide +kernel
theorem dM_writeChecked_2 : decode cM_writeChecked 2 = .ok (.iload_n 2, 1) := by decide +kernel
theorem dM_writeChecked_3 : decode cM_writeChecked 3 = .ok (.iload_n 3, 1) := by decide +kernel
theorem dM_writeChecked_4 : decode cM_writeChecked 4 = .ok (.iload 4, 2) := by decide +kernel
theorem dM_writeChecked_6 : decode cM_writeChecked 6 = .ok (.iload_n 2, 1) := by decide +kernel
theorem dM_writeChecked_7 : decode cM_writeChecked 7 = .ok (.iload_n 3, 1) := by decide +kernel
theorem dM_writeChecked_8 : decode cM_writeChecked 8 = .ok (.iload 4, 2) := by decide +kernel
theorem dM_writeChecked_10 : decode cM_writeChecked 10 = .ok (.iload_n 1, 1) := by decide +kernel
theorem dM_writeChecked_11 : decode cM_writeChecked 11 = .ok (.invokestatic 48, 3) := by decide +kernel
theorem dM_writeChecked_14 : decode cM_writeChecked 14 = .ok (.invokevirtual 69, 3) := by decide +kernel
theorem dM_writeChecked_17 : decode cM_writeChecked 17 = .ok (.return_, 1) := by decide +kernel
theorem dM_checkpoint_0 : decode cM_checkpoint 0 = .ok (.aload_n 0, 1) := by decide +kernel
theorem dM_checkpoint_1 : decode cM_checkpoint 1 = .ok (.aload_n 0, 1) := by decide +kernel
theorem dM_checkpoint_2 : decode cM_checkpoint 2 = .ok (.getfield 61, 3) := by decide +kernel
theorem dM_checkpoint_5 : decode cM_checkpoint 5 = .ok (.ifCond .eq 7, 3) := by decide +kernel
theorem dM_checkpoint_12 : decode cM_checkpoint 12 = .ok (.iconst 0, 1) := by decide +kernel
theorem dM_checkpoint_13 : decode cM_checkpoint 13 = .ok (.putfield 52, 3) := by decide +kernel
theorem dM_checkpoint_16 : decode cM_checkpoint 16 = .ok (.aload_n 0, 1) := by decide +kernel
theorem dM_checkpoint_17 : decode cM_checkpoint 17 = .ok (.getfield 52, 3) := by decide +kernel
theorem dM_checkpoint_20 : decode cM_checkpoint 20 = .ok (.ifCond .le 5, 3) := by decide +kernel
theorem dM_checkpoint_25 : decode cM_checkpoint 25 = .ok (.aload_n 0, 1) := by decide +kernel
theorem dM_checkpoint_26 : decode cM_checkpoint 26 = .ok (.invokevirtual 117, 3) := by decide +kernel
theorem dM_checkpoint_29 : decode cM_checkpoint 29 = .ok (.istore_n 1, 1) := by decide +kernel
theorem dM_checkpoint_30 : decode cM_checkpoint 30 = .ok (.iconst 1, 1) := by decide +kernel
theorem dM_checkpoint_31 : decode cM_checkpoint 31 = .ok (.aload_n 0, 1) := by decide +kernel
theorem dM_checkpoint_32 : decode cM_checkpoint 32 = .ok (.getfield 121, 3) := by decide +kernel
theorem dM_checkpoint_35 : decode cM_checkpoint 35 = .ok (.isub, 1) := by decide +kernel
theorem dM_checkpoint_36 : decode cM_checkpoint 36 = .ok (.istore_n 2, 1) := by decide +kernel
theorem dM_checkpoint_37 : decode cM_checkpoint 37 = .ok (.iconst 0, 1) := by decide +kernel
theorem dM_checkpoint_38 : decode cM_checkpoint 38 = .ok (.istore_n 3, 1) := by decide +kernel
theorem dM_checkpoint_39 : decode cM_checkpoint 39 = .ok (.iload_n 3, 1) := by decide +kernel
theorem dM_checkpoint_40 : decode cM_checkpoint 40 = .ok (.iload_n 1, 1) := by decide +kernel
theorem dM_checkpoint_41 : decode cM_checkpoint 41 = .ok (.if_icmp .ge 79, 3) := by decide +kernel
theorem dM_checkpoint_120 : decode cM_checkpoint 120 = .ok (.aload_n 0, 1) := by decide +kernel
theorem dM_checkpoint_121 : decode cM_checkpoint 121 = .ok (.aload_n 0, 1) := by decide +kernel
theorem dM_checkpoint_122 : decode cM_checkpoint 122 = .ok (.getfield 27, 3) := by decide +kernel
theorem dM_checkpoint_125 : decode cM_checkpoint 125 = .ok (.iconst 2, 1) := by decide +kernel
theorem dM_checkpoint_126 : decode cM_checkpoint 126 = .ok (.irem, 1) := by decide +kernel
theorem dM_checkpoint_127 : decode cM_checkpoint 127 = .ok (.iconst 1, 1) := by decide +kernel
theorem dM_checkpoint_128 : decode cM_checkpoint 128 = .ok (.if_icmp .ne 7, 3) := by decide +kernel
theorem dM_checkpoint_131 : decode cM_checkpoint 131 = .ok (.iconst 1, 1) := by decide +kernel
theorem dM_checkpoint_132 : decode cM_checkpoint 132 = .ok (.goto 4, 3) := by decide +kernel
theorem dM_checkpoint_136 : decode cM_checkpoint 136 = .ok (.aload_n 0, 1) := by decide +kernel
theorem dM_checkpoint_137 : decode cM_checkpoint 137 = .ok (.getfield 27, 3) := by decide +kernel
theorem dM_checkpoint_140 : decode cM_checkpoint 140 = .ok (.iconst 1, 1) := by decide +kernel
theorem dM_checkpoint_141 : decode cM_checkpoint 141 = .ok (.iadd, 1) := by decide +kernel
theorem dM_checkpoint_142 : decode cM_checkpoint 142 = .ok (.bipush 64, 2) := by decide +kernel
theorem dM_checkpoint_144 : decode cM_checkpoint 144 = .ok (.iload_n 2, 1) := by decide +kernel
theorem dM_checkpoint_145 : decode cM_checkpoint 145 = .ok (.imul, 1) := by decide +kernel
theorem dM_checkpoint_146 : decode cM_checkpoint 146 = .ok (.iload_n 1, 1) := by decide +kernel
theorem dM_checkpoint_147 : decode cM_checkpoint 147 = .ok (.iadd, 1) := by decide +kernel
theorem dM_checkpoint_148 : decode cM_checkpoint 148 = .ok (.aload_n 0, 1) := by decide +kernel
theorem dM_checkpoint_149 : decode cM_checkpoint 149 = .ok (.getfield 81, 3) := by decide +kernel
theorem dM_checkpoint_152 : decode cM_checkpoint 152 = .ok (.invokevirtual 98, 3) := by decide +kernel
theorem dM_checkpoint_155 : decode cM_checkpoint 155 = .ok (.aload_n 0, 1) := by decide +kernel
theorem dM_checkpoint_156 : decode cM_checkpoint 156 = .ok (.getfield 61, 3) := by decide +kernel
theorem dM_checkpoint_159 : decode cM_checkpoint 159 = .ok (.ifCond .eq 10, 3) := by decide +kernel
theorem dM_checkpoint_169 : decode cM_checkpoint 169 = .ok (.aload_n 0, 1) := by decide +kernel
theorem dM_checkpoint_170 : decode cM_checkpoint 170 = .ok (.dup, 1) := by decide +kernel
theorem dM_checkpoint_171 : decode cM_checkpoint 171 = .ok (.getfield 27, 3) := by decide +kernel
theorem dM_checkpoint_174 : decode cM_checkpoint 174 = .ok (.iconst 1, 1) := by decide +kernel
theorem dM_checkpoint_175 : decode cM_checkpoint 175 = .ok (.iadd, 1) := by decide +kernel
theorem dM_checkpoint_176 : decode cM_checkpoint 176 = .ok (.putfield 27, 3) := by decide +kernel
theorem dM_checkpoint_179 : decode cM_checkpoint 179 = .ok (.aload_n 0, 1) := by decide +kernel
theorem dM_checkpoint_180 : decode cM_checkpoint 180 = .ok (.iload_n 2, 1) := by decide +kernel
theorem dM_checkpoint_181 : decode cM_checkpoint 181 = .ok (.putfield 121, 3) := by decide +kernel
theorem dM_checkpoint_184 : decode cM_checkpoint 184 = .ok (.aload_n 0, 1) := by decide +kernel
theorem dM_checkpoint_185 : decode cM_checkpoint 185 = .ok (.iconst 0, 1) := by decide +kernel
theorem dM_checkpoint_186 : decode cM_checkpoint 186 = .ok (.putfield 95, 3) := by decide +kernel
theorem dM_checkpoint_189 : decode cM_checkpoint 189 = .ok (.aload_n 0, 1) := by decide +kernel
theorem dM_checkpoint_190 : decode cM_checkpoint 190 = .ok (.getfield 27, 3) := by decide +kernel
theorem dM_checkpoint_193 : decode cM_checkpoint 193 = .ok (.ireturn, 1) := by decide +kernel
theorem dM_isGood_0 : decode cM_isGood 0 = .ok (.aload_n 0, 1) := by decide +kernel
theorem dM_isGood_1 : decode cM_isGood 1 = .ok (.getfield 7, 3) := by decide +kernel
theorem dM_isGood_4 : decode cM_isGood 4 = .ok (.iconst 4, 1) := by decide +kernel
theorem dM_isGood_5 : decode cM_isGood 5 = .ok (.iload_n 1, 1) := by decide +kernel
theorem dM_isGood_6 : decode cM_isGood 6 = .ok (.imul, 1) := by decide +kernel
theorem dM_isGood_7 : decode cM_isGood 7 = .ok (.iconst 3, 1) := by decide +kernel
theorem dM_isGood_8 : decode cM_isGood 8 = .ok (.iadd, 1) := by decide +kernel
theorem dM_isGood_9 : decode cM_isGood 9 = .ok (.iaload, 1) := by decide +kernel
theorem dM_isGood_10 : decode cM_isGood 10 = .ok (.aload_n 0, 1) := by decide +kernel
theorem dM_isGood_11 : decode cM_isGood 11 = .ok (.getfield 7, 3) := by decide +kernel
theorem dM_isGood_14 : decode cM_isGood 14 = .ok (.iconst 4, 1) := by decide +kernel
theorem dM_isGood_15 : decode cM_isGood 15 = .ok (.iload_n 1, 1) := by decide +kernel
theorem dM_isGood_16 : decode cM_isGood 16 = .ok (.imul, 1) := by decide +kernel
theorem dM_isGood_17 : decode cM_isGood 17 = .ok (.iaload, 1) := by decide +kernel
theorem dM_isGood_18 : decode cM_isGood 18 = .ok (.aload_n 0, 1) := by decide +kernel
theorem dM_isGood_19 : decode cM_isGood 19 = .ok (.getfield 7, 3) := by decide +kernel
theorem dM_isGood_22 : decode cM_isGood 22 = .ok (.iconst 4, 1) := by decide +kernel
theorem dM_isGood_23 : decode cM_isGood 23 = .ok (.iload_n 1, 1) := by decide +kernel
theorem dM_isGood_24 : decode cM_isGood 24 = .ok (.imul, 1) := by decide +kernel
theorem dM_isGood_25 : decode cM_isGood 25 = .ok (.iconst 1, 1) := by decide +kernel
theorem dM_isGood_26 : decode cM_isGood 26 = .ok (.iadd, 1) := by decide +kernel
theorem dM_isGood_27 : decode cM_isGood 27 = .ok (.iaload, 1) := by decide +kernel
theorem dM_isGood_28 : decode cM_isGood 28 = .ok (.aload_n 0, 1) := by decide +kernel
theorem dM_isGood_29 : decode cM_isGood 29 = .ok (.getfield 7, 3) := by decide +kernel
theorem dM_isGood_32 : decode cM_isGood 32 = .ok (.iconst 4, 1) := by decide +kernel
theorem dM_isGood_33 : decode cM_isGood 33 = .ok (.iload_n 1, 1) := by decide +kernel
theorem dM_isGood_34 : decode cM_isGood 34 = .ok (.imul, 1) := by decide +kernel
theorem dM_isGood_35 : decode cM_isGood 35 = .ok (.iconst 2, 1) := by decide +kernel
theorem dM_isGood_36 : decode cM_isGood 36 = .ok (.iadd, 1) := by decide +kernel
theorem dM_isGood_37 : decode cM_isGood 37 = .ok (.iaload, 1) := by decide +kernel
theorem dM_isGood_38 : decode cM_isGood 38 = .ok (.iload_n 1, 1) := by decide +kernel
theorem dM_isGood_39 : decode cM_isGood 39 = .ok (.invokestatic 48, 3) := by decide +kernel
theorem dM_isGood_42 : decode cM_isGood 42 = .ok (.if_icmp .ne 7, 3) := by decide +kernel
theorem dM_isGood_45 : decode cM_isGood 45 = .ok (.iconst 1, 1) := by decide +kernel
theorem dM_isGood_46 : decode cM_isGood 46 = .ok (.goto 4, 3) := by decide +kernel
theorem dM_isGood_49 : decode cM_isGood 49 = .ok (.iconst 0, 1) := by decide +kernel
theorem dM_isGood_50 : decode cM_isGood 50 = .ok (.ireturn, 1) := by decide +kernel
theorem dM_counts_0 : decode cM_counts 0 = .ok (.aload_n 0, 1) := by decide +kernel
theorem dM_counts_1 : decode cM_counts 1 = .ok (.iload_n 1, 1) := by decide +kernel
theorem dM_counts_2 : decode cM_counts 2 = .ok (.invokevirtual 127, 3) := by decide +kernel
theorem dM_counts_5 : decode cM_counts 5 = .ok (.ifCond .eq 23, 3) := by decide +kernel
theorem dM_counts_8 : decode cM_counts 8 = .ok (.aload_n 0, 1) := by decide +kernel
theorem dM_counts_9 : decode cM_counts 9 = .ok (.getfield 7, 3) := by decide +kernel
theorem dM_counts_12 : decode cM_counts 12 = .ok (.iconst 4, 1) := by decide +kernel
theorem dM_counts_13 : decode cM_counts 13 = .ok (.iload_n 1, 1) := by decide +kernel
theorem dM_counts_14 : decode cM_counts 14 = .ok (.imul, 1) := by decide +kernel
theorem dM_counts_15 : decode cM_counts 15 = .ok (.iaload, 1) := by decide +kernel
theorem dM_counts_16 : decode cM_counts 16 = .ok (.iconst 1, 1) := by decide +kernel
theorem dM_counts_17 : decode cM_counts 17 = .ok (.iadd, 1) := by decide +kernel
theorem dM_counts_18 : decode cM_counts 18 = .ok (.iconst 1, 1) := by decide +kernel
theorem dM_counts_19 : decode cM_counts 19 = .ok (.iand, 1) := by decide +kernel
theorem dM_counts_20 : decode cM_counts 20 = .ok (.iload_n 1, 1) := by decide +kernel
theorem dM_counts_21 : decode cM_counts 21 = .ok (.if_icmp .ne 7, 3) := by decide +kernel
theorem dM_counts_24 : decode cM_counts 24 = .ok (.iconst 1, 1) := by decide +kernel
theorem dM_counts_25 : decode cM_counts 25 = .ok (.goto 4, 3) := by decide +kernel
theorem dM_counts_28 : decode cM_counts 28 = .ok (.iconst 0, 1) := by decide +kernel
theorem dM_counts_29 : decode cM_counts 29 = .ok (.ireturn, 1) := by decide +kernel
theorem dM_takeArea_0 : decode cM_takeArea 0 = .ok (.aload_n 0, 1) := by decide +kernel
theorem dM_takeArea_1 : decode cM_takeArea 1 = .ok (.aload_n 0, 1) := by decide +kernel
theorem dM_takeArea_2 : decode cM_takeArea 2 = .ok (.getfield 7, 3) := by decide +kernel
theorem dM_takeArea_5 : decode cM_takeArea 5 = .ok (.iconst 4, 1) := by decide +kernel
theorem dM_takeArea_6 : decode cM_takeArea 6 = .ok (.iload_n 1, 1) := by decide +kernel
theorem dM_takeArea_7 : decode cM_takeArea 7 = .ok (.imul, 1) := by decide +kernel
theorem dM_takeArea_8 : decode cM_takeArea 8 = .ok (.iaload, 1) := by decide +kernel
theorem dM_takeArea_9 : decode cM_takeArea 9 = .ok (.putfield 27, 3) := by decide +kernel
theorem dM_takeArea_12 : decode cM_takeArea 12 = .ok (.aload_n 0, 1) := by decide +kernel
theorem dM_takeArea_13 : decode cM_takeArea 13 = .ok (.aload_n 0, 1) := by decide +kernel
theorem dM_takeArea_14 : decode cM_takeArea 14 = .ok (.getfield 7, 3) := by decide +kernel
theorem dM_takeArea_17 : decode cM_takeArea 17 = .ok (.iconst 4, 1) := by decide +kernel
theorem dM_takeArea_18 : decode cM_takeArea 18 = .ok (.iload_n 1, 1) := by decide +kernel
theorem dM_takeArea_19 : decode cM_takeArea 19 = .ok (.imul, 1) := by decide +kernel
theorem dM_takeArea_20 : decode cM_takeArea 20 = .ok (.iconst 1, 1) := by decide +kernel
theorem dM_takeArea_21 : decode cM_takeArea 21 = .ok (.iadd, 1) := by decide +kernel
theorem dM_takeArea_22 : decode cM_takeArea 22 = .ok (.iaload, 1) := by decide +kernel
theorem dM_takeArea_23 : decode cM_takeArea 23 = .ok (.bipush 64, 2) := by decide +kernel
theorem dM_takeArea_25 : decode cM_takeArea 25 = .ok (.idiv, 1) := by decide +kernel
theorem dM_takeArea_26 : decode cM_takeArea 26 = .ok (.putfield 121, 3) := by decide +kernel
theorem dM_takeArea_29 : decode cM_takeArea 29 = .ok (.aload_n 0, 1) := by decide +kernel
theorem dM_takeArea_30 : decode cM_takeArea 30 = .ok (.getfield 7, 3) := by decide +kernel
theorem dM_takeArea_33 : decode cM_takeArea 33 = .ok (.iconst 4, 1) := by decide +kernel
theorem dM_takeArea_34 : decode cM_takeArea 34 = .ok (.iload_n 1, 1) := by decide +kernel
theorem dM_takeArea_35 : decode cM_takeArea 35 = .ok (.imul, 1) := by decide +kernel
theorem dM_takeArea_36 : decode cM_takeArea 36 = .ok (.iconst 1, 1) := by decide +kernel
theorem dM_takeArea_37 : decode cM_takeArea 37 = .ok (.iadd, 1) := by decide +kernel
theorem dM_takeArea_38 : decode cM_takeArea 38 = .ok (.iaload, 1) := by decide +kernel
theorem dM_takeArea_39 : decode cM_takeArea 39 = .ok (.bipush 64, 2) := by decide +kernel
theorem dM_takeArea_41 : decode cM_takeArea 41 = .ok (.irem, 1) := by decide +kernel
theorem dM_takeArea_42 : decode cM_takeArea 42 = .ok (.istore_n 2, 1) := by decide +kernel
theorem dM_takeArea_43 : decode cM_takeArea 43 = .ok (.aload_n 0, 1) := by decide +kernel
theorem dM_takeArea_44 : decode cM_takeArea 44 = .ok (.aload_n 0, 1) := by decide +kernel
theorem dM_takeArea_45 : decode cM_takeArea 45 = .ok (.getfield 7, 3) := by decide +kernel
theorem dM_takeArea_48 : decode cM_takeArea 48 = .ok (.iconst 4, 1) := by decide +kernel
theorem dM_takeArea_49 : decode cM_takeArea 49 = .ok (.iload_n 1, 1) := by decide +kernel
theorem dM_takeArea_50 : decode cM_takeArea 50 = .ok (.imul, 1) := by decide +kernel
theorem dM_takeArea_51 : decode cM_takeArea 51 = .ok (.iconst 2, 1) := by decide +kernel
theorem dM_takeArea_52 : decode cM_takeArea 52 = .ok (.iadd, 1) := by decide +kernel
theorem dM_takeArea_53 : decode cM_takeArea 53 = .ok (.iaload, 1) := by decide +kernel
theorem dM_takeArea_54 : decode cM_takeArea 54 = .ok (.putfield 81, 3) := by decide +kernel
theorem dM_takeArea_57 : decode cM_takeArea 57 = .ok (.iconst 0, 1) := by decide +kernel
theorem dM_takeArea_58 : decode cM_takeArea 58 = .ok (.istore_n 3, 1) := by decide +kernel
theorem dM_takeArea_59 : decode cM_takeArea 59 = .ok (.iload_n 3, 1) := by decide +kernel
theorem dM_takeArea_60 : decode cM_takeArea 60 = .ok (.bipush 64, 2) := by decide +kernel
theorem dM_takeArea_62 : decode cM_takeArea 62 = .ok (.if_icmp .ge 30, 3) := by decide +kernel
theorem dM_takeArea_65 : decode cM_takeArea 65 = .ok (.aload_n 0, 1) := by decide +kernel
theorem dM_takeArea_66 : decode cM_takeArea 66 = .ok (.getfield 17, 3) := by decide +kernel
theorem dM_takeArea_69 : decode cM_takeArea 69 = .ok (.iload_n 3, 1) := by decide +kernel
theorem dM_takeArea_70 : decode cM_takeArea 70 = .ok (.iconst 0, 1) := by decide +kernel
theorem dM_takeArea_71 : decode cM_takeArea 71 = .ok (.bastore, 1) := by decide +kernel
theorem dM_takeArea_72 : decode cM_takeArea 72 = .ok (.aload_n 0, 1) := by decide +kernel
theorem dM_takeArea_73 : decode cM_takeArea 73 = .ok (.getfield 21, 3) := by decide +kernel
theorem dM_takeArea_76 : decode cM_takeArea 76 = .ok (.iload_n 3, 1) := by decide +kernel
theorem dM_takeArea_77 : decode cM_takeArea 77 = .ok (.iconst 0, 1) := by decide +kernel
theorem dM_takeArea_78 : decode cM_takeArea 78 = .ok (.iastore, 1) := by decide +kernel
theorem dM_takeArea_79 : decode cM_takeArea 79 = .ok (.aload_n 0, 1) := by decide +kernel
theorem dM_takeArea_80 : decode cM_takeArea 80 = .ok (.getfield 24, 3) := by decide +kernel
theorem dM_takeArea_83 : decode cM_takeArea 83 = .ok (.iload_n 3, 1) := by decide +kernel
theorem dM_takeArea_84 : decode cM_takeArea 84 = .ok (.iconst 0, 1) := by decide +kernel
theorem dM_takeArea_85 : decode cM_takeArea 85 = .ok (.iastore, 1) := by decide +kernel
theorem dM_takeArea_86 : decode cM_takeArea 86 = .ok (.iinc 3 1, 3) := by decide +kernel
theorem dM_takeArea_89 : decode cM_takeArea 89 = .ok (.goto (-30), 3) := by decide +kernel
theorem dM_takeArea_92 : decode cM_takeArea 92 = .ok (.iconst 0, 1) := by decide +kernel
theorem dM_takeArea_93 : decode cM_takeArea 93 = .ok (.istore_n 3, 1) := by decide +kernel
theorem dM_takeArea_94 : decode cM_takeArea 94 = .ok (.iload_n 3, 1) := by decide +kernel
theorem dM_takeArea_95 : decode cM_takeArea 95 = .ok (.iload_n 2, 1) := by decide +kernel
theorem dM_takeArea_96 : decode cM_takeArea 96 = .ok (.if_icmp .ge 66, 3) := by decide +kernel
theorem dM_takeArea_162 : decode cM_takeArea 162 = .ok (.return_, 1) := by decide +kernel
theorem dM_takeLog_0 : decode cM_takeLog 0 = .ok (.aload_n 0, 1) := by decide +kernel
theorem dM_takeLog_1 : decode cM_takeLog 1 = .ok (.iconst 0, 1) := by decide +kernel
theorem dM_takeLog_2 : decode cM_takeLog 2 = .ok (.putfield 95, 3) := by decide +kernel
theorem dM_takeLog_5 : decode cM_takeLog 5 = .ok (.iconst 0, 1) := by decide +kernel
theorem dM_takeLog_6 : decode cM_takeLog 6 = .ok (.istore_n 1, 1) := by decide +kernel
theorem dM_takeLog_7 : decode cM_takeLog 7 = .ok (.iconst 1, 1) := by decide +kernel
theorem dM_takeLog_8 : decode cM_takeLog 8 = .ok (.istore_n 2, 1) := by decide +kernel
theorem dM_takeLog_9 : decode cM_takeLog 9 = .ok (.iconst 0, 1) := by decide +kernel
theorem dM_takeLog_10 : decode cM_takeLog 10 = .ok (.istore_n 3, 1) := by decide +kernel
theorem dM_takeLog_11 : decode cM_takeLog 11 = .ok (.iload_n 3, 1) := by decide +kernel
theorem dM_takeLog_12 : decode cM_takeLog 12 = .ok (.bipush 74, 2) := by decide +kernel
theorem dM_takeLog_14 : decode cM_takeLog 14 = .ok (.if_icmp .ge 193, 3) := by decide +kernel
theorem dM_takeLog_17 : decode cM_takeLog 17 = .ok (.iload_n 2, 1) := by decide +kernel
theorem dM_takeLog_18 : decode cM_takeLog 18 = .ok (.ifCond .eq 189, 3) := by decide +kernel
theorem dM_takeLog_21 : decode cM_takeLog 21 = .ok (.bipush 22, 2) := by decide +kernel
theorem dM_takeLog_23 : decode cM_takeLog 23 = .ok (.iload_n 3, 1) := by decide +kernel
theorem dM_takeLog_24 : decode cM_takeLog 24 = .ok (.iadd, 1) := by decide +kernel
theorem dM_takeLog_25 : decode cM_takeLog 25 = .ok (.istore 4, 2) := by decide +kernel
theorem dM_takeLog_27 : decode cM_takeLog 27 = .ok (.aload_n 0, 1) := by decide +kernel
theorem dM_takeLog_28 : decode cM_takeLog 28 = .ok (.getfield 7, 3) := by decide +kernel
theorem dM_takeLog_31 : decode cM_takeLog 31 = .ok (.iconst 4, 1) := by decide +kernel
theorem dM_takeLog_32 : decode cM_takeLog 32 = .ok (.iload 4, 2) := by decide +kernel
theorem dM_takeLog_34 : decode cM_takeLog 34 = .ok (.imul, 1) := by decide +kernel
theorem dM_takeLog_35 : decode cM_takeLog 35 = .ok (.iaload, 1) := by decide +kernel
theorem dM_takeLog_36 : decode cM_takeLog 36 = .ok (.iconst 4, 1) := by decide +kernel
theorem dM_takeLog_37 : decode cM_takeLog 37 = .ok (.aload_n 0, 1) := by decide +kernel
theorem dM_takeLog_38 : decode cM_takeLog 38 = .ok (.getfield 27, 3) := by decide +kernel
theorem dM_takeLog_41 : decode cM_takeLog 41 = .ok (.imul, 1) := by decide +kernel
theorem dM_takeLog_42 : decode cM_takeLog 42 = .ok (.isub, 1) := by decide +kernel
theorem dM_takeLog_43 : decode cM_takeLog 43 = .ok (.istore 5, 2) := by decide +kernel
theorem dM_takeLog_45 : decode cM_takeLog 45 = .ok (.aload_n 0, 1) := by decide +kernel
theorem dM_takeLog_46 : decode cM_takeLog 46 = .ok (.iload 4, 2) := by decide +kernel
theorem dM_takeLog_48 : decode cM_takeLog 48 = .ok (.invokevirtual 127, 3) := by decide +kernel
theorem dM_takeLog_51 : decode cM_takeLog 51 = .ok (.ifCond .eq 17, 3) := by decide +kernel
theorem dM_takeLog_68 : decode cM_takeLog 68 = .ok (.iconst 0, 1) := by decide +kernel
theorem dM_takeLog_69 : decode cM_takeLog 69 = .ok (.istore_n 2, 1) := by decide +kernel
theorem dM_takeLog_70 : decode cM_takeLog 70 = .ok (.iload_n 2, 1) := by decide +kernel
theorem dM_takeLog_71 : decode cM_takeLog 71 = .ok (.ifCond .eq 15, 3) := by decide +kernel
theorem dM_takeLog_86 : decode cM_takeLog 86 = .ok (.iload_n 2, 1) := by decide +kernel
theorem dM_takeLog_87 : decode cM_takeLog 87 = .ok (.ifCond .eq 114, 3) := by decide +kernel
theorem dM_takeLog_201 : decode cM_takeLog 201 = .ok (.iinc 3 1, 3) := by decide +kernel
theorem dM_takeLog_204 : decode cM_takeLog 204 = .ok (.goto (-193), 3) := by decide +kernel
theorem dM_takeLog_207 : decode cM_takeLog 207 = .ok (.return_, 1) := by decide +kernel
theorem dM_recover_0 : decode cM_recover 0 = .ok (.aload_n 0, 1) := by decide +kernel
theorem dM_recover_1 : decode cM_recover 1 = .ok (.iconst 0, 1) := by decide +kernel
theorem dM_recover_2 : decode cM_recover 2 = .ok (.putfield 52, 3) := by decide +kernel
theorem dM_recover_5 : decode cM_recover 5 = .ok (.aload_n 0, 1) := by decide +kernel
theorem dM_recover_6 : decode cM_recover 6 = .ok (.iconst 0, 1) := by decide +kernel
theorem dM_recover_7 : decode cM_recover 7 = .ok (.putfield 61, 3) := by decide +kernel
theorem dM_recover_10 : decode cM_recover 10 = .ok (.aload_n 0, 1) := by decide +kernel
theorem dM_recover_11 : decode cM_recover 11 = .ok (.iconst (-1), 1) := by decide +kernel
theorem dM_recover_12 : decode cM_recover 12 = .ok (.putfield 13, 3) := by decide +kernel
theorem dM_recover_15 : decode cM_recover 15 = .ok (.iconst 0, 1) := by decide +kernel
theorem dM_recover_16 : decode cM_recover 16 = .ok (.istore_n 1, 1) := by decide +kernel
theorem dM_recover_17 : decode cM_recover 17 = .ok (.iload_n 1, 1) := by decide +kernel
theorem dM_recover_18 : decode cM_recover 18 = .ok (.iconst 3, 1) := by decide +kernel
theorem dM_recover_19 : decode cM_recover 19 = .ok (.if_icmp .ge 16, 3) := by decide +kernel
theorem dM_recover_22 : decode cM_recover 22 = .ok (.aload_n 0, 1) := by decide +kernel
theorem dM_recover_23 : decode cM_recover 23 = .ok (.getfield 30, 3) := by decide +kernel
theorem dM_recover_26 : decode cM_recover 26 = .ok (.iload_n 1, 1) := by decide +kernel
theorem dM_recover_27 : decode cM_recover 27 = .ok (.iconst 0, 1) := by decide +kernel
theorem dM_recover_28 : decode cM_recover 28 = .ok (.bastore, 1) := by decide +kernel
theorem dM_recover_29 : decode cM_recover 29 = .ok (.iinc 1 1, 3) := by decide +kernel
theorem dM_recover_32 : decode cM_recover 32 = .ok (.goto (-15), 3) := by decide +kernel
theorem dM_recover_35 : decode cM_recover 35 = .ok (.aload_n 0, 1) := by decide +kernel
theorem dM_recover_36 : decode cM_recover 36 = .ok (.iconst 0, 1) := by decide +kernel
theorem dM_recover_37 : decode cM_recover 37 = .ok (.invokevirtual 133, 3) := by decide +kernel
theorem dM_recover_40 : decode cM_recover 40 = .ok (.istore_n 1, 1) := by decide +kernel
theorem dM_recover_41 : decode cM_recover 41 = .ok (.aload_n 0, 1) := by decide +kernel
theorem dM_recover_42 : decode cM_recover 42 = .ok (.iconst 1, 1) := by decide +kernel
theorem dM_recover_43 : decode cM_recover 43 = .ok (.invokevirtual 133, 3) := by decide +kernel
theorem dM_recover_46 : decode cM_recover 46 = .ok (.istore_n 2, 1) := by decide +kernel
theorem dM_recover_47 : decode cM_recover 47 = .ok (.aload_n 0, 1) := by decide +kernel
theorem dM_recover_48 : decode cM_recover 48 = .ok (.iload_n 2, 1) := by decide +kernel
theorem dM_recover_49 : decode cM_recover 49 = .ok (.ifCond .eq 26, 3) := by decide +kernel
theorem dM_recover_75 : decode cM_recover 75 = .ok (.iconst 0, 1) := by decide +kernel
theorem dM_recover_76 : decode cM_recover 76 = .ok (.invokevirtual 136, 3) := by decide +kernel
theorem dM_recover_79 : decode cM_recover 79 = .ok (.aload_n 0, 1) := by decide +kernel
theorem dM_recover_80 : decode cM_recover 80 = .ok (.invokevirtual 139, 3) := by decide +kernel
theorem dM_recover_83 : decode cM_recover 83 = .ok (.aload_n 0, 1) := by decide +kernel
theorem dM_recover_84 : decode cM_recover 84 = .ok (.getfield 81, 3) := by decide +kernel
theorem dM_recover_87 : decode cM_recover 87 = .ok (.ireturn, 1) := by decide +kernel
set_option maxHeartbeats 4000000 in
set_option maxRecDepth 100000 in
theorem c_M_word_x (l : Launch) (dC : Nat → ClassId) (dI : Nat → Nat → Nat) (cI cZ cJ cT : ClassId) (m0 md mh mn mc mo mb mk ml ms mw : Nat) (b9 i9 : Int32) (sz : Nat) (hb9 : b9 < 0 ∨ (¬ b9 < 0 ∧ ¬ b9 < 96 ∧ 95 < b9) ∨ (∃ j : Nat, j < 96 ∧ b9 = nI j) ∧ (i9 < 0 ∨ (¬ i9 < 0 ∧ ¬ i9 < 4 ∧ 3 < i9))) : Met l yM_word (Cond.code yM_word cM_word 3 (some .int) :: wsA) ({ frames := 1, cells := 0, slots := 0, locals := 22 }) (va_Pc [.ref m0, .int b9, .int i9] (fun U => U.heap.size = sz ∧ va_P (dC, dI) vwC [(m0, .inr (4, [.int 0, .ref md, .int 0, .int (-1), .int 0, .ref mh, .ref mn, .ref mc, .int 0, .int 1, .int 0, .int 0, .ref mo, .ref mb, .ref mk, .ref ml, .ref ms, .ref mw]))] U.heap ∧ KK dC dI cI cZ cJ cT U ∧ va_D (fun _ => True) [(m0, .inr (4, [.int 0, .ref md, .int 0, .int (-1), .int 0, .ref mh, .ref mn, .ref mc, .int 0, .int 1, .int 0, .int 0, .ref mo, .ref mb, .ref mk, .ref ml, .ref ms, .ref mw]))])) (va_Qi (S := Nat → Nat) (fun r _ => r = 0) (fun u t => va_P (dC, dI) vwC [(m0, .inr (4, [.int 0, .ref md, .int 0, .int (-1), .int 0, .ref mh, .ref mn, .ref mc, .int 0, .int 1, .int 0, .int 0, .ref mo, .ref mb, .ref mk, .ref ml, .ref ms, .ref mw]))] t.heap ∧ va_D (va_A [(m0, .inr (4, [.int 0, .ref md, .int 0, .int (-1), .int 0, .ref mh, .ref mn, .ref mc, .int 0, .int 1, .int 0, .int 0, .ref mo, .ref mb, .ref mk, .ref ml, .ref ms, .ref mw]))] sz) [(m0, .inr (4, [.int 0, .ref md, .int 0, .int (-1), .int 0, .ref mh, .ref mn, .ref mc, .int 0, .int 1, .int 0, .int 0, .ref mo, .ref mb, .ref mk, .ref ml, .ref ms, .ref mw]))]) (va_A [(m0, .inr (4, [.int 0, .ref md, .int 0, .int (-1), .int 0, .ref mh, .ref mn, .ref mc, .int 0, .int 1, .int 0, .int 0, .ref mo, .ref mb, .ref mk, .ref ml, .ref ms, .ref mw]))] sz)) 0 0 (va_A [(m0, .inr (4, [.int 0, .ref md, .int 0, .int (-1), .int 0, .ref mh, .ref mn, .ref mc, .int 0, .int 1, .int 0, .int 0, .ref mo, .ref mb, .ref mk, .ref ml, .ref ms, .ref mw]))] sz) := by
  refine Met.ofW (cc := cM_word) (maxL := 3) (ret := (some .int)) (by decide) rfl ?_
  intro p e s m args below meth c s₁ B hml hv
  obtain ⟨rfl, hsz, hP, hKK, hD0⟩ := hv
  rcases hb9 with h1 | ⟨h1, h2, h3⟩ | ⟨⟨j, hj, rfl⟩, h4 | ⟨h4, h5, h6⟩⟩
  · have hK := hKK.1
    have hx := B.exec
    have hb := B.bytes
    have hr := B.returns
    have hw : ∀ w ∈ wsA, w.before _ s = true := fun w h => atoms_spec (ws := (Cond.code yM_word cM_word 3 (some .int) :: wsA)) B.pre w (List.mem_cons_of_mem _ h)
    have hown : s.vm.findClass "LoggedStoreModel" = some m.cls := findClass_of_methodNamed B.named
    have hlocks := B.notSynchronized
    subst hsz
    have hD := hD0.self (sz := s.heap.size)
    generalize hAe : va_A [(m0, .inr (4, [.int 0, .ref md, .int 0, .int (-1), .int 0, .ref mh, .ref mn, .ref mc, .int 0, .int 1, .int 0, .int 0, .ref mo, .ref mb, .ref mk, .ref ml, .ref ms, .ref mw]))] s.heap.size = A at hD ⊢
    have hA : ∀ q : Nat, s.heap.size ≤ q → A q := fun q h => by rw [← hAe]; exact Or.inr h
    have hS : va_S A s.heap s.heap [] := va_S.rf
    have hl := lv_entry ([.ref m0, .int b9, .int i9]) (n := 3) (Nat.le_of_ble_eq_true rfl)
    rw [lg_entry_eq]
    generalize (lg_sl ([.ref m0, .int b9, .int i9]) ++ List.replicate (3 - (lg_sl ([.ref m0, .int b9, .int i9])).length) Slot.unset).toArray = ls at hl ⊢
    have hl : lv_has ls 3 [(0, .ref m0), (1, .int b9), (2, .int i9)] := hl
    refine lv_aload_n hx hb dM_word_0 rfl (lv_at hl 0 rfl) ?_
    refine lv_iconst (v := 0) hx hb dM_word_1 (by decide) ?_
    refine va_put (D := (dC, dI)) (ci := 4) (v := .int 0) (ty := .int) (C := "LoggedStoreModel") (T := uM) (N := 18) hx hb hw inM tyM tyM_ok nmM hown hK hP hD hS 0 rfl rfl 0 (by decide) (hw _ w612) (fun _ h9 => h9) rfl (by decide +kernel) rfl rfl (Nat.le_of_ble_eq_true rfl) dM_word_2 (fun H locs hP hD hS => ?_)
    have hP : va_P (dC, dI) vwC [(m0, .inr (4, [.int 0, .ref md, .int 0, .int (-1), .int 0, .ref mh, .ref mn, .ref mc, .int 0, .int 1, .int 0, .int 0, .ref mo, .ref mb, .ref mk, .ref ml, .ref ms, .ref mw]))] H := hP
    have hD : va_D A [(m0, .inr (4, [.int 0, .ref md, .int 0, .int (-1), .int 0, .ref mh, .ref mn, .ref mc, .int 0, .int 1, .int 0, .int 0, .ref mo, .ref mb, .ref mk, .ref ml, .ref ms, .ref mw]))] := hD
    refine lv_iload_n hx hb dM_word_5 rfl (lv_at hl 1 rfl) ?_
    refine lv_iconst (v := 0) hx hb dM_word_6 (by decide) ?_
    refine lv_bipush (v := 95) hx hb dM_word_7 (by decide) ?_
    have hPc := hP.sub (ws' := []) [] rfl
    refine vp_callSi (W.runS (As := [.int b9, .int 0, .int 95]) (rest := []) ⟨hx, hb, hml, hown, hw⟩ (c_within_f l dC dI cI cZ cJ cT b9 0 95 h1) ⟨callB_of 3 hw (gA0 w677) rfl rfl rfl (hw _ w45) (hw _ w675) (by decide +kernel) ⟨Nat.le_of_ble_eq_true rfl, Nat.le_of_ble_eq_true rfl⟩, (hw _ w676)⟩ ⟨kb_S, fun U hU hW => ⟨rfl, by rw [hU]; exact hPc, hKK.moved hW⟩⟩ rfl rfl hl.1 rfl (lv_room (Nat.le_of_ble_eq_true rfl)) dM_word_9 ⟨Nat.le_of_ble_eq_true rfl, Nat.le_of_ble_eq_true rfl⟩) (fun r1 e2 => ?_)
    obtain rfl : r1 = 0 := e2
    refine lv_if_eq (tgt := 37) hx hb dM_word_12 (by decide) (fun _ => ?_) (fun h9 => absurd (by decide) h9)
    refine lv_iconst (v := 0) hx hb dM_word_37 (by decide) ?_
    have hP9 := hP.sub (ws' := [(m0, .inr (4, [.int 0, .ref md, .int 0, .int (-1), .int 0, .ref mh, .ref mn, .ref mc, .int 0, .int 1, .int 0, .int 0, .ref mo, .ref mb, .ref mk, .ref ml, .ref ms, .ref mw]))]) [0] rfl
    have hD9 := hD.sub (ws' := [(m0, .inr (4, [.int 0, .ref md, .int 0, .int (-1), .int 0, .ref mh, .ref mn, .ref mc, .int 0, .int 1, .int 0, .int 0, .ref mo, .ref mb, .ref mk, .ref ml, .ref ms, .ref mw]))]) [0] (by decide) rfl
    refine W.widen (k := 0) (n := 0) (by decide) (by decide) ?_
    exact W.iret (v := 0) hx hb hr (fun t ht hW => ⟨⟨0, fun _ => 0, rfl, rfl, by rw [ht]; exact hP9, hD9⟩, hS.F ht⟩) hS.2.2 dM_word_38
  · have hK := hKK.1
    have hx := B.exec
    have hb := B.bytes
    have hr := B.returns
    have hw : ∀ w ∈ wsA, w.before _ s = true := fun w h => atoms_spec (ws := (Cond.code yM_word cM_word 3 (some .int) :: wsA)) B.pre w (List.mem_cons_of_mem _ h)
    have hown : s.vm.findClass "LoggedStoreModel" = some m.cls := findClass_of_methodNamed B.named
    have hlocks := B.notSynchronized
    subst hsz
    have hD := hD0.self (sz := s.heap.size)
    generalize hAe : va_A [(m0, .inr (4, [.int 0, .ref md, .int 0, .int (-1), .int 0, .ref mh, .ref mn, .ref mc, .int 0, .int 1, .int 0, .int 0, .ref mo, .ref mb, .ref mk, .ref ml, .ref ms, .ref mw]))] s.heap.size = A at hD ⊢
    have hA : ∀ q : Nat, s.heap.size ≤ q → A q := fun q h => by rw [← hAe]; exact Or.inr h
    have hS : va_S A s.heap s.heap [] := va_S.rf
    have hl := lv_entry ([.ref m0, .int b9, .int i9]) (n := 3) (Nat.le_of_ble_eq_true rfl)
    rw [lg_entry_eq]
    generalize (lg_sl ([.ref m0, .int b9, .int i9]) ++ List.replicate (3 - (lg_sl ([.ref m0, .int b9, .int i9])).length) Slot.unset).toArray = ls at hl ⊢
    have hl : lv_has ls 3 [(0, .ref m0), (1, .int b9), (2, .int i9)] := hl
    refine lv_aload_n hx hb dM_word_0 rfl (lv_at hl 0 rfl) ?_
    refine lv_iconst (v := 0) hx hb dM_word_1 (by decide) ?_
    refine va_put (D := (dC, dI)) (ci := 4) (v := .int 0) (ty := .int) (C := "LoggedStoreModel") (T := uM) (N := 18) hx hb hw inM tyM tyM_ok nmM hown hK hP hD hS 0 rfl rfl 0 (by decide) (hw _ w612) (fun _ h9 => h9) rfl (by decide +kernel) rfl rfl (Nat.le_of_ble_eq_true rfl) dM_word_2 (fun H locs hP hD hS => ?_)
    have hP : va_P (dC, dI) vwC [(m0, .inr (4, [.int 0, .ref md, .int 0, .int (-1), .int 0, .ref mh, .ref mn, .ref mc, .int 0, .int 1, .int 0, .int 0, .ref mo, .ref mb, .ref mk, .ref ml, .ref ms, .ref mw]))] H := hP
    have hD : va_D A [(m0, .inr (4, [.int 0, .ref md, .int 0, .int (-1), .int 0, .ref mh, .ref mn, .ref mc, .int 0, .int 1, .int 0, .int 0, .ref mo, .ref mb, .ref mk, .ref ml, .ref ms, .ref mw]))] := hD
    refine lv_iload_n hx hb dM_word_5 rfl (lv_at hl 1 rfl) ?_
    refine lv_iconst (v := 0) hx hb dM_word_6 (by decide) ?_
    refine lv_bipush (v := 95) hx hb dM_word_7 (by decide) ?_
    have hPc := hP.sub (ws' := []) [] rfl
    refine vp_callSi (W.runS (As := [.int b9, .int 0, .int 95]) (rest := []) ⟨hx, hb, hml, hown, hw⟩ (c_within_g l dC dI cI cZ cJ cT b9 0 95 h1 h3) ⟨callB_of 3 hw (gA0 w677) rfl rfl rfl (hw _ w45) (hw _ w675) (by decide +kernel) ⟨Nat.le_of_ble_eq_true rfl, Nat.le_of_ble_eq_true rfl⟩, (hw _ w676)⟩ ⟨kb_S, fun U hU hW => ⟨rfl, by rw [hU]; exact hPc, hKK.moved hW⟩⟩ rfl rfl hl.1 rfl (lv_room (Nat.le_of_ble_eq_true rfl)) dM_word_9 ⟨Nat.le_of_ble_eq_true rfl, Nat.le_of_ble_eq_true rfl⟩) (fun r1 e2 => ?_)
    obtain rfl : r1 = 0 := e2
    refine lv_if_eq (tgt := 37) hx hb dM_word_12 (by decide) (fun _ => ?_) (fun h9 => absurd (by decide) h9)
    refine lv_iconst (v := 0) hx hb dM_word_37 (by decide) ?_
    have hP9 := hP.sub (ws' := [(m0, .inr (4, [.int 0, .ref md, .int 0, .int (-1), .int 0, .ref mh, .ref mn, .ref mc, .int 0, .int 1, .int 0, .int 0, .ref mo, .ref mb, .ref mk, .ref ml, .ref ms, .ref mw]))]) [0] rfl
    have hD9 := hD.sub (ws' := [(m0, .inr (4, [.int 0, .ref md, .int 0, .int (-1), .int 0, .ref mh, .ref mn, .ref mc, .int 0, .int 1, .int 0, .int 0, .ref mo, .ref mb, .ref mk, .ref ml, .ref ms, .ref mw]))]) [0] (by decide) rfl
    refine W.widen (k := 0) (n := 0) (by decide) (by decide) ?_
    exact W.iret (v := 0) hx hb hr (fun t ht hW => ⟨⟨0, fun _ => 0, rfl, rfl, by rw [ht]; exact hP9, hD9⟩, hS.F ht⟩) hS.2.2 dM_word_38
  · have hK := hKK.1
    have hx := B.exec
    have hb := B.bytes
    have hr := B.returns
    have hw : ∀ w ∈ wsA, w.before _ s = true := fun w h => atoms_spec (ws := (Cond.code yM_word cM_word 3 (some .int) :: wsA)) B.pre w (List.mem_cons_of_mem _ h)
    have hown : s.vm.findClass "LoggedStoreModel" = some m.cls := findClass_of_methodNamed B.named
    have hlocks := B.notSynchronized
    subst hsz
    have hD := hD0.self (sz := s.heap.size)
    generalize hAe : va_A [(m0, .inr (4, [.int 0, .ref md, .int 0, .int (-1), .int 0, .ref mh, .ref mn, .ref mc, .int 0, .int 1, .int 0, .int 0, .ref mo, .ref mb, .ref mk, .ref ml, .ref ms, .ref mw]))] s.heap.size = A at hD ⊢
    have hA : ∀ q : Nat, s.heap.size ≤ q → A q := fun q h => by rw [← hAe]; exact Or.inr h
    have hS : va_S A s.heap s.heap [] := va_S.rf
    have hl := lv_entry ([.ref m0, .int (nI j), .int i9]) (n := 3) (Nat.le_of_ble_eq_true rfl)
    rw [lg_entry_eq]
    generalize (lg_sl ([.ref m0, .int (nI j), .int i9]) ++ List.replicate (3 - (lg_sl ([.ref m0, .int (nI j), .int i9])).length) Slot.unset).toArray = ls at hl ⊢
    have hl : lv_has ls 3 [(0, .ref m0), (1, .int (nI j)), (2, .int i9)] := hl
    refine lv_aload_n hx hb dM_word_0 rfl (lv_at hl 0 rfl) ?_
    refine lv_iconst (v := 0) hx hb dM_word_1 (by decide) ?_
    refine va_put (D := (dC, dI)) (ci := 4) (v := .int 0) (ty := .int) (C := "LoggedStoreModel") (T := uM) (N := 18) hx hb hw inM tyM tyM_ok nmM hown hK hP hD hS 0 rfl rfl 0 (by decide) (hw _ w612) (fun _ h9 => h9) rfl (by decide +kernel) rfl rfl (Nat.le_of_ble_eq_true rfl) dM_word_2 (fun H locs hP hD hS => ?_)
    have hP : va_P (dC, dI) vwC [(m0, .inr (4, [.int 0, .ref md, .int 0, .int (-1), .int 0, .ref mh, .ref mn, .ref mc, .int 0, .int 1, .int 0, .int 0, .ref mo, .ref mb, .ref mk, .ref ml, .ref ms, .ref mw]))] H := hP
    have hD : va_D A [(m0, .inr (4, [.int 0, .ref md, .int 0, .int (-1), .int 0, .ref mh, .ref mn, .ref mc, .int 0, .int 1, .int 0, .int 0, .ref mo, .ref mb, .ref mk, .ref ml, .ref ms, .ref mw]))] := hD
    refine lv_iload_n hx hb dM_word_5 rfl (lv_at hl 1 rfl) ?_
    refine lv_iconst (v := 0) hx hb dM_word_6 (by decide) ?_
    refine lv_bipush (v := 95) hx hb dM_word_7 (by decide) ?_
    have hPc := hP.sub (ws' := []) [] rfl
    refine vp_callSi (W.runS (As := [.int (nI j), .int 0, .int 95]) (rest := []) ⟨hx, hb, hml, hown, hw⟩ (c_within_t l dC dI cI cZ cJ cT (nI j) 0 95 (nI_pos (by omega)) (nI_nlt (a := 95) (b := j) (by omega) (by decide))) ⟨callB_of 3 hw (gA0 w677) rfl rfl rfl (hw _ w45) (hw _ w675) (by decide +kernel) ⟨Nat.le_of_ble_eq_true rfl, Nat.le_of_ble_eq_true rfl⟩, (hw _ w676)⟩ ⟨kb_S, fun U hU hW => ⟨rfl, by rw [hU]; exact hPc, hKK.moved hW⟩⟩ rfl rfl hl.1 rfl (lv_room (Nat.le_of_ble_eq_true rfl)) dM_word_9 ⟨Nat.le_of_ble_eq_true rfl, Nat.le_of_ble_eq_true rfl⟩) (fun r1 e2 => ?_)
    obtain rfl : r1 = 1 := e2
    refine lv_if_eq (tgt := 37) hx hb dM_word_12 (by decide) (fun h9 => absurd h9 (by decide)) (fun _ => ?_)
    refine lv_iload_n hx hb dM_word_15 rfl (lv_at hl 2 rfl) ?_
    refine lv_iconst (v := 0) hx hb dM_word_16 (by decide) ?_
    refine lv_iconst (v := 3) hx hb dM_word_17 (by decide) ?_
    have hPc := hP.sub (ws' := []) [] rfl
    refine vp_callSi (W.runS (As := [.int i9, .int 0, .int 3]) (rest := []) ⟨hx, hb, hml, hown, hw⟩ (c_within_f l dC dI cI cZ cJ cT i9 0 3 h4) ⟨callB_of 3 hw (gA0 w677) rfl rfl rfl (hw _ w45) (hw _ w675) (by decide +kernel) ⟨Nat.le_of_ble_eq_true rfl, Nat.le_of_ble_eq_true rfl⟩, (hw _ w676)⟩ ⟨kb_S, fun U hU hW => ⟨rfl, by rw [hU]; exact hPc, hKK.moved hW⟩⟩ rfl rfl hl.1 rfl (lv_room (Nat.le_of_ble_eq_true rfl)) dM_word_18 ⟨Nat.le_of_ble_eq_true rfl, Nat.le_of_ble_eq_true rfl⟩) (fun r3 e4 => ?_)
    obtain rfl : r3 = 0 := e4
    refine lv_if_eq (tgt := 37) hx hb dM_word_21 (by decide) (fun _ => ?_) (fun h9 => absurd (by decide) h9)
    refine lv_iconst (v := 0) hx hb dM_word_37 (by decide) ?_
    have hP9 := hP.sub (ws' := [(m0, .inr (4, [.int 0, .ref md, .int 0, .int (-1), .int 0, .ref mh, .ref mn, .ref mc, .int 0, .int 1, .int 0, .int 0, .ref mo, .ref mb, .ref mk, .ref ml, .ref ms, .ref mw]))]) [0] rfl
    have hD9 := hD.sub (ws' := [(m0, .inr (4, [.int 0, .ref md, .int 0, .int (-1), .int 0, .ref mh, .ref mn, .ref mc, .int 0, .int 1, .int 0, .int 0, .ref mo, .ref mb, .ref mk, .ref ml, .ref ms, .ref mw]))]) [0] (by decide) rfl
    refine W.widen (k := 0) (n := 0) (by decide) (by decide) ?_
    exact W.iret (v := 0) hx hb hr (fun t ht hW => ⟨⟨0, fun _ => 0, rfl, rfl, by rw [ht]; exact hP9, hD9⟩, hS.F ht⟩) hS.2.2 dM_word_38
  · have hK := hKK.1
    have hx := B.exec
    have hb := B.bytes
    have hr := B.returns
    have hw : ∀ w ∈ wsA, w.before _ s = true := fun w h => atoms_spec (ws := (Cond.code yM_word cM_word 3 (some .int) :: wsA)) B.pre w (List.mem_cons_of_mem _ h)
    have hown : s.vm.findClass "LoggedStoreModel" = some m.cls := findClass_of_methodNamed B.named
    have hlocks := B.notSynchronized
    subst hsz
    have hD := hD0.self (sz := s.heap.size)
    generalize hAe : va_A [(m0, .inr (4, [.int 0, .ref md, .int 0, .int (-1), .int 0, .ref mh, .ref mn, .ref mc, .int 0, .int 1, .int 0, .int 0, .ref mo, .ref mb, .ref mk, .ref ml, .ref ms, .ref mw]))] s.heap.size = A at hD ⊢
    have hA : ∀ q : Nat, s.heap.size ≤ q → A q := fun q h => by rw [← hAe]; exact Or.inr h
    have hS : va_S A s.heap s.heap [] := va_S.rf
    have hl := lv_entry ([.ref m0, .int (nI j), .int i9]) (n := 3) (Nat.le_of_ble_eq_true rfl)
    rw [lg_entry_eq]
    generalize (lg_sl ([.ref m0, .int (nI j), .int i9]) ++ List.replicate (3 - (lg_sl ([.ref m0, .int (nI j), .int i9])).length) Slot.unset).toArray = ls at hl ⊢
    have hl : lv_has ls 3 [(0, .ref m0), (1, .int (nI j)), (2, .int i9)] := hl
    refine lv_aload_n hx hb dM_word_0 rfl (lv_at hl 0 rfl) ?_
    refine lv_iconst (v := 0) hx hb dM_word_1 (by decide) ?_
    refine va_put (D := (dC, dI)) (ci := 4) (v := .int 0) (ty := .int) (C := "LoggedStoreModel") (T := uM) (N := 18) hx hb hw inM tyM tyM_ok nmM hown hK hP hD hS 0 rfl rfl 0 (by decide) (hw _ w612) (fun _ h9 => h9) rfl (by decide +kernel) rfl rfl (Nat.le_of_ble_eq_true rfl) dM_word_2 (fun H locs hP hD hS => ?_)
    have hP : va_P (dC, dI) vwC [(m0, .inr (4, [.int 0, .ref md, .int 0, .int (-1), .int 0, .ref mh, .ref mn, .ref mc, .int 0, .int 1, .int 0, .int 0, .ref mo, .ref mb, .ref mk, .ref ml, .ref ms, .ref mw]))] H := hP
    have hD : va_D A [(m0, .inr (4, [.int 0, .ref md, .int 0, .int (-1), .int 0, .ref mh, .ref mn, .ref mc, .int 0, .int 1, .int 0, .int 0, .ref mo, .ref mb, .ref mk, .ref ml, .ref ms, .ref mw]))] := hD
    refine lv_iload_n hx hb dM_word_5 rfl (lv_at hl 1 rfl) ?_
    refine lv_iconst (v := 0) hx hb dM_word_6 (by decide) ?_
    refine lv_bipush (v := 95) hx hb dM_word_7 (by decide) ?_
    have hPc := hP.sub (ws' := []) [] rfl
    refine vp_callSi (W.runS (As := [.int (nI j), .int 0, .int 95]) (rest := []) ⟨hx, hb, hml, hown, hw⟩ (c_within_t l dC dI cI cZ cJ cT (nI j) 0 95 (nI_pos (by omega)) (nI_nlt (a := 95) (b := j) (by omega) (by decide))) ⟨callB_of 3 hw (gA0 w677) rfl rfl rfl (hw _ w45) (hw _ w675) (by decide +kernel) ⟨Nat.le_of_ble_eq_true rfl, Nat.le_of_ble_eq_true rfl⟩, (hw _ w676)⟩ ⟨kb_S, fun U hU hW => ⟨rfl, by rw [hU]; exact hPc, hKK.moved hW⟩⟩ rfl rfl hl.1 rfl (lv_room (Nat.le_of_ble_eq_true rfl)) dM_word_9 ⟨Nat.le_of_ble_eq_true rfl, Nat.le_of_ble_eq_true rfl⟩) (fun r1 e2 => ?_)
    obtain rfl : r1 = 1 := e2
    refine lv_if_eq (tgt := 37) hx hb dM_word_12 (by decide) (fun h9 => absurd h9 (by decide)) (fun _ => ?_)
    refine lv_iload_n hx hb dM_word_15 rfl (lv_at hl 2 rfl) ?_
    refine lv_iconst (v := 0) hx hb dM_word_16 (by decide) ?_
    refine lv_iconst (v := 3) hx hb dM_word_17 (by decide) ?_
    have hPc := hP.sub (ws' := []) [] rfl
    refine vp_callSi (W.runS (As := [.int i9, .int 0, .int 3]) (rest := []) ⟨hx, hb, hml, hown, hw⟩ (c_within_g l dC dI cI cZ cJ cT i9 0 3 h4 h6) ⟨callB_of 3 hw (gA0 w677) rfl rfl rfl (hw _ w45) (hw _ w675) (by decide +kernel) ⟨Nat.le_of_ble_eq_true rfl, Nat.le_of_ble_eq_true rfl⟩, (hw _ w676)⟩ ⟨kb_S, fun U hU hW => ⟨rfl, by rw [hU]; exact hPc, hKK.moved hW⟩⟩ rfl rfl hl.1 rfl (lv_room (Nat.le_of_ble_eq_true rfl)) dM_word_18 ⟨Nat.le_of_ble_eq_true rfl, Nat.le_of_ble_eq_true rfl⟩) (fun r3 e4 => ?_)
    obtain rfl : r3 = 0 := e4
    refine lv_if_eq (tgt := 37) hx hb dM_word_21 (by decide) (fun _ => ?_) (fun h9 => absurd (by decide) h9)
    refine lv_iconst (v := 0) hx hb dM_word_37 (by decide) ?_
    have hP9 := hP.sub (ws' := [(m0, .inr (4, [.int 0, .ref md, .int 0, .int (-1), .int 0, .ref mh, .ref mn, .ref mc, .int 0, .int 1, .int 0, .int 0, .ref mo, .ref mb, .ref mk, .ref ml, .ref ms, .ref mw]))]) [0] rfl
    have hD9 := hD.sub (ws' := [(m0, .inr (4, [.int 0, .ref md, .int 0, .int (-1), .int 0, .ref mh, .ref mn, .ref mc, .int 0, .int 1, .int 0, .int 0, .ref mo, .ref mb, .ref mk, .ref ml, .ref ms, .ref mw]))]) [0] (by decide) rfl
    refine W.widen (k := 0) (n := 0) (by decide) (by decide) ?_
    exact W.iret (v := 0) hx hb hr (fun t ht hW => ⟨⟨0, fun _ => 0, rfl, rfl, by rw [ht]; exact hP9, hD9⟩, hS.F ht⟩) hS.2.2 dM_word_38

set_option maxHeartbeats 4000000 in
set_option maxRecDepth 100000 in
theorem c_M_word_y (l : Launch) (dC : Nat → ClassId) (dI : Nat → Nat → Nat) (cI cZ cJ cT : ClassId) (m0 md mh mn mc mo mb mk ml ms mw : Nat) (j i : Nat) (sz : Nat) (hj : j < 96) (hi : i < 4) : Met l yM_word (Cond.code yM_word cM_word 3 (some .int) :: wsA) ({ frames := 1, cells := 0, slots := 0, locals := 22 }) (va_Pc [.ref m0, .int (nI j), .int (nI i)] (fun U => U.heap.size = sz ∧ va_P (dC, dI) vwC [(m0, .inr (4, [.int 0, .ref md, .int 0, .int (-1), .int 0, .ref mh, .ref mn, .ref mc, .int 0, .int 1, .int 0, .int 0, .ref mo, .ref mb, .ref mk, .ref ml, .ref ms, .ref mw])), (md, .inl (cI, 384, .inl MW0))] U.heap ∧ KK dC dI cI cZ cJ cT U ∧ va_D (fun _ => True) [(m0, .inr (4, [.int 0, .ref md, .int 0, .int (-1), .int 0, .ref mh, .ref mn, .ref mc, .int 0, .int 1, .int 0, .int 0, .ref mo, .ref mb, .ref mk, .ref ml, .ref ms, .ref mw])), (md, .inl (cI, 384, .inl MW0))])) (va_Qi (S := Nat → Nat) (fun r _ => r = MW0 ((4 * (nI j)) + (nI i)).toNatClampNeg) (fun u t => va_P (dC, dI) vwC [(m0, .inr (4, [.int 0, .ref md, .int 0, .int (-1), .int 0, .ref mh, .ref mn, .ref mc, .int 0, .int 1, .int 0, .int 0, .ref mo, .ref mb, .ref mk, .ref ml, .ref ms, .ref mw]))] t.heap ∧ va_D (va_A [(m0, .inr (4, [.int 0, .ref md, .int 0, .int (-1), .int 0, .ref mh, .ref mn, .ref mc, .int 0, .int 1, .int 0, .int 0, .ref mo, .ref mb, .ref mk, .ref ml, .ref ms, .ref mw])), (md, .inl (cI, 384, .inl MW0))] sz) [(m0, .inr (4, [.int 0, .ref md, .int 0, .int (-1), .int 0, .ref mh, .ref mn, .ref mc, .int 0, .int 1, .int 0, .int 0, .ref mo, .ref mb, .ref mk, .ref ml, .ref ms, .ref mw]))]) (va_A [(m0, .inr (4, [.int 0, .ref md, .int 0, .int (-1), .int 0, .ref mh, .ref mn, .ref mc, .int 0, .int 1, .int 0, .int 0, .ref mo, .ref mb, .ref mk, .ref ml, .ref ms, .ref mw])), (md, .inl (cI, 384, .inl MW0))] sz)) 0 0 (va_A [(m0, .inr (4, [.int 0, .ref md, .int 0, .int (-1), .int 0, .ref mh, .ref mn, .ref mc, .int 0, .int 1, .int 0, .int 0, .ref mo, .ref mb, .ref mk, .ref ml, .ref ms, .ref mw])), (md, .inl (cI, 384, .inl MW0))] sz) := by
  refine Met.ofW (cc := cM_word) (maxL := 3) (ret := (some .int)) (by decide) rfl ?_
  intro p e s m args below meth c s₁ B hml hv
  obtain ⟨rfl, hsz, hP, hKK, hD0⟩ := hv
  have hK := hKK.1
  have hx := B.exec
  have hb := B.bytes
  have hr := B.returns
  have hw : ∀ w ∈ wsA, w.before _ s = true := fun w h => atoms_spec (ws := (Cond.code yM_word cM_word 3 (some .int) :: wsA)) B.pre w (List.mem_cons_of_mem _ h)
  have hown : s.vm.findClass "LoggedStoreModel" = some m.cls := findClass_of_methodNamed B.named
  have hlocks := B.notSynchronized
  subst hsz
  have hD := hD0.self (sz := s.heap.size)
  generalize hAe : va_A [(m0, .inr (4, [.int 0, .ref md, .int 0, .int (-1), .int 0, .ref mh, .ref mn, .ref mc, .int 0, .int 1, .int 0, .int 0, .ref mo, .ref mb, .ref mk, .ref ml, .ref ms, .ref mw])), (md, .inl (cI, 384, .inl MW0))] s.heap.size = A at hD ⊢
  have hA : ∀ q : Nat, s.heap.size ≤ q → A q := fun q h => by rw [← hAe]; exact Or.inr h
  have hS : va_S A s.heap s.heap [] := va_S.rf
  have hl := lv_entry ([.ref m0, .int (nI j), .int (nI i)]) (n := 3) (Nat.le_of_ble_eq_true rfl)
  rw [lg_entry_eq]
  generalize (lg_sl ([.ref m0, .int (nI j), .int (nI i)]) ++ List.replicate (3 - (lg_sl ([.ref m0, .int (nI j), .int (nI i)])).length) Slot.unset).toArray = ls at hl ⊢
  have hl : lv_has ls 3 [(0, .ref m0), (1, .int (nI j)), (2, .int (nI i))] := hl
  refine lv_aload_n hx hb dM_word_0 rfl (lv_at hl 0 rfl) ?_
  refine lv_iconst (v := 0) hx hb dM_word_1 (by decide) ?_
  refine va_put (D := (dC, dI)) (ci := 4) (v := .int 0) (ty := .int) (C := "LoggedStoreModel") (T := uM) (N := 18) hx hb hw inM tyM tyM_ok nmM hown hK hP hD hS 0 rfl rfl 0 (by decide) (hw _ w612) (fun _ h9 => h9) rfl (by decide +kernel) rfl rfl (Nat.le_of_ble_eq_true rfl) dM_word_2 (fun H locs hP hD hS => ?_)
  have hP : va_P (dC, dI) vwC [(m0, .inr (4, [.int 0, .ref md, .int 0, .int (-1), .int 0, .ref mh, .ref mn, .ref mc, .int 0, .int 1, .int 0, .int 0, .ref mo, .ref mb, .ref mk, .ref ml, .ref ms, .ref mw])), (md, .inl (cI, 384, .inl MW0))] H := hP
  have hD : va_D A [(m0, .inr (4, [.int 0, .ref md, .int 0, .int (-1), .int 0, .ref mh, .ref mn, .ref mc, .int 0, .int 1, .int 0, .int 0, .ref mo, .ref mb, .ref mk, .ref ml, .ref ms, .ref mw])), (md, .inl (cI, 384, .inl MW0))] := hD
  refine lv_iload_n hx hb dM_word_5 rfl (lv_at hl 1 rfl) ?_
  refine lv_iconst (v := 0) hx hb dM_word_6 (by decide) ?_
  refine lv_bipush (v := 95) hx hb dM_word_7 (by decide) ?_
  have hPc := hP.sub (ws' := []) [] rfl
  refine vp_callSi (W.runS (As := [.int (nI j), .int 0, .int 95]) (rest := []) ⟨hx, hb, hml, hown, hw⟩ (c_within_t l dC dI cI cZ cJ cT (nI j) 0 95 (nI_pos (by omega)) (nI_nlt (a := 95) (b := j) (by omega) (by decide))) ⟨callB_of 3 hw (gA0 w677) rfl rfl rfl (hw _ w45) (hw _ w675) (by decide +kernel) ⟨Nat.le_of_ble_eq_true rfl, Nat.le_of_ble_eq_true rfl⟩, (hw _ w676)⟩ ⟨kb_S, fun U hU hW => ⟨rfl, by rw [hU]; exact hPc, hKK.moved hW⟩⟩ rfl rfl hl.1 rfl (lv_room (Nat.le_of_ble_eq_true rfl)) dM_word_9 ⟨Nat.le_of_ble_eq_true rfl, Nat.le_of_ble_eq_true rfl⟩) (fun r1 e2 => ?_)
  obtain rfl : r1 = 1 := e2
  refine lv_if_eq (tgt := 37) hx hb dM_word_12 (by decide) (fun h9 => absurd h9 (by decide)) (fun _ => ?_)
  refine lv_iload_n hx hb dM_word_15 rfl (lv_at hl 2 rfl) ?_
  refine lv_iconst (v := 0) hx hb dM_word_16 (by decide) ?_
  refine lv_iconst (v := 3) hx hb dM_word_17 (by decide) ?_
  have hPc := hP.sub (ws' := []) [] rfl
  refine vp_callSi (W.runS (As := [.int (nI i), .int 0, .int 3]) (rest := []) ⟨hx, hb, hml, hown, hw⟩ (c_within_t l dC dI cI cZ cJ cT (nI i) 0 3 (nI_pos (by omega)) (nI_nlt (a := 3) (b := i) (by omega) (by decide))) ⟨callB_of 3 hw (gA0 w677) rfl rfl rfl (hw _ w45) (hw _ w675) (by decide +kernel) ⟨Nat.le_of_ble_eq_true rfl, Nat.le_of_ble_eq_true rfl⟩, (hw _ w676)⟩ ⟨kb_S, fun U hU hW => ⟨rfl, by rw [hU]; exact hPc, hKK.moved hW⟩⟩ rfl rfl hl.1 rfl (lv_room (Nat.le_of_ble_eq_true rfl)) dM_word_18 ⟨Nat.le_of_ble_eq_true rfl, Nat.le_of_ble_eq_true rfl⟩) (fun r3 e4 => ?_)
  obtain rfl : r3 = 1 := e4
  refine lv_if_eq (tgt := 37) hx hb dM_word_21 (by decide) (fun h9 => absurd h9 (by decide)) (fun _ => ?_)
  refine lv_aload_n hx hb dM_word_24 rfl (lv_at hl 0 rfl) ?_
  refine va_get (D := (dC, dI)) (ci := 4) (v := .ref md) (C := "LoggedStoreModel") (T := uM) (N := 18) hx hb hw inM hown hK hP 0 rfl rfl 1 (by decide) (hw _ w613) (fun _ h9 => h9) rfl dM_word_25 ?_
  refine lv_iconst (v := 4) hx hb dM_word_28 (by decide) ?_
  refine lv_iload_n hx hb dM_word_29 rfl (lv_at hl 1 rfl) ?_
  refine lv_imul hx hb dM_word_30 ?_
  refine lv_iload_n hx hb dM_word_31 rfl (lv_at hl 2 rfl) ?_
  refine lv_iadd hx hb dM_word_32 ?_
  refine va_iald hx hb hK hP 1 0 rfl rfl (by rw [tk_w]; exact vp_in_nI (by omega) (by decide)) dM_word_33 ?_
  refine lv_goto (tgt := 38) hx hb dM_word_34 (by decide) ?_
  have hP9 := hP.sub (ws' := [(m0, .inr (4, [.int 0, .ref md, .int 0, .int (-1), .int 0, .ref mh, .ref mn, .ref mc, .int 0, .int 1, .int 0, .int 0, .ref mo, .ref mb, .ref mk, .ref ml, .ref ms, .ref mw]))]) [0] rfl
  have hD9 := hD.sub (ws' := [(m0, .inr (4, [.int 0, .ref md, .int 0, .int (-1), .int 0, .ref mh, .ref mn, .ref mc, .int 0, .int 1, .int 0, .int 0, .ref mo, .ref mb, .ref mk, .ref ml, .ref ms, .ref mw]))]) [0] (by decide) rfl
  refine W.widen (k := 0) (n := 0) (by decide) (by decide) ?_
  exact W.iret (v := MW0 (((4 * (nI j)) + (nI i)) : Int32).toNatClampNeg) hx hb hr (fun t ht hW => ⟨⟨MW0 (((4 * (nI j)) + (nI i)) : Int32).toNatClampNeg, fun _ => 0, rfl, rfl, by rw [ht]; exact hP9, hD9⟩, hS.F ht⟩) hS.2.2 dM_word_38

set_option maxHeartbeats 4000000 in
set_option maxRecDepth 100000 in
theorem c_putWord0 (l : Launch) (dC : Nat → ClassId) (dI : Nat → Nat → Nat) (cI cZ cJ cT : ClassId) (m0 md mh mn mc mo mb mk ml ms mw : Nat) (v9 : Int32) (f : Nat → Int32) (sz : Nat) : Met l yM_putWord (Cond.code yM_putWord cM_putWord 4 none :: wsA) ({ frames := 0, cells := 0, slots := 0, locals := 0 }) (va_Pc [.ref m0, .int 1, .int 0, .int v9] (fun U => U.heap.size = sz ∧ va_P (dC, dI) vwC [(m0, .inr (4, [.int 0, .ref md, .int 0, .int (-1), .int 0, .ref mh, .ref mn, .ref mc, .int 0, .int 1, .int 0, .int 0, .ref mo, .ref mb, .ref mk, .ref ml, .ref ms, .ref mw])), (md, .inl (cI, 384, .inl f))] U.heap ∧ KK dC dI cI cZ cJ cT U ∧ va_D (fun _ => True) [(m0, .inr (4, [.int 0, .ref md, .int 0, .int (-1), .int 0, .ref mh, .ref mn, .ref mc, .int 0, .int 1, .int 0, .int 0, .ref mo, .ref mb, .ref mk, .ref ml, .ref ms, .ref mw])), (md, .inl (cI, 384, .inl f))])) (va_Qv (S := Nat → Nat) (fun _ => True) (fun u t => va_P (dC, dI) vwC [(m0, .inr (4, [.int 0, .ref md, .int 0, .int (-1), .int 0, .ref mh, .ref mn, .ref mc, .int 0, .int 1, .int 0, .int 0, .ref mo, .ref mb, .ref mk, .ref ml, .ref ms, .ref mw])), (md, .inl (cI, 384, .inl (upd f (4 : Int32).toNatClampNeg v9)))] t.heap ∧ va_D (va_A [(m0, .inr (4, [.int 0, .ref md, .int 0, .int (-1), .int 0, .ref mh, .ref mn, .ref mc, .int 0, .int 1, .int 0, .int 0, .ref mo, .ref mb, .ref mk, .ref ml, .ref ms, .ref mw])), (md, .inl (cI, 384, .inl f))] sz) [(m0, .inr (4, [.int 0, .ref md, .int 0, .int (-1), .int 0, .ref mh, .ref mn, .ref mc, .int 0, .int 1, .int 0, .int 0, .ref mo, .ref mb, .ref mk, .ref ml, .ref ms, .ref mw])), (md, .inl (cI, 384, .inl (upd f (4 : Int32).toNatClampNeg v9)))]) (va_A [(m0, .inr (4, [.int 0, .ref md, .int 0, .int (-1), .int 0, .ref mh, .ref mn, .ref mc, .int 0, .int 1, .int 0, .int 0, .ref mo, .ref mb, .ref mk, .ref ml, .ref ms, .ref mw])), (md, .inl (cI, 384, .inl f))] sz)) 0 0 (va_A [(m0, .inr (4, [.int 0, .ref md, .int 0, .int (-1), .int 0, .ref mh, .ref mn, .ref mc, .int 0, .int 1, .int 0, .int 0, .ref mo, .ref mb, .ref mk, .ref ml, .ref ms, .ref mw])), (md, .inl (cI, 384, .inl f))] sz) := by
  refine Met.ofW (cc := cM_putWord) (maxL := 4) (ret := none) (by decide) rfl ?_
  intro p e s m args below meth c s₁ B hml hv
  obtain ⟨rfl, hsz, hP, hKK, hD0⟩ := hv
  have hK := hKK.1
  have hx := B.exec
  have hb := B.bytes
  have hr := B.returns
  have hw : ∀ w ∈ wsA, w.before _ s = true := fun w h => atoms_spec (ws := (Cond.code yM_putWord cM_putWord 4 none :: wsA)) B.pre w (List.mem_cons_of_mem _ h)
  have hown : s.vm.findClass "LoggedStoreModel" = some m.cls := findClass_of_methodNamed B.named
  have hlocks := B.notSynchronized
  subst hsz
  have hD := hD0.self (sz := s.heap.size)
  generalize hAe : va_A [(m0, .inr (4, [.int 0, .ref md, .int 0, .int (-1), .int 0, .ref mh, .ref mn, .ref mc, .int 0, .int 1, .int 0, .int 0, .ref mo, .ref mb, .ref mk, .ref ml, .ref ms, .ref mw])), (md, .inl (cI, 384, .inl f))] s.heap.size = A at hD ⊢
  have hA : ∀ q : Nat, s.heap.size ≤ q → A q := fun q h => by rw [← hAe]; exact Or.inr h
  have hS : va_S A s.heap s.heap [] := va_S.rf
  have hl := lv_entry ([.ref m0, .int 1, .int 0, .int v9]) (n := 4) (Nat.le_of_ble_eq_true rfl)
  rw [lg_entry_eq]
  generalize (lg_sl ([.ref m0, .int 1, .int 0, .int v9]) ++ List.replicate (4 - (lg_sl ([.ref m0, .int 1, .int 0, .int v9])).length) Slot.unset).toArray = ls at hl ⊢
  have hl : lv_has ls 4 [(0, .ref m0), (1, .int 1), (2, .int 0), (3, .int v9)] := hl
  refine lv_aload_n hx hb dM_putWord_0 rfl (lv_at hl 0 rfl) ?_
  refine va_get (D := (dC, dI)) (ci := 4) (v := .int (-1)) (C := "LoggedStoreModel") (T := uM) (N := 18) hx hb hw inM hown hK hP 0 rfl rfl 3 (by decide) (hw _ w615) (fun _ h9 => h9) rfl dM_putWord_1 ?_
  refine lv_if_ne (tgt := 15) hx hb dM_putWord_4 (by decide) (fun _ => ?_) (fun h9 => absurd h9 (by decide))
  refine lv_aload_n hx hb dM_putWord_15 rfl (lv_at hl 0 rfl) ?_
  refine va_get (D := (dC, dI)) (ci := 4) (v := .ref md) (C := "LoggedStoreModel") (T := uM) (N := 18) hx hb hw inM hown hK hP 0 rfl rfl 1 (by decide) (hw _ w613) (fun _ h9 => h9) rfl dM_putWord_16 ?_
  refine lv_iconst (v := 4) hx hb dM_putWord_19 (by decide) ?_
  refine lv_iload_n hx hb dM_putWord_20 rfl (lv_at hl 1 rfl) ?_
  refine lv_imul hx hb dM_putWord_21 ?_
  refine lv_topi (nm_r (e' := 4) (by decide +kernel) ?_)
  refine lv_iload_n hx hb dM_putWord_22 rfl (lv_at hl 2 rfl) ?_
  refine lv_iadd hx hb dM_putWord_23 ?_
  refine lv_topi (nm_r (e' := 4) (by decide +kernel) ?_)
  refine lv_iload_n hx hb dM_putWord_24 rfl (lv_at hl 3 rfl) ?_
  refine va_iast hx hb hK hP hD hS 1 0 rfl rfl (tv_in (by decide +kernel)) dM_putWord_25 (fun H locs hP hD hS => ?_)
  have hP : va_P (dC, dI) vwC [(m0, .inr (4, [.int 0, .ref md, .int 0, .int (-1), .int 0, .ref mh, .ref mn, .ref mc, .int 0, .int 1, .int 0, .int 0, .ref mo, .ref mb, .ref mk, .ref ml, .ref ms, .ref mw])), (md, .inl (cI, 384, .inl (upd f (4 : Int32).toNatClampNeg v9)))] H := hP
  have hD : va_D A [(m0, .inr (4, [.int 0, .ref md, .int 0, .int (-1), .int 0, .ref mh, .ref mn, .ref mc, .int 0, .int 1, .int 0, .int 0, .ref mo, .ref mb, .ref mk, .ref ml, .ref ms, .ref mw])), (md, .inl (cI, 384, .inl (upd f (4 : Int32).toNatClampNeg v9)))] := hD
  have hP9 := hP.sub (ws' := [(m0, .inr (4, [.int 0, .ref md, .int 0, .int (-1), .int 0, .ref mh, .ref mn, .ref mc, .int 0, .int 1, .int 0, .int 0, .ref mo, .ref mb, .ref mk, .ref ml, .ref ms, .ref mw])), (md, .inl (cI, 384, .inl (upd f (4 : Int32).toNatClampNeg v9)))]) [0, 1] rfl
  have hD9 := hD.sub (ws' := [(m0, .inr (4, [.int 0, .ref md, .int 0, .int (-1), .int 0, .ref mh, .ref mn, .ref mc, .int 0, .int 1, .int 0, .int 0, .ref mo, .ref mb, .ref mk, .ref ml, .ref ms, .ref mw])), (md, .inl (cI, 384, .inl (upd f (4 : Int32).toNatClampNeg v9)))]) [0, 1] (by decide) rfl
  refine W.widen (k := 0) (n := 0) (by decide) (by decide) ?_
  exact W.vret hx hb hr (fun t ht hW => ⟨⟨fun _ => 0, rfl, trivial, by rw [ht]; exact hP9, hD9⟩, hS.F ht⟩) hS.2.2 dM_putWord_26

set_option maxHeartbeats 4000000 in
set_option maxRecDepth 100000 in
theorem c_putWord1 (l : Launch) (dC : Nat → ClassId) (dI : Nat → Nat → Nat) (cI cZ cJ cT : ClassId) (m0 md mh mn mc mo mb mk ml ms mw : Nat) (v9 : Int32) (f : Nat → Int32) (sz : Nat) : Met l yM_putWord (Cond.code yM_putWord cM_putWord 4 none :: wsA) ({ frames := 0, cells := 0, slots := 0, locals := 0 }) (va_Pc [.ref m0, .int 1, .int 1, .int v9] (fun U => U.heap.size = sz ∧ va_P (dC, dI) vwC [(m0, .inr (4, [.int 0, .ref md, .int 0, .int (-1), .int 0, .ref mh, .ref mn, .ref mc, .int 0, .int 1, .int 0, .int 0, .ref mo, .ref mb, .ref mk, .ref ml, .ref ms, .ref mw])), (md, .inl (cI, 384, .inl f))] U.heap ∧ KK dC dI cI cZ cJ cT U ∧ va_D (fun _ => True) [(m0, .inr (4, [.int 0, .ref md, .int 0, .int (-1), .int 0, .ref mh, .ref mn, .ref mc, .int 0, .int 1, .int 0, .int 0, .ref mo, .ref mb, .ref mk, .ref ml, .ref ms, .ref mw])), (md, .inl (cI, 384, .inl f))])) (va_Qv (S := Nat → Nat) (fun _ => True) (fun u t => va_P (dC, dI) vwC [(m0, .inr (4, [.int 0, .ref md, .int 0, .int (-1), .int 0, .ref mh, .ref mn, .ref mc, .int 0, .int 1, .int 0, .int 0, .ref mo, .ref mb, .ref mk, .ref ml, .ref ms, .ref mw])), (md, .inl (cI, 384, .inl (upd f (5 : Int32).toNatClampNeg v9)))] t.heap ∧ va_D (va_A [(m0, .inr (4, [.int 0, .ref md, .int 0, .int (-1), .int 0, .ref mh, .ref mn, .ref mc, .int 0, .int 1, .int 0, .int 0, .ref mo, .ref mb, .ref mk, .ref ml, .ref ms, .ref mw])), (md, .inl (cI, 384, .inl f))] sz) [(m0, .inr (4, [.int 0, .ref md, .int 0, .int (-1), .int 0, .ref mh, .ref mn, .ref mc, .int 0, .int 1, .int 0, .int 0, .ref mo, .ref mb, .ref mk, .ref ml, .ref ms, .ref mw])), (md, .inl (cI, 384, .inl (upd f (5 : Int32).toNatClampNeg v9)))]) (va_A [(m0, .inr (4, [.int 0, .ref md, .int 0, .int (-1), .int 0, .ref mh, .ref mn, .ref mc, .int 0, .int 1, .int 0, .int 0, .ref mo, .ref mb, .ref mk, .ref ml, .ref ms, .ref mw])), (md, .inl (cI, 384, .inl f))] sz)) 0 0 (va_A [(m0, .inr (4, [.int 0, .ref md, .int 0, .int (-1), .int 0, .ref mh, .ref mn, .ref mc, .int 0, .int 1, .int 0, .int 0, .ref mo, .ref mb, .ref mk, .ref ml, .ref ms, .ref mw])), (md, .inl (cI, 384, .inl f))] sz) := by
  refine Met.ofW (cc := cM_putWord) (maxL := 4) (ret := none) (by decide) rfl ?_
  intro p e s m args below meth c s₁ B hml hv
  obtain ⟨rfl, hsz, hP, hKK, hD0⟩ := hv
  have hK := hKK.1
  have hx := B.exec
  have hb := B.bytes
  have hr := B.returns
  have hw : ∀ w ∈ wsA, w.before _ s = true := fun w h => atoms_spec (ws := (Cond.code yM_putWord cM_putWord 4 none :: wsA)) B.pre w (List.mem_cons_of_mem _ h)
  have hown : s.vm.findClass "LoggedStoreModel" = some m.cls := findClass_of_methodNamed B.named
  have hlocks := B.notSynchronized
  subst hsz
  have hD := hD0.self (sz := s.heap.size)
  generalize hAe : va_A [(m0, .inr (4, [.int 0, .ref md, .int 0, .int (-1), .int 0, .ref mh, .ref mn, .ref mc, .int 0, .int 1, .int 0, .int 0, .ref mo, .ref mb, .ref mk, .ref ml, .ref ms, .ref mw])), (md, .inl (cI, 384, .inl f))] s.heap.size = A at hD ⊢
  have hA : ∀ q : Nat, s.heap.size ≤ q → A q := fun q h => by rw [← hAe]; exact Or.inr h
  have hS : va_S A s.heap s.heap [] := va_S.rf
  have hl := lv_entry ([.ref m0, .int 1, .int 1, .int v9]) (n := 4) (Nat.le_of_ble_eq_true rfl)
  rw [lg_entry_eq]
  generalize (lg_sl ([.ref m0, .int 1, .int 1, .int v9]) ++ List.replicate (4 - (lg_sl ([.ref m0, .int 1, .int 1, .int v9])).length) Slot.unset).toArray = ls at hl ⊢
  have hl : lv_has ls 4 [(0, .ref m0), (1, .int 1), (2, .int 1), (3, .int v9)] := hl
  refine lv_aload_n hx hb dM_putWord_0 rfl (lv_at hl 0 rfl) ?_
  refine va_get (D := (dC, dI)) (ci := 4) (v := .int (-1)) (C := "LoggedStoreModel") (T := uM) (N := 18) hx hb hw inM hown hK hP 0 rfl rfl 3 (by decide) (hw _ w615) (fun _ h9 => h9) rfl dM_putWord_1 ?_
  refine lv_if_ne (tgt := 15) hx hb dM_putWord_4 (by decide) (fun _ => ?_) (fun h9 => absurd h9 (by decide))
  refine lv_aload_n hx hb dM_putWord_15 rfl (lv_at hl 0 rfl) ?_
  refine va_get (D := (dC, dI)) (ci := 4) (v := .ref md) (C := "LoggedStoreModel") (T := uM) (N := 18) hx hb hw inM hown hK hP 0 rfl rfl 1 (by decide) (hw _ w613) (fun _ h9 => h9) rfl dM_putWord_16 ?_
  refine lv_iconst (v := 4) hx hb dM_putWord_19 (by decide) ?_
  refine lv_iload_n hx hb dM_putWord_20 rfl (lv_at hl 1 rfl) ?_
  refine lv_imul hx hb dM_putWord_21 ?_
  refine lv_topi (nm_r (e' := 4) (by decide +kernel) ?_)
  refine lv_iload_n hx hb dM_putWord_22 rfl (lv_at hl 2 rfl) ?_
  refine lv_iadd hx hb dM_putWord_23 ?_
  refine lv_topi (nm_r (e' := 5) (by decide +kernel) ?_)
  refine lv_iload_n hx hb dM_putWord_24 rfl (lv_at hl 3 rfl) ?_
  refine va_iast hx hb hK hP hD hS 1 0 rfl rfl (tv_in (by decide +kernel)) dM_putWord_25 (fun H locs hP hD hS => ?_)
  have hP : va_P (dC, dI) vwC [(m0, .inr (4, [.int 0, .ref md, .int 0, .int (-1), .int 0, .ref mh, .ref mn, .ref mc, .int 0, .int 1, .int 0, .int 0, .ref mo, .ref mb, .ref mk, .ref ml, .ref ms, .ref mw])), (md, .inl (cI, 384, .inl (upd f (5 : Int32).toNatClampNeg v9)))] H := hP
  have hD : va_D A [(m0, .inr (4, [.int 0, .ref md, .int 0, .int (-1), .int 0, .ref mh, .ref mn, .ref mc, .int 0, .int 1, .int 0, .int 0, .ref mo, .ref mb, .ref mk, .ref ml, .ref ms, .ref mw])), (md, .inl (cI, 384, .inl (upd f (5 : Int32).toNatClampNeg v9)))] := hD
  have hP9 := hP.sub (ws' := [(m0, .inr (4, [.int 0, .ref md, .int 0, .int (-1), .int 0, .ref mh, .ref mn, .ref mc, .int 0, .int 1, .int 0, .int 0, .ref mo, .ref mb, .ref mk, .ref ml, .ref ms, .ref mw])), (md, .inl (cI, 384, .inl (upd f (5 : Int32).toNatClampNeg v9)))]) [0, 1] rfl
  have hD9 := hD.sub (ws' := [(m0, .inr (4, [.int 0, .ref md, .int 0, .int (-1), .int 0, .ref mh, .ref mn, .ref mc, .int 0, .int 1, .int 0, .int 0, .ref mo, .ref mb, .ref mk, .ref ml, .ref ms, .ref mw])), (md, .inl (cI, 384, .inl (upd f (5 : Int32).toNatClampNeg v9)))]) [0, 1] (by decide) rfl
  refine W.widen (k := 0) (n := 0) (by decide) (by decide) ?_
  exact W.vret hx hb hr (fun t ht hW => ⟨⟨fun _ => 0, rfl, trivial, by rw [ht]; exact hP9, hD9⟩, hS.F ht⟩) hS.2.2 dM_putWord_26

set_option maxHeartbeats 4000000 in
set_option maxRecDepth 100000 in
theorem c_putWord2 (l : Launch) (dC : Nat → ClassId) (dI : Nat → Nat → Nat) (cI cZ cJ cT : ClassId) (m0 md mh mn mc mo mb mk ml ms mw : Nat) (v9 : Int32) (f : Nat → Int32) (sz : Nat) : Met l yM_putWord (Cond.code yM_putWord cM_putWord 4 none :: wsA) ({ frames := 0, cells := 0, slots := 0, locals := 0 }) (va_Pc [.ref m0, .int 1, .int 2, .int v9] (fun U => U.heap.size = sz ∧ va_P (dC, dI) vwC [(m0, .inr (4, [.int 0, .ref md, .int 0, .int (-1), .int 0, .ref mh, .ref mn, .ref mc, .int 0, .int 1, .int 0, .int 0, .ref mo, .ref mb, .ref mk, .ref ml, .ref ms, .ref mw])), (md, .inl (cI, 384, .inl f))] U.heap ∧ KK dC dI cI cZ cJ cT U ∧ va_D (fun _ => True) [(m0, .inr (4, [.int 0, .ref md, .int 0, .int (-1), .int 0, .ref mh, .ref mn, .ref mc, .int 0, .int 1, .int 0, .int 0, .ref mo, .ref mb, .ref mk, .ref ml, .ref ms, .ref mw])), (md, .inl (cI, 384, .inl f))])) (va_Qv (S := Nat → Nat) (fun _ => True) (fun u t => va_P (dC, dI) vwC [(m0, .inr (4, [.int 0, .ref md, .int 0, .int (-1), .int 0, .ref mh, .ref mn, .ref mc, .int 0, .int 1, .int 0, .int 0, .ref mo, .ref mb, .ref mk, .ref ml, .ref ms, .ref mw])), (md, .inl (cI, 384, .inl (upd f (6 : Int32).toNatClampNeg v9)))] t.heap ∧ va_D (va_A [(m0, .inr (4, [.int 0, .ref md, .int 0, .int (-1), .int 0, .ref mh, .ref mn, .ref mc, .int 0, .int 1, .int 0, .int 0, .ref mo, .ref mb, .ref mk, .ref ml, .ref ms, .ref mw])), (md, .inl (cI, 384, .inl f))] sz) [(m0, .inr (4, [.int 0, .ref md, .int 0, .int (-1), .int 0, .ref mh, .ref mn, .ref mc, .int 0, .int 1, .int 0, .int 0, .ref mo, .ref mb, .ref mk, .ref ml, .ref ms, .ref mw])), (md, .inl (cI, 384, .inl (upd f (6 : Int32).toNatClampNeg v9)))]) (va_A [(m0, .inr (4, [.int 0, .ref md, .int 0, .int (-1), .int 0, .ref mh, .ref mn, .ref mc, .int 0, .int 1, .int 0, .int 0, .ref mo, .ref mb, .ref mk, .ref ml, .ref ms, .ref mw])), (md, .inl (cI, 384, .inl f))] sz)) 0 0 (va_A [(m0, .inr (4, [.int 0, .ref md, .int 0, .int (-1), .int 0, .ref mh, .ref mn, .ref mc, .int 0, .int 1, .int 0, .int 0, .ref mo, .ref mb, .ref mk, .ref ml, .ref ms, .ref mw])), (md, .inl (cI, 384, .inl f))] sz) := by
  refine Met.ofW (cc := cM_putWord) (maxL := 4) (ret := none) (by decide) rfl ?_
  intro p e s m args below meth c s₁ B hml hv
  obtain ⟨rfl, hsz, hP, hKK, hD0⟩ := hv
  have hK := hKK.1
  have hx := B.exec
  have hb := B.bytes
  have hr := B.returns
  have hw : ∀ w ∈ wsA, w.before _ s = true := fun w h => atoms_spec (ws := (Cond.code yM_putWord cM_putWord 4 none :: wsA)) B.pre w (List.mem_cons_of_mem _ h)
  have hown : s.vm.findClass "LoggedStoreModel" = some m.cls := findClass_of_methodNamed B.named
  have hlocks := B.notSynchronized
  subst hsz
  have hD := hD0.self (sz := s.heap.size)
  generalize hAe : va_A [(m0, .inr (4, [.int 0, .ref md, .int 0, .int (-1), .int 0, .ref mh, .ref mn, .ref mc, .int 0, .int 1, .int 0, .int 0, .ref mo, .ref mb, .ref mk, .ref ml, .ref ms, .ref mw])), (md, .inl (cI, 384, .inl f))] s.heap.size = A at hD ⊢
  have hA : ∀ q : Nat, s.heap.size ≤ q → A q := fun q h => by rw [← hAe]; exact Or.inr h
  have hS : va_S A s.heap s.heap [] := va_S.rf
  have hl := lv_entry ([.ref m0, .int 1, .int 2, .int v9]) (n := 4) (Nat.le_of_ble_eq_true rfl)
  rw [lg_entry_eq]
  generalize (lg_sl ([.ref m0, .int 1, .int 2, .int v9]) ++ List.replicate (4 - (lg_sl ([.ref m0, .int 1, .int 2, .int v9])).length) Slot.unset).toArray = ls at hl ⊢
  have hl : lv_has ls 4 [(0, .ref m0), (1, .int 1), (2, .int 2), (3, .int v9)] := hl
  refine lv_aload_n hx hb dM_putWord_0 rfl (lv_at hl 0 rfl) ?_
  refine va_get (D := (dC, dI)) (ci := 4) (v := .int (-1)) (C := "LoggedStoreModel") (T := uM) (N := 18) hx hb hw inM hown hK hP 0 rfl rfl 3 (by decide) (hw _ w615) (fun _ h9 => h9) rfl dM_putWord_1 ?_
  refine lv_if_ne (tgt := 15) hx hb dM_putWord_4 (by decide) (fun _ => ?_) (fun h9 => absurd h9 (by decide))
  refine lv_aload_n hx hb dM_putWord_15 rfl (lv_at hl 0 rfl) ?_
  refine va_get (D := (dC, dI)) (ci := 4) (v := .ref md) (C := "LoggedStoreModel") (T := uM) (N := 18) hx hb hw inM hown hK hP 0 rfl rfl 1 (by decide) (hw _ w613) (fun _ h9 => h9) rfl dM_putWord_16 ?_
  refine lv_iconst (v := 4) hx hb dM_putWord_19 (by decide) ?_
  refine lv_iload_n hx hb dM_putWord_20 rfl (lv_at hl 1 rfl) ?_
  refine lv_imul hx hb dM_putWord_21 ?_
  refine lv_topi (nm_r (e' := 4) (by decide +kernel) ?_)
  refine lv_iload_n hx hb dM_putWord_22 rfl (lv_at hl 2 rfl) ?_
  refine lv_iadd hx hb dM_putWord_23 ?_
  refine lv_topi (nm_r (e' := 6) (by decide +kernel) ?_)
  refine lv_iload_n hx hb dM_putWord_24 rfl (lv_at hl 3 rfl) ?_
  refine va_iast hx hb hK hP hD hS 1 0 rfl rfl (tv_in (by decide +kernel)) dM_putWord_25 (fun H locs hP hD hS => ?_)
  have hP : va_P (dC, dI) vwC [(m0, .inr (4, [.int 0, .ref md, .int 0, .int (-1), .int 0, .ref mh, .ref mn, .ref mc, .int 0, .int 1, .int 0, .int 0, .ref mo, .ref mb, .ref mk, .ref ml, .ref ms, .ref mw])), (md, .inl (cI, 384, .inl (upd f (6 : Int32).toNatClampNeg v9)))] H := hP
  have hD : va_D A [(m0, .inr (4, [.int 0, .ref md, .int 0, .int (-1), .int 0, .ref mh, .ref mn, .ref mc, .int 0, .int 1, .int 0, .int 0, .ref mo, .ref mb, .ref mk, .ref ml, .ref ms, .ref mw])), (md, .inl (cI, 384, .inl (upd f (6 : Int32).toNatClampNeg v9)))] := hD
  have hP9 := hP.sub (ws' := [(m0, .inr (4, [.int 0, .ref md, .int 0, .int (-1), .int 0, .ref mh, .ref mn, .ref mc, .int 0, .int 1, .int 0, .int 0, .ref mo, .ref mb, .ref mk, .ref ml, .ref ms, .ref mw])), (md, .inl (cI, 384, .inl (upd f (6 : Int32).toNatClampNeg v9)))]) [0, 1] rfl
  have hD9 := hD.sub (ws' := [(m0, .inr (4, [.int 0, .ref md, .int 0, .int (-1), .int 0, .ref mh, .ref mn, .ref mc, .int 0, .int 1, .int 0, .int 0, .ref mo, .ref mb, .ref mk, .ref ml, .ref ms, .ref mw])), (md, .inl (cI, 384, .inl (upd f (6 : Int32).toNatClampNeg v9)))]) [0, 1] (by decide) rfl
  refine W.widen (k := 0) (n := 0) (by decide) (by decide) ?_
  exact W.vret hx hb hr (fun t ht hW => ⟨⟨fun _ => 0, rfl, trivial, by rw [ht]; exact hP9, hD9⟩, hS.F ht⟩) hS.2.2 dM_putWord_26

set_option maxHeartbeats 4000000 in
set_option maxRecDepth 100000 in
theorem c_putWord3 (l : Launch) (dC : Nat → ClassId) (dI : Nat → Nat → Nat) (cI cZ cJ cT : ClassId) (m0 md mh mn mc mo mb mk ml ms mw : Nat) (v9 : Int32) (f : Nat → Int32) (sz : Nat) : Met l yM_putWord (Cond.code yM_putWord cM_putWord 4 none :: wsA) ({ frames := 0, cells := 0, slots := 0, locals := 0 }) (va_Pc [.ref m0, .int 1, .int 3, .int v9] (fun U => U.heap.size = sz ∧ va_P (dC, dI) vwC [(m0, .inr (4, [.int 0, .ref md, .int 0, .int (-1), .int 0, .ref mh, .ref mn, .ref mc, .int 0, .int 1, .int 0, .int 0, .ref mo, .ref mb, .ref mk, .ref ml, .ref ms, .ref mw])), (md, .inl (cI, 384, .inl f))] U.heap ∧ KK dC dI cI cZ cJ cT U ∧ va_D (fun _ => True) [(m0, .inr (4, [.int 0, .ref md, .int 0, .int (-1), .int 0, .ref mh, .ref mn, .ref mc, .int 0, .int 1, .int 0, .int 0, .ref mo, .ref mb, .ref mk, .ref ml, .ref ms, .ref mw])), (md, .inl (cI, 384, .inl f))])) (va_Qv (S := Nat → Nat) (fun _ => True) (fun u t => va_P (dC, dI) vwC [(m0, .inr (4, [.int 0, .ref md, .int 0, .int (-1), .int 0, .ref mh, .ref mn, .ref mc, .int 0, .int 1, .int 0, .int 0, .ref mo, .ref mb, .ref mk, .ref ml, .ref ms, .ref mw])), (md, .inl (cI, 384, .inl (upd f (7 : Int32).toNatClampNeg v9)))] t.heap ∧ va_D (va_A [(m0, .inr (4, [.int 0, .ref md, .int 0, .int (-1), .int 0, .ref mh, .ref mn, .ref mc, .int 0, .int 1, .int 0, .int 0, .ref mo, .ref mb, .ref mk, .ref ml, .ref ms, .ref mw])), (md, .inl (cI, 384, .inl f))] sz) [(m0, .inr (4, [.int 0, .ref md, .int 0, .int (-1), .int 0, .ref mh, .ref mn, .ref mc, .int 0, .int 1, .int 0, .int 0, .ref mo, .ref mb, .ref mk, .ref ml, .ref ms, .ref mw])), (md, .inl (cI, 384, .inl (upd f (7 : Int32).toNatClampNeg v9)))]) (va_A [(m0, .inr (4, [.int 0, .ref md, .int 0, .int (-1), .int 0, .ref mh, .ref mn, .ref mc, .int 0, .int 1, .int 0, .int 0, .ref mo, .ref mb, .ref mk, .ref ml, .ref ms, .ref mw])), (md, .inl (cI, 384, .inl f))] sz)) 0 0 (va_A [(m0, .inr (4, [.int 0, .ref md, .int 0, .int (-1), .int 0, .ref mh, .ref mn, .ref mc, .int 0, .int 1, .int 0, .int 0, .ref mo, .ref mb, .ref mk, .ref ml, .ref ms, .ref mw])), (md, .inl (cI, 384, .inl f))] sz) := by
  refine Met.ofW (cc := cM_putWord) (maxL := 4) (ret := none) (by decide) rfl ?_
  intro p e s m args below meth c s₁ B hml hv
  obtain ⟨rfl, hsz, hP, hKK, hD0⟩ := hv
  have hK := hKK.1
  have hx := B.exec
  have hb := B.bytes
  have hr := B.returns
  have hw : ∀ w ∈ wsA, w.before _ s = true := fun w h => atoms_spec (ws := (Cond.code yM_putWord cM_putWord 4 none :: wsA)) B.pre w (List.mem_cons_of_mem _ h)
  have hown : s.vm.findClass "LoggedStoreModel" = some m.cls := findClass_of_methodNamed B.named
  have hlocks := B.notSynchronized
  subst hsz
  have hD := hD0.self (sz := s.heap.size)
  generalize hAe : va_A [(m0, .inr (4, [.int 0, .ref md, .int 0, .int (-1), .int 0, .ref mh, .ref mn, .ref mc, .int 0, .int 1, .int 0, .int 0, .ref mo, .ref mb, .ref mk, .ref ml, .ref ms, .ref mw])), (md, .inl (cI, 384, .inl f))] s.heap.size = A at hD ⊢
  have hA : ∀ q : Nat, s.heap.size ≤ q → A q := fun q h => by rw [← hAe]; exact Or.inr h
  have hS : va_S A s.heap s.heap [] := va_S.rf
  have hl := lv_entry ([.ref m0, .int 1, .int 3, .int v9]) (n := 4) (Nat.le_of_ble_eq_true rfl)
  rw [lg_entry_eq]
  generalize (lg_sl ([.ref m0, .int 1, .int 3, .int v9]) ++ List.replicate (4 - (lg_sl ([.ref m0, .int 1, .int 3, .int v9])).length) Slot.unset).toArray = ls at hl ⊢
  have hl : lv_has ls 4 [(0, .ref m0), (1, .int 1), (2, .int 3), (3, .int v9)] := hl
  refine lv_aload_n hx hb dM_putWord_0 rfl (lv_at hl 0 rfl) ?_
  refine va_get (D := (dC, dI)) (ci := 4) (v := .int (-1)) (C := "LoggedStoreModel") (T := uM) (N := 18) hx hb hw inM hown hK hP 0 rfl rfl 3 (by decide) (hw _ w615) (fun _ h9 => h9) rfl dM_putWord_1 ?_
  refine lv_if_ne (tgt := 15) hx hb dM_putWord_4 (by decide) (fun _ => ?_) (fun h9 => absurd h9 (by decide))
  refine lv_aload_n hx hb dM_putWord_15 rfl (lv_at hl 0 rfl) ?_
  refine va_get (D := (dC, dI)) (ci := 4) (v := .ref md) (C := "LoggedStoreModel") (T := uM) (N := 18) hx hb hw inM hown hK hP 0 rfl rfl 1 (by decide) (hw _ w613) (fun _ h9 => h9) rfl dM_putWord_16 ?_
  refine lv_iconst (v := 4) hx hb dM_putWord_19 (by decide) ?_
  refine lv_iload_n hx hb dM_putWord_20 rfl (lv_at hl 1 rfl) ?_
  refine lv_imul hx hb dM_putWord_21 ?_
  refine lv_topi (nm_r (e' := 4) (by decide +kernel) ?_)
  refine lv_iload_n hx hb dM_putWord_22 rfl (lv_at hl 2 rfl) ?_
  refine lv_iadd hx hb dM_putWord_23 ?_
  refine lv_topi (nm_r (e' := 7) (by decide +kernel) ?_)
  refine lv_iload_n hx hb dM_putWord_24 rfl (lv_at hl 3 rfl) ?_
  refine va_iast hx hb hK hP hD hS 1 0 rfl rfl (tv_in (by decide +kernel)) dM_putWord_25 (fun H locs hP hD hS => ?_)
  have hP : va_P (dC, dI) vwC [(m0, .inr (4, [.int 0, .ref md, .int 0, .int (-1), .int 0, .ref mh, .ref mn, .ref mc, .int 0, .int 1, .int 0, .int 0, .ref mo, .ref mb, .ref mk, .ref ml, .ref ms, .ref mw])), (md, .inl (cI, 384, .inl (upd f (7 : Int32).toNatClampNeg v9)))] H := hP
  have hD : va_D A [(m0, .inr (4, [.int 0, .ref md, .int 0, .int (-1), .int 0, .ref mh, .ref mn, .ref mc, .int 0, .int 1, .int 0, .int 0, .ref mo, .ref mb, .ref mk, .ref ml, .ref ms, .ref mw])), (md, .inl (cI, 384, .inl (upd f (7 : Int32).toNatClampNeg v9)))] := hD
  have hP9 := hP.sub (ws' := [(m0, .inr (4, [.int 0, .ref md, .int 0, .int (-1), .int 0, .ref mh, .ref mn, .ref mc, .int 0, .int 1, .int 0, .int 0, .ref mo, .ref mb, .ref mk, .ref ml, .ref ms, .ref mw])), (md, .inl (cI, 384, .inl (upd f (7 : Int32).toNatClampNeg v9)))]) [0, 1] rfl
  have hD9 := hD.sub (ws' := [(m0, .inr (4, [.int 0, .ref md, .int 0, .int (-1), .int 0, .ref mh, .ref mn, .ref mc, .int 0, .int 1, .int 0, .int 0, .ref mo, .ref mb, .ref mk, .ref ml, .ref ms, .ref mw])), (md, .inl (cI, 384, .inl (upd f (7 : Int32).toNatClampNeg v9)))]) [0, 1] (by decide) rfl
  refine W.widen (k := 0) (n := 0) (by decide) (by decide) ?_
  exact W.vret hx hb hr (fun t ht hW => ⟨⟨fun _ => 0, rfl, trivial, by rw [ht]; exact hP9, hD9⟩, hS.F ht⟩) hS.2.2 dM_putWord_26

set_option maxHeartbeats 4000000 in
set_option maxRecDepth 100000 in
theorem c_M_write (l : Launch) (dC : Nat → ClassId) (dI : Nat → Nat → Nat) (cI cZ cJ cT : ClassId) (m0 md mh mn mc mo mb mk ml ms mw : Nat) (a b c9 e9 : Int32) (f : Nat → Int32) (sz : Nat) : Met l yM_write (Cond.code yM_write cM_write 6 none :: wsA) ({ frames := 1, cells := 0, slots := 0, locals := 23 }) (va_Pc [.ref m0, .int 1, .int a, .int b, .int c9, .int e9] (fun U => U.heap.size = sz ∧ va_P (dC, dI) vwC [(m0, .inr (4, [.int 0, .ref md, .int 0, .int (-1), .int 0, .ref mh, .ref mn, .ref mc, .int 0, .int 1, .int 0, .int 0, .ref mo, .ref mb, .ref mk, .ref ml, .ref ms, .ref mw])), (md, .inl (cI, 384, .inl f))] U.heap ∧ KK dC dI cI cZ cJ cT U ∧ va_D (fun _ => True) [(m0, .inr (4, [.int 0, .ref md, .int 0, .int (-1), .int 0, .ref mh, .ref mn, .ref mc, .int 0, .int 1, .int 0, .int 0, .ref mo, .ref mb, .ref mk, .ref ml, .ref ms, .ref mw])), (md, .inl (cI, 384, .inl f))])) (va_Qv (S := Nat → Nat) (fun _ => True) (fun u t => va_P (dC, dI) vwC [(m0, .inr (4, [.int 0, .ref md, .int 0, .int (-1), .int 0, .ref mh, .ref mn, .ref mc, .int 0, .int 1, .int 0, .int 0, .ref mo, .ref mb, .ref mk, .ref ml, .ref ms, .ref mw]))] t.heap ∧ va_D (va_A [(m0, .inr (4, [.int 0, .ref md, .int 0, .int (-1), .int 0, .ref mh, .ref mn, .ref mc, .int 0, .int 1, .int 0, .int 0, .ref mo, .ref mb, .ref mk, .ref ml, .ref ms, .ref mw])), (md, .inl (cI, 384, .inl f))] sz) [(m0, .inr (4, [.int 0, .ref md, .int 0, .int (-1), .int 0, .ref mh, .ref mn, .ref mc, .int 0, .int 1, .int 0, .int 0, .ref mo, .ref mb, .ref mk, .ref ml, .ref ms, .ref mw]))]) (va_A [(m0, .inr (4, [.int 0, .ref md, .int 0, .int (-1), .int 0, .ref mh, .ref mn, .ref mc, .int 0, .int 1, .int 0, .int 0, .ref mo, .ref mb, .ref mk, .ref ml, .ref ms, .ref mw])), (md, .inl (cI, 384, .inl f))] sz)) 0 0 (va_A [(m0, .inr (4, [.int 0, .ref md, .int 0, .int (-1), .int 0, .ref mh, .ref mn, .ref mc, .int 0, .int 1, .int 0, .int 0, .ref mo, .ref mb, .ref mk, .ref ml, .ref ms, .ref mw])), (md, .inl (cI, 384, .inl f))] sz) := by
  refine Met.ofW (cc := cM_write) (maxL := 6) (ret := none) (by decide) rfl ?_
  intro p e s m args below meth c s₁ B hml hv
  obtain ⟨rfl, hsz, hP, hKK, hD0⟩ := hv
  have hK := hKK.1
  have hx := B.exec
  have hb := B.bytes
  have hr := B.returns
  have hw : ∀ w ∈ wsA, w.before _ s = true := fun w h => atoms_spec (ws := (Cond.code yM_write cM_write 6 none :: wsA)) B.pre w (List.mem_cons_of_mem _ h)
  have hown : s.vm.findClass "LoggedStoreModel" = some m.cls := findClass_of_methodNamed B.named
  have hlocks := B.notSynchronized
  subst hsz
  have hD := hD0.self (sz := s.heap.size)
  generalize hAe : va_A [(m0, .inr (4, [.int 0, .ref md, .int 0, .int (-1), .int 0, .ref mh, .ref mn, .ref mc, .int 0, .int 1, .int 0, .int 0, .ref mo, .ref mb, .ref mk, .ref ml, .ref ms, .ref mw])), (md, .inl (cI, 384, .inl f))] s.heap.size = A at hD ⊢
  have hA : ∀ q : Nat, s.heap.size ≤ q → A q := fun q h => by rw [← hAe]; exact Or.inr h
  have hS : va_S A s.heap s.heap [] := va_S.rf
  have hl := lv_entry ([.ref m0, .int 1, .int a, .int b, .int c9, .int e9]) (n := 6) (Nat.le_of_ble_eq_true rfl)
  rw [lg_entry_eq]
  generalize (lg_sl ([.ref m0, .int 1, .int a, .int b, .int c9, .int e9]) ++ List.replicate (6 - (lg_sl ([.ref m0, .int 1, .int a, .int b, .int c9, .int e9])).length) Slot.unset).toArray = ls at hl ⊢
  have hl : lv_has ls 6 [(0, .ref m0), (1, .int 1), (2, .int a), (3, .int b), (4, .int c9), (5, .int e9)] := hl
  refine lv_aload_n hx hb dM_write_0 rfl (lv_at hl 0 rfl) ?_
  refine va_get (D := (dC, dI)) (ci := 4) (v := .int 0) (C := "LoggedStoreModel") (T := uM) (N := 18) hx hb hw inM hown hK hP 0 rfl rfl 2 (by decide) (hw _ w614) (fun _ h9 => h9) rfl dM_write_1 ?_
  refine lv_if_eq (tgt := 8) hx hb dM_write_4 (by decide) (fun _ => ?_) (fun h9 => absurd (by decide) h9)
  refine lv_aload_n hx hb dM_write_8 rfl (lv_at hl 0 rfl) ?_
  refine lv_iload_n hx hb dM_write_9 rfl (lv_at hl 1 rfl) ?_
  refine lv_iconst (v := 0) hx hb dM_write_10 (by decide) ?_
  refine lv_iload_n hx hb dM_write_11 rfl (lv_at hl 2 rfl) ?_
  have hPc := hP.sub (ws' := [(m0, .inr (4, [.int 0, .ref md, .int 0, .int (-1), .int 0, .ref mh, .ref mn, .ref mc, .int 0, .int 1, .int 0, .int 0, .ref mo, .ref mb, .ref mk, .ref ml, .ref ms, .ref mw])), (md, .inl (cI, 384, .inl f))]) [0, 1] rfl
  have hDc := hD.sub (ws' := [(m0, .inr (4, [.int 0, .ref md, .int 0, .int (-1), .int 0, .ref mh, .ref mn, .ref mc, .int 0, .int 1, .int 0, .int 0, .ref mo, .ref mb, .ref mk, .ref ml, .ref ms, .ref mw])), (md, .inl (cI, 384, .inl f))]) [0, 1] (by decide) rfl
  have hFc := va_free (wc := [(m0, .inr (4, [.int 0, .ref md, .int 0, .int (-1), .int 0, .ref mh, .ref mn, .ref mc, .int 0, .int 1, .int 0, .int 0, .ref mo, .ref mb, .ref mk, .ref ml, .ref ms, .ref mw])), (md, .inl (cI, 384, .inl f))]) hD hS hA [0, 1] rfl
  refine va_callv (va_runV (C := "LoggedStoreModel") (b := m0) (As := [.int 1, .int 0, .int a]) (rest := []) ⟨hx, hb, hml, hown, hw⟩ (c_putWord0 l dC dI cI cZ cJ cT m0 md mh mn mc mo mb mk ml ms mw a f s.heap.size) ⟨callB_of 3 hw (gA0 w741) rfl rfl rfl (hw _ w45) (hw _ w738) (by decide +kernel) ⟨Nat.le_of_ble_eq_true rfl, Nat.le_of_ble_eq_true rfl⟩, (hw _ w740), (hw _ w30)⟩ ⟨kb_Q, va_recv (ci := 4) (q0 := 0) hK hP rfl rfl, fun U hU hW => ⟨rfl, by rw [hU], by rw [hU]; exact hPc, hKK.moved hW, hDc.weaken (fun _ _ _ _ => trivial)⟩⟩ rfl rfl hl.1 rfl (lv_room (Nat.le_of_ble_eq_true rfl)) dM_write_12 ⟨Nat.le_of_ble_eq_true rfl, Nat.le_of_ble_eq_true rfl⟩) hS (fun q _ h => hFc q h) hFc (fun u2 t H1 locs ht hvm he9 hB hz1 hk1 hS => ?_)
  obtain ⟨hP1, hD1⟩ := hB
  rw [ht] at hP1
  obtain ⟨hP, hD⟩ := va_join (wr := []) (w1 := [(m0, .inr (4, [.int 0, .ref md, .int 0, .int (-1), .int 0, .ref mh, .ref mn, .ref mc, .int 0, .int 1, .int 0, .int 0, .ref mo, .ref mb, .ref mk, .ref ml, .ref ms, .ref mw])), (md, .inl (cI, 384, .inl (upd f (4 : Int32).toNatClampNeg a)))]) hP hD [0, 1] [] rfl rfl (by decide) (by decide) hk1 hFc hP1 hD1
  generalize H1 = H at hP hS ⊢
  have hP : va_P (dC, dI) vwC [(m0, .inr (4, [.int 0, .ref md, .int 0, .int (-1), .int 0, .ref mh, .ref mn, .ref mc, .int 0, .int 1, .int 0, .int 0, .ref mo, .ref mb, .ref mk, .ref ml, .ref ms, .ref mw])), (md, .inl (cI, 384, .inl (upd f (4 : Int32).toNatClampNeg a)))] H := hP
  have hD : va_D A [(m0, .inr (4, [.int 0, .ref md, .int 0, .int (-1), .int 0, .ref mh, .ref mn, .ref mc, .int 0, .int 1, .int 0, .int 0, .ref mo, .ref mb, .ref mk, .ref ml, .ref ms, .ref mw])), (md, .inl (cI, 384, .inl (upd f (4 : Int32).toNatClampNeg a)))] := hD
  refine lv_aload_n hx hb dM_write_15 rfl (lv_at hl 0 rfl) ?_
  refine lv_iload_n hx hb dM_write_16 rfl (lv_at hl 1 rfl) ?_
  refine lv_iconst (v := 1) hx hb dM_write_17 (by decide) ?_
  refine lv_iload_n hx hb dM_write_18 rfl (lv_at hl 3 rfl) ?_
  have hPc := hP.sub (ws' := [(m0, .inr (4, [.int 0, .ref md, .int 0, .int (-1), .int 0, .ref mh, .ref mn, .ref mc, .int 0, .int 1, .int 0, .int 0, .ref mo, .ref mb, .ref mk, .ref ml, .ref ms, .ref mw])), (md, .inl (cI, 384, .inl (upd f (4 : Int32).toNatClampNeg a)))]) [0, 1] rfl
  have hDc := hD.sub (ws' := [(m0, .inr (4, [.int 0, .ref md, .int 0, .int (-1), .int 0, .ref mh, .ref mn, .ref mc, .int 0, .int 1, .int 0, .int 0, .ref mo, .ref mb, .ref mk, .ref ml, .ref ms, .ref mw])), (md, .inl (cI, 384, .inl (upd f (4 : Int32).toNatClampNeg a)))]) [0, 1] (by decide) rfl
  have hFc := va_free (wc := [(m0, .inr (4, [.int 0, .ref md, .int 0, .int (-1), .int 0, .ref mh, .ref mn, .ref mc, .int 0, .int 1, .int 0, .int 0, .ref mo, .ref mb, .ref mk, .ref ml, .ref ms, .ref mw])), (md, .inl (cI, 384, .inl (upd f (4 : Int32).toNatClampNeg a)))]) hD hS hA [0, 1] rfl
  refine va_callv (va_runV (C := "LoggedStoreModel") (b := m0) (As := [.int 1, .int 1, .int b]) (rest := []) ⟨hx, hb, hml, hown, hw⟩ (c_putWord1 l dC dI cI cZ cJ cT m0 md mh mn mc mo mb mk ml ms mw b (upd f (4 : Int32).toNatClampNeg a) H.size) ⟨callB_of 3 hw (gA0 w741) rfl rfl rfl (hw _ w45) (hw _ w738) (by decide +kernel) ⟨Nat.le_of_ble_eq_true rfl, Nat.le_of_ble_eq_true rfl⟩, (hw _ w740), (hw _ w30)⟩ ⟨kb_Q, va_recv (ci := 4) (q0 := 0) hK hP rfl rfl, fun U hU hW => ⟨rfl, by rw [hU], by rw [hU]; exact hPc, hKK.moved hW, hDc.weaken (fun _ _ _ _ => trivial)⟩⟩ rfl rfl hl.1 rfl (lv_room (Nat.le_of_ble_eq_true rfl)) dM_write_19 ⟨Nat.le_of_ble_eq_true rfl, Nat.le_of_ble_eq_true rfl⟩) hS (fun q _ h => hFc q h) hFc (fun u4 t H1 locs ht hvm he9 hB hz1 hk1 hS => ?_)
  obtain ⟨hP1, hD1⟩ := hB
  rw [ht] at hP1
  obtain ⟨hP, hD⟩ := va_join (wr := []) (w1 := [(m0, .inr (4, [.int 0, .ref md, .int 0, .int (-1), .int 0, .ref mh, .ref mn, .ref mc, .int 0, .int 1, .int 0, .int 0, .ref mo, .ref mb, .ref mk, .ref ml, .ref ms, .ref mw])), (md, .inl (cI, 384, .inl (upd (upd f (4 : Int32).toNatClampNeg a) (5 : Int32).toNatClampNeg b)))]) hP hD [0, 1] [] rfl rfl (by decide) (by decide) hk1 hFc hP1 hD1
  generalize H1 = H at hP hS ⊢
  have hP : va_P (dC, dI) vwC [(m0, .inr (4, [.int 0, .ref md, .int 0, .int (-1), .int 0, .ref mh, .ref mn, .ref mc, .int 0, .int 1, .int 0, .int 0, .ref mo, .ref mb, .ref mk, .ref ml, .ref ms, .ref mw])), (md, .inl (cI, 384, .inl (upd (upd f (4 : Int32).toNatClampNeg a) (5 : Int32).toNatClampNeg b)))] H := hP
  have hD : va_D A [(m0, .inr (4, [.int 0, .ref md, .int 0, .int (-1), .int 0, .ref mh, .ref mn, .ref mc, .int 0, .int 1, .int 0, .int 0, .ref mo, .ref mb, .ref mk, .ref ml, .ref ms, .ref mw])), (md, .inl (cI, 384, .inl (upd (upd f (4 : Int32).toNatClampNeg a) (5 : Int32).toNatClampNeg b)))] := hD
  refine lv_aload_n hx hb dM_write_22 rfl (lv_at hl 0 rfl) ?_
  refine lv_iload_n hx hb dM_write_23 rfl (lv_at hl 1 rfl) ?_
  refine lv_iconst (v := 2) hx hb dM_write_24 (by decide) ?_
  refine lv_iload hx hb dM_write_25 (lv_at hl 4 rfl) ?_
  have hPc := hP.sub (ws' := [(m0, .inr (4, [.int 0, .ref md, .int 0, .int (-1), .int 0, .ref mh, .ref mn, .ref mc, .int 0, .int 1, .int 0, .int 0, .ref mo, .ref mb, .ref mk, .ref ml, .ref ms, .ref mw])), (md, .inl (cI, 384, .inl (upd (upd f (4 : Int32).toNatClampNeg a) (5 : Int32).toNatClampNeg b)))]) [0, 1] rfl
  have hDc := hD.sub (ws' := [(m0, .inr (4, [.int 0, .ref md, .int 0, .int (-1), .int 0, .ref mh, .ref mn, .ref mc, .int 0, .int 1, .int 0, .int 0, .ref mo, .ref mb, .ref mk, .ref ml, .ref ms, .ref mw])), (md, .inl (cI, 384, .inl (upd (upd f (4 : Int32).toNatClampNeg a) (5 : Int32).toNatClampNeg b)))]) [0, 1] (by decide) rfl
  have hFc := va_free (wc := [(m0, .inr (4, [.int 0, .ref md, .int 0, .int (-1), .int 0, .ref mh, .ref mn, .ref mc, .int 0, .int 1, .int 0, .int 0, .ref mo, .ref mb, .ref mk, .ref ml, .ref ms, .ref mw])), (md, .inl (cI, 384, .inl (upd (upd f (4 : Int32).toNatClampNeg a) (5 : Int32).toNatClampNeg b)))]) hD hS hA [0, 1] rfl
  refine va_callv (va_runV (C := "LoggedStoreModel") (b := m0) (As := [.int 1, .int 2, .int c9]) (rest := []) ⟨hx, hb, hml, hown, hw⟩ (c_putWord2 l dC dI cI cZ cJ cT m0 md mh mn mc mo mb mk ml ms mw c9 (upd (upd f (4 : Int32).toNatClampNeg a) (5 : Int32).toNatClampNeg b) H.size) ⟨callB_of 3 hw (gA0 w741) rfl rfl rfl (hw _ w45) (hw _ w738) (by decide +kernel) ⟨Nat.le_of_ble_eq_true rfl, Nat.le_of_ble_eq_true rfl⟩, (hw _ w740), (hw _ w30)⟩ ⟨kb_Q, va_recv (ci := 4) (q0 := 0) hK hP rfl rfl, fun U hU hW => ⟨rfl, by rw [hU], by rw [hU]; exact hPc, hKK.moved hW, hDc.weaken (fun _ _ _ _ => trivial)⟩⟩ rfl rfl hl.1 rfl (lv_room (Nat.le_of_ble_eq_true rfl)) dM_write_27 ⟨Nat.le_of_ble_eq_true rfl, Nat.le_of_ble_eq_true rfl⟩) hS (fun q _ h => hFc q h) hFc (fun u6 t H1 locs ht hvm he9 hB hz1 hk1 hS => ?_)
  obtain ⟨hP1, hD1⟩ := hB
  rw [ht] at hP1
  obtain ⟨hP, hD⟩ := va_join (wr := []) (w1 := [(m0, .inr (4, [.int 0, .ref md, .int 0, .int (-1), .int 0, .ref mh, .ref mn, .ref mc, .int 0, .int 1, .int 0, .int 0, .ref mo, .ref mb, .ref mk, .ref ml, .ref ms, .ref mw])), (md, .inl (cI, 384, .inl (upd (upd (upd f (4 : Int32).toNatClampNeg a) (5 : Int32).toNatClampNeg b) (6 : Int32).toNatClampNeg c9)))]) hP hD [0, 1] [] rfl rfl (by decide) (by decide) hk1 hFc hP1 hD1
  generalize H1 = H at hP hS ⊢
  have hP : va_P (dC, dI) vwC [(m0, .inr (4, [.int 0, .ref md, .int 0, .int (-1), .int 0, .ref mh, .ref mn, .ref mc, .int 0, .int 1, .int 0, .int 0, .ref mo, .ref mb, .ref mk, .ref ml, .ref ms, .ref mw])), (md, .inl (cI, 384, .inl (upd (upd (upd f (4 : Int32).toNatClampNeg a) (5 : Int32).toNatClampNeg b) (6 : Int32).toNatClampNeg c9)))] H := hP
  have hD : va_D A [(m0, .inr (4, [.int 0, .ref md, .int 0, .int (-1), .int 0, .ref mh, .ref mn, .ref mc, .int 0, .int 1, .int 0, .int 0, .ref mo, .ref mb, .ref mk, .ref ml, .ref ms, .ref mw])), (md, .inl (cI, 384, .inl (upd (upd (upd f (4 : Int32).toNatClampNeg a) (5 : Int32).toNatClampNeg b) (6 : Int32).toNatClampNeg c9)))] := hD
  refine lv_aload_n hx hb dM_write_30 rfl (lv_at hl 0 rfl) ?_
  refine lv_iload_n hx hb dM_write_31 rfl (lv_at hl 1 rfl) ?_
  refine lv_iconst (v := 3) hx hb dM_write_32 (by decide) ?_
  refine lv_iload hx hb dM_write_33 (lv_at hl 5 rfl) ?_
  have hPc := hP.sub (ws' := [(m0, .inr (4, [.int 0, .ref md, .int 0, .int (-1), .int 0, .ref mh, .ref mn, .ref mc, .int 0, .int 1, .int 0, .int 0, .ref mo, .ref mb, .ref mk, .ref ml, .ref ms, .ref mw])), (md, .inl (cI, 384, .inl (upd (upd (upd f (4 : Int32).toNatClampNeg a) (5 : Int32).toNatClampNeg b) (6 : Int32).toNatClampNeg c9)))]) [0, 1] rfl
  have hDc := hD.sub (ws' := [(m0, .inr (4, [.int 0, .ref md, .int 0, .int (-1), .int 0, .ref mh, .ref mn, .ref mc, .int 0, .int 1, .int 0, .int 0, .ref mo, .ref mb, .ref mk, .ref ml, .ref ms, .ref mw])), (md, .inl (cI, 384, .inl (upd (upd (upd f (4 : Int32).toNatClampNeg a) (5 : Int32).toNatClampNeg b) (6 : Int32).toNatClampNeg c9)))]) [0, 1] (by decide) rfl
  have hFc := va_free (wc := [(m0, .inr (4, [.int 0, .ref md, .int 0, .int (-1), .int 0, .ref mh, .ref mn, .ref mc, .int 0, .int 1, .int 0, .int 0, .ref mo, .ref mb, .ref mk, .ref ml, .ref ms, .ref mw])), (md, .inl (cI, 384, .inl (upd (upd (upd f (4 : Int32).toNatClampNeg a) (5 : Int32).toNatClampNeg b) (6 : Int32).toNatClampNeg c9)))]) hD hS hA [0, 1] rfl
  refine va_callv (va_runV (C := "LoggedStoreModel") (b := m0) (As := [.int 1, .int 3, .int e9]) (rest := []) ⟨hx, hb, hml, hown, hw⟩ (c_putWord3 l dC dI cI cZ cJ cT m0 md mh mn mc mo mb mk ml ms mw e9 (upd (upd (upd f (4 : Int32).toNatClampNeg a) (5 : Int32).toNatClampNeg b) (6 : Int32).toNatClampNeg c9) H.size) ⟨callB_of 3 hw (gA0 w741) rfl rfl rfl (hw _ w45) (hw _ w738) (by decide +kernel) ⟨Nat.le_of_ble_eq_true rfl, Nat.le_of_ble_eq_true rfl⟩, (hw _ w740), (hw _ w30)⟩ ⟨kb_Q, va_recv (ci := 4) (q0 := 0) hK hP rfl rfl, fun U hU hW => ⟨rfl, by rw [hU], by rw [hU]; exact hPc, hKK.moved hW, hDc.weaken (fun _ _ _ _ => trivial)⟩⟩ rfl rfl hl.1 rfl (lv_room (Nat.le_of_ble_eq_true rfl)) dM_write_35 ⟨Nat.le_of_ble_eq_true rfl, Nat.le_of_ble_eq_true rfl⟩) hS (fun q _ h => hFc q h) hFc (fun u8 t H1 locs ht hvm he9 hB hz1 hk1 hS => ?_)
  obtain ⟨hP1, hD1⟩ := hB
  rw [ht] at hP1
  obtain ⟨hP, hD⟩ := va_join (wr := []) (w1 := [(m0, .inr (4, [.int 0, .ref md, .int 0, .int (-1), .int 0, .ref mh, .ref mn, .ref mc, .int 0, .int 1, .int 0, .int 0, .ref mo, .ref mb, .ref mk, .ref ml, .ref ms, .ref mw])), (md, .inl (cI, 384, .inl (upd (upd (upd (upd f (4 : Int32).toNatClampNeg a) (5 : Int32).toNatClampNeg b) (6 : Int32).toNatClampNeg c9) (7 : Int32).toNatClampNeg e9)))]) hP hD [0, 1] [] rfl rfl (by decide) (by decide) hk1 hFc hP1 hD1
  generalize H1 = H at hP hS ⊢
  have hP : va_P (dC, dI) vwC [(m0, .inr (4, [.int 0, .ref md, .int 0, .int (-1), .int 0, .ref mh, .ref mn, .ref mc, .int 0, .int 1, .int 0, .int 0, .ref mo, .ref mb, .ref mk, .ref ml, .ref ms, .ref mw])), (md, .inl (cI, 384, .inl (upd (upd (upd (upd f (4 : Int32).toNatClampNeg a) (5 : Int32).toNatClampNeg b) (6 : Int32).toNatClampNeg c9) (7 : Int32).toNatClampNeg e9)))] H := hP
  have hD : va_D A [(m0, .inr (4, [.int 0, .ref md, .int 0, .int (-1), .int 0, .ref mh, .ref mn, .ref mc, .int 0, .int 1, .int 0, .int 0, .ref mo, .ref mb, .ref mk, .ref ml, .ref ms, .ref mw])), (md, .inl (cI, 384, .inl (upd (upd (upd (upd f (4 : Int32).toNatClampNeg a) (5 : Int32).toNatClampNeg b) (6 : Int32).toNatClampNeg c9) (7 : Int32).toNatClampNeg e9)))] := hD
  refine lv_aload_n hx hb dM_write_38 rfl (lv_at hl 0 rfl) ?_
  refine lv_aload_n hx hb dM_write_39 rfl (lv_at hl 0 rfl) ?_
  refine va_get (D := (dC, dI)) (ci := 4) (v := .int (-1)) (C := "LoggedStoreModel") (T := uM) (N := 18) hx hb hw inM hown hK hP 0 rfl rfl 3 (by decide) (hw _ w615) (fun _ h9 => h9) rfl dM_write_40 ?_
  refine lv_if_ne (tgt := 50) hx hb dM_write_43 (by decide) (fun _ => ?_) (fun h9 => absurd h9 (by decide))
  refine lv_iconst (v := 0) hx hb dM_write_50 (by decide) ?_
  refine va_put (D := (dC, dI)) (ci := 4) (v := .int 0) (ty := .boolean) (C := "LoggedStoreModel") (T := uM) (N := 18) hx hb hw inM tyM tyM_ok nmM hown hK hP hD hS 0 rfl rfl 2 (by decide) (hw _ w614) (fun _ h9 => h9) rfl (by decide +kernel) rfl rfl (Nat.le_of_ble_eq_true rfl) dM_write_51 (fun H locs hP hD hS => ?_)
  have hP : va_P (dC, dI) vwC [(m0, .inr (4, [.int 0, .ref md, .int 0, .int (-1), .int 0, .ref mh, .ref mn, .ref mc, .int 0, .int 1, .int 0, .int 0, .ref mo, .ref mb, .ref mk, .ref ml, .ref ms, .ref mw])), (md, .inl (cI, 384, .inl (upd (upd (upd (upd f (4 : Int32).toNatClampNeg a) (5 : Int32).toNatClampNeg b) (6 : Int32).toNatClampNeg c9) (7 : Int32).toNatClampNeg e9)))] H := hP
  have hD : va_D A [(m0, .inr (4, [.int 0, .ref md, .int 0, .int (-1), .int 0, .ref mh, .ref mn, .ref mc, .int 0, .int 1, .int 0, .int 0, .ref mo, .ref mb, .ref mk, .ref ml, .ref ms, .ref mw])), (md, .inl (cI, 384, .inl (upd (upd (upd (upd f (4 : Int32).toNatClampNeg a) (5 : Int32).toNatClampNeg b) (6 : Int32).toNatClampNeg c9) (7 : Int32).toNatClampNeg e9)))] := hD
  refine lv_aload_n hx hb dM_write_54 rfl (lv_at hl 0 rfl) ?_
  refine lv_aload_n hx hb dM_write_55 rfl (lv_at hl 0 rfl) ?_
  refine va_get (D := (dC, dI)) (ci := 4) (v := .int (-1)) (C := "LoggedStoreModel") (T := uM) (N := 18) hx hb hw inM hown hK hP 0 rfl rfl 3 (by decide) (hw _ w615) (fun _ h9 => h9) rfl dM_write_56 ?_
  refine lv_if_le (tgt := 71) hx hb dM_write_59 (by decide) (fun _ => ?_) (fun h9 => absurd (by decide) h9)
  refine lv_aload_n hx hb dM_write_71 rfl (lv_at hl 0 rfl) ?_
  refine va_get (D := (dC, dI)) (ci := 4) (v := .int (-1)) (C := "LoggedStoreModel") (T := uM) (N := 18) hx hb hw inM hown hK hP 0 rfl rfl 3 (by decide) (hw _ w615) (fun _ h9 => h9) rfl dM_write_72 ?_
  refine va_put (D := (dC, dI)) (ci := 4) (v := .int (-1)) (ty := .int) (C := "LoggedStoreModel") (T := uM) (N := 18) hx hb hw inM tyM tyM_ok nmM hown hK hP hD hS 0 rfl rfl 3 (by decide) (hw _ w615) (fun _ h9 => h9) rfl (by decide +kernel) rfl rfl (Nat.le_of_ble_eq_true rfl) dM_write_75 (fun H locs hP hD hS => ?_)
  have hP : va_P (dC, dI) vwC [(m0, .inr (4, [.int 0, .ref md, .int 0, .int (-1), .int 0, .ref mh, .ref mn, .ref mc, .int 0, .int 1, .int 0, .int 0, .ref mo, .ref mb, .ref mk, .ref ml, .ref ms, .ref mw])), (md, .inl (cI, 384, .inl (upd (upd (upd (upd f (4 : Int32).toNatClampNeg a) (5 : Int32).toNatClampNeg b) (6 : Int32).toNatClampNeg c9) (7 : Int32).toNatClampNeg e9)))] H := hP
  have hD : va_D A [(m0, .inr (4, [.int 0, .ref md, .int 0, .int (-1), .int 0, .ref mh, .ref mn, .ref mc, .int 0, .int 1, .int 0, .int 0, .ref mo, .ref mb, .ref mk, .ref ml, .ref ms, .ref mw])), (md, .inl (cI, 384, .inl (upd (upd (upd (upd f (4 : Int32).toNatClampNeg a) (5 : Int32).toNatClampNeg b) (6 : Int32).toNatClampNeg c9) (7 : Int32).toNatClampNeg e9)))] := hD
  have hP9 := hP.sub (ws' := [(m0, .inr (4, [.int 0, .ref md, .int 0, .int (-1), .int 0, .ref mh, .ref mn, .ref mc, .int 0, .int 1, .int 0, .int 0, .ref mo, .ref mb, .ref mk, .ref ml, .ref ms, .ref mw]))]) [0] rfl
  have hD9 := hD.sub (ws' := [(m0, .inr (4, [.int 0, .ref md, .int 0, .int (-1), .int 0, .ref mh, .ref mn, .ref mc, .int 0, .int 1, .int 0, .int 0, .ref mo, .ref mb, .ref mk, .ref ml, .ref ms, .ref mw]))]) [0] (by decide) rfl
  refine W.widen (k := 0) (n := 0) (by decide) (by decide) ?_
  exact W.vret hx hb hr (fun t ht hW => ⟨⟨fun _ => 0, rfl, trivial, by rw [ht]; exact hP9, hD9⟩, hS.F ht⟩) hS.2.2 dM_write_78

set_option maxHeartbeats 4000000 in
set_option maxRecDepth 100000 in
theorem c_M_writeChecked (l : Launch) (dC : Nat → ClassId) (dI : Nat → Nat → Nat) (cI cZ cJ cT : ClassId) (m0 md mh mn mc mo mb mk ml ms mw : Nat) (f : Nat → Int32) (sz : Nat) : Met l yM_writeChecked (Cond.code yM_writeChecked cM_writeChecked 5 none :: wsA) ({ frames := 2, cells := 0, slots := 0, locals := 48 }) (va_Pc [.ref m0, .int 1, .int 2, .int 64, .int 0] (fun U => U.heap.size = sz ∧ va_P (dC, dI) vwC [(m0, .inr (4, [.int 0, .ref md, .int 0, .int (-1), .int 0, .ref mh, .ref mn, .ref mc, .int 0, .int 1, .int 0, .int 0, .ref mo, .ref mb, .ref mk, .ref ml, .ref ms, .ref mw])), (md, .inl (cI, 384, .inl f))] U.heap ∧ KK dC dI cI cZ cJ cT U ∧ va_D (fun _ => True) [(m0, .inr (4, [.int 0, .ref md, .int 0, .int (-1), .int 0, .ref mh, .ref mn, .ref mc, .int 0, .int 1, .int 0, .int 0, .ref mo, .ref mb, .ref mk, .ref ml, .ref ms, .ref mw])), (md, .inl (cI, 384, .inl f))])) (va_Qv (S := Nat → Nat) (fun _ => True) (fun u t => va_P (dC, dI) vwC [(m0, .inr (4, [.int 0, .ref md, .int 0, .int (-1), .int 0, .ref mh, .ref mn, .ref mc, .int 0, .int 1, .int 0, .int 0, .ref mo, .ref mb, .ref mk, .ref ml, .ref ms, .ref mw]))] t.heap ∧ va_D (va_A [(m0, .inr (4, [.int 0, .ref md, .int 0, .int (-1), .int 0, .ref mh, .ref mn, .ref mc, .int 0, .int 1, .int 0, .int 0, .ref mo, .ref mb, .ref mk, .ref ml, .ref ms, .ref mw])), (md, .inl (cI, 384, .inl f))] sz) [(m0, .inr (4, [.int 0, .ref md, .int 0, .int (-1), .int 0, .ref mh, .ref mn, .ref mc, .int 0, .int 1, .int 0, .int 0, .ref mo, .ref mb, .ref mk, .ref ml, .ref ms, .ref mw]))]) (va_A [(m0, .inr (4, [.int 0, .ref md, .int 0, .int (-1), .int 0, .ref mh, .ref mn, .ref mc, .int 0, .int 1, .int 0, .int 0, .ref mo, .ref mb, .ref mk, .ref ml, .ref ms, .ref mw])), (md, .inl (cI, 384, .inl f))] sz)) 0 0 (va_A [(m0, .inr (4, [.int 0, .ref md, .int 0, .int (-1), .int 0, .ref mh, .ref mn, .ref mc, .int 0, .int 1, .int 0, .int 0, .ref mo, .ref mb, .ref mk, .ref ml, .ref ms, .ref mw])), (md, .inl (cI, 384, .inl f))] sz) := by
  refine Met.ofW (cc := cM_writeChecked) (maxL := 5) (ret := none) (by decide) rfl ?_
  intro p e s m args below meth c s₁ B hml hv
  obtain ⟨rfl, hsz, hP, hKK, hD0⟩ := hv
  have hK := hKK.1
  have hx := B.exec
  have hb := B.bytes
  have hr := B.returns
  have hw : ∀ w ∈ wsA, w.before _ s = true := fun w h => atoms_spec (ws := (Cond.code yM_writeChecked cM_writeChecked 5 none :: wsA)) B.pre w (List.mem_cons_of_mem _ h)
  have hown : s.vm.findClass "LoggedStoreModel" = some m.cls := findClass_of_methodNamed B.named
  have hlocks := B.notSynchronized
  subst hsz
  have hD := hD0.self (sz := s.heap.size)
  generalize hAe : va_A [(m0, .inr (4, [.int 0, .ref md, .int 0, .int (-1), .int 0, .ref mh, .ref mn, .ref mc, .int 0, .int 1, .int 0, .int 0, .ref mo, .ref mb, .ref mk, .ref ml, .ref ms, .ref mw])), (md, .inl (cI, 384, .inl f))] s.heap.size = A at hD ⊢
  have hA : ∀ q : Nat, s.heap.size ≤ q → A q := fun q h => by rw [← hAe]; exact Or.inr h
  have hS : va_S A s.heap s.heap [] := va_S.rf
  have hl := lv_entry ([.ref m0, .int 1, .int 2, .int 64, .int 0]) (n := 5) (Nat.le_of_ble_eq_true rfl)
  rw [lg_entry_eq]
  generalize (lg_sl ([.ref m0, .int 1, .int 2, .int 64, .int 0]) ++ List.replicate (5 - (lg_sl ([.ref m0, .int 1, .int 2, .int 64, .int 0])).length) Slot.unset).toArray = ls at hl ⊢
  have hl : lv_has ls 5 [(0, .ref m0), (1, .int 1), (2, .int 2), (3, .int 64), (4, .int 0)] := hl
  refine lv_aload_n hx hb dM_writeChecked_0 rfl (lv_at hl 0 rfl) ?_
  refine lv_iload_n hx hb dM_writeChecked_1 rfl (lv_at hl 1 rfl) ?_
  refine lv_iload_n hx hb dM_writeChecked_2 rfl (lv_at hl 2 rfl) ?_
  refine lv_iload_n hx hb dM_writeChecked_3 rfl (lv_at hl 3 rfl) ?_
  refine lv_iload hx hb dM_writeChecked_4 (lv_at hl 4 rfl) ?_
  refine lv_iload_n hx hb dM_writeChecked_6 rfl (lv_at hl 2 rfl) ?_
  refine lv_iload_n hx hb dM_writeChecked_7 rfl (lv_at hl 3 rfl) ?_
  refine lv_iload hx hb dM_writeChecked_8 (lv_at hl 4 rfl) ?_
  refine lv_iload_n hx hb dM_writeChecked_10 rfl (lv_at hl 1 rfl) ?_
  have hPc := hP.sub (ws' := []) [] rfl
  refine vp_callSi (W.runS (As := [.int 2, .int 64, .int 0, .int 1]) (rest := [.int 0, .int 64, .int 2, .int 1, .ref m0]) ⟨hx, hb, hml, hown, hw⟩ (c_M_chk l dC dI cI cZ cJ cT 2 64 0 1) ⟨callB_of 4 hw (gA0 w608) rfl rfl rfl (hw _ w45) (hw _ w606) (by decide +kernel) ⟨Nat.le_of_ble_eq_true rfl, Nat.le_of_ble_eq_true rfl⟩, (hw _ w607)⟩ ⟨kb_S, fun U hU hW => ⟨rfl, by rw [hU]; exact hPc, hKK.moved hW⟩⟩ rfl rfl hl.1 rfl (lv_room (Nat.le_of_ble_eq_true rfl)) dM_writeChecked_11 ⟨Nat.le_of_ble_eq_true rfl, Nat.le_of_ble_eq_true rfl⟩) (fun r1 e2 => ?_)
  obtain rfl : r1 = 1013773184 := e2.trans (by decide +kernel)
  have hPc := hP.sub (ws' := [(m0, .inr (4, [.int 0, .ref md, .int 0, .int (-1), .int 0, .ref mh, .ref mn, .ref mc, .int 0, .int 1, .int 0, .int 0, .ref mo, .ref mb, .ref mk, .ref ml, .ref ms, .ref mw])), (md, .inl (cI, 384, .inl f))]) [0, 1] rfl
  have hDc := hD.sub (ws' := [(m0, .inr (4, [.int 0, .ref md, .int 0, .int (-1), .int 0, .ref mh, .ref mn, .ref mc, .int 0, .int 1, .int 0, .int 0, .ref mo, .ref mb, .ref mk, .ref ml, .ref ms, .ref mw])), (md, .inl (cI, 384, .inl f))]) [0, 1] (by decide) rfl
  have hFc := va_free (wc := [(m0, .inr (4, [.int 0, .ref md, .int 0, .int (-1), .int 0, .ref mh, .ref mn, .ref mc, .int 0, .int 1, .int 0, .int 0, .ref mo, .ref mb, .ref mk, .ref ml, .ref ms, .ref mw])), (md, .inl (cI, 384, .inl f))]) hD hS hA [0, 1] rfl
  refine va_callv (va_runV (C := "LoggedStoreModel") (b := m0) (As := [.int 1, .int 2, .int 64, .int 0, .int 1013773184]) (rest := []) ⟨hx, hb, hml, hown, hw⟩ (c_M_write l dC dI cI cZ cJ cT m0 md mh mn mc mo mb mk ml ms mw 2 64 0 1013773184 f s.heap.size) ⟨callB_of 5 hw (gA0 w737) rfl rfl rfl (hw _ w45) (hw _ w734) (by decide +kernel) ⟨Nat.le_of_ble_eq_true rfl, Nat.le_of_ble_eq_true rfl⟩, (hw _ w736), (hw _ w29)⟩ ⟨kb_Q, va_recv (ci := 4) (q0 := 0) hK hP rfl rfl, fun U hU hW => ⟨rfl, by rw [hU], by rw [hU]; exact hPc, hKK.moved hW, hDc.weaken (fun _ _ _ _ => trivial)⟩⟩ rfl rfl hl.1 rfl (lv_room (Nat.le_of_ble_eq_true rfl)) dM_writeChecked_14 ⟨Nat.le_of_ble_eq_true rfl, Nat.le_of_ble_eq_true rfl⟩) hS (fun q _ h => hFc q h) hFc (fun u4 t H1 locs ht hvm he9 hB hz1 hk1 hS => ?_)
  obtain ⟨hP1, hD1⟩ := hB
  rw [ht] at hP1
  obtain ⟨hP, hD⟩ := va_join (wr := []) (w1 := [(m0, .inr (4, [.int 0, .ref md, .int 0, .int (-1), .int 0, .ref mh, .ref mn, .ref mc, .int 0, .int 1, .int 0, .int 0, .ref mo, .ref mb, .ref mk, .ref ml, .ref ms, .ref mw]))]) hP hD [0, 1] [] rfl rfl (by decide) (by decide) hk1 hFc hP1 hD1
  generalize H1 = H at hP hS ⊢
  have hP : va_P (dC, dI) vwC [(m0, .inr (4, [.int 0, .ref md, .int 0, .int (-1), .int 0, .ref mh, .ref mn, .ref mc, .int 0, .int 1, .int 0, .int 0, .ref mo, .ref mb, .ref mk, .ref ml, .ref ms, .ref mw]))] H := hP
  have hD : va_D A [(m0, .inr (4, [.int 0, .ref md, .int 0, .int (-1), .int 0, .ref mh, .ref mn, .ref mc, .int 0, .int 1, .int 0, .int 0, .ref mo, .ref mb, .ref mk, .ref ml, .ref ms, .ref mw]))] := hD
  have hP9 := hP.sub (ws' := [(m0, .inr (4, [.int 0, .ref md, .int 0, .int (-1), .int 0, .ref mh, .ref mn, .ref mc, .int 0, .int 1, .int 0, .int 0, .ref mo, .ref mb, .ref mk, .ref ml, .ref ms, .ref mw]))]) [0] rfl
  have hD9 := hD.sub (ws' := [(m0, .inr (4, [.int 0, .ref md, .int 0, .int (-1), .int 0, .ref mh, .ref mn, .ref mc, .int 0, .int 1, .int 0, .int 0, .ref mo, .ref mb, .ref mk, .ref ml, .ref ms, .ref mw]))]) [0] (by decide) rfl
  refine W.widen (k := 0) (n := 0) (by decide) (by decide) ?_
  exact W.vret hx hb hr (fun t ht hW => ⟨⟨fun _ => 0, rfl, trivial, by rw [ht]; exact hP9, hD9⟩, hS.F ht⟩) hS.2.2 dM_writeChecked_17

set_option maxHeartbeats 4000000 in
set_option maxRecDepth 100000 in
theorem c_M_checkpoint (l : Launch) (dC : Nat → ClassId) (dI : Nat → Nat → Nat) (cI cZ cJ cT : ClassId) (m0 md mh mn mc mo mb mk ml ms mw : Nat) (sz : Nat) : Met l yM_checkpoint (Cond.code yM_checkpoint cM_checkpoint 6 (some .int) :: wsA) ({ frames := 3, cells := 0, slots := 0, locals := 72 }) (va_Pc [.ref m0] (fun U => U.heap.size = sz ∧ va_P (dC, dI) vwC [(m0, .inr (4, [.int 0, .ref md, .int 0, .int (-1), .int 0, .ref mh, .ref mn, .ref mc, .int 0, .int 1, .int 0, .int 0, .ref mo, .ref mb, .ref mk, .ref ml, .ref ms, .ref mw])), (mh, .inl (cZ, 64, .inl (fun _ => 0))), (md, .inl (cI, 384, .inl MW0))] U.heap ∧ KK dC dI cI cZ cJ cT U ∧ va_D (fun _ => True) [(m0, .inr (4, [.int 0, .ref md, .int 0, .int (-1), .int 0, .ref mh, .ref mn, .ref mc, .int 0, .int 1, .int 0, .int 0, .ref mo, .ref mb, .ref mk, .ref ml, .ref ms, .ref mw])), (mh, .inl (cZ, 64, .inl (fun _ => 0))), (md, .inl (cI, 384, .inl MW0))])) (va_Qi (S := Nat → Nat) (fun r _ => r = 2) (fun u t => va_P (dC, dI) vwC [(m0, .inr (4, [.int 0, .ref md, .int 0, .int (-1), .int 0, .ref mh, .ref mn, .ref mc, .int 0, .int 2, .int 1, .int 0, .ref mo, .ref mb, .ref mk, .ref ml, .ref ms, .ref mw]))] t.heap ∧ va_D (va_A [(m0, .inr (4, [.int 0, .ref md, .int 0, .int (-1), .int 0, .ref mh, .ref mn, .ref mc, .int 0, .int 1, .int 0, .int 0, .ref mo, .ref mb, .ref mk, .ref ml, .ref ms, .ref mw])), (mh, .inl (cZ, 64, .inl (fun _ => 0))), (md, .inl (cI, 384, .inl MW0))] sz) [(m0, .inr (4, [.int 0, .ref md, .int 0, .int (-1), .int 0, .ref mh, .ref mn, .ref mc, .int 0, .int 2, .int 1, .int 0, .ref mo, .ref mb, .ref mk, .ref ml, .ref ms, .ref mw]))]) (va_A [(m0, .inr (4, [.int 0, .ref md, .int 0, .int (-1), .int 0, .ref mh, .ref mn, .ref mc, .int 0, .int 1, .int 0, .int 0, .ref mo, .ref mb, .ref mk, .ref ml, .ref ms, .ref mw])), (mh, .inl (cZ, 64, .inl (fun _ => 0))), (md, .inl (cI, 384, .inl MW0))] sz)) 0 0 (va_A [(m0, .inr (4, [.int 0, .ref md, .int 0, .int (-1), .int 0, .ref mh, .ref mn, .ref mc, .int 0, .int 1, .int 0, .int 0, .ref mo, .ref mb, .ref mk, .ref ml, .ref ms, .ref mw])), (mh, .inl (cZ, 64, .inl (fun _ => 0))), (md, .inl (cI, 384, .inl MW0))] sz) := by
  refine Met.ofW (cc := cM_checkpoint) (maxL := 6) (ret := (some .int)) (by decide) rfl ?_
  intro p e s m args below meth c s₁ B hml hv
  obtain ⟨rfl, hsz, hP, hKK, hD0⟩ := hv
  have hK := hKK.1
  have hx := B.exec
  have hb := B.bytes
  have hr := B.returns
  have hw : ∀ w ∈ wsA, w.before _ s = true := fun w h => atoms_spec (ws := (Cond.code yM_checkpoint cM_checkpoint 6 (some .int) :: wsA)) B.pre w (List.mem_cons_of_mem _ h)
  have hown : s.vm.findClass "LoggedStoreModel" = some m.cls := findClass_of_methodNamed B.named
  have hlocks := B.notSynchronized
  subst hsz
  have hD := hD0.self (sz := s.heap.size)
  generalize hAe : va_A [(m0, .inr (4, [.int 0, .ref md, .int 0, .int (-1), .int 0, .ref mh, .ref mn, .ref mc, .int 0, .int 1, .int 0, .int 0, .ref mo, .ref mb, .ref mk, .ref ml, .ref ms, .ref mw])), (mh, .inl (cZ, 64, .inl (fun _ => 0))), (md, .inl (cI, 384, .inl MW0))] s.heap.size = A at hD ⊢
  have hA : ∀ q : Nat, s.heap.size ≤ q → A q := fun q h => by rw [← hAe]; exact Or.inr h
  have hS : va_S A s.heap s.heap [] := va_S.rf
  have hl := lv_entry ([.ref m0]) (n := 6) (Nat.le_of_ble_eq_true rfl)
  rw [lg_entry_eq]
  generalize (lg_sl ([.ref m0]) ++ List.replicate (6 - (lg_sl ([.ref m0])).length) Slot.unset).toArray = ls at hl ⊢
  have hl : lv_has ls 6 [(0, .ref m0)] := hl
  refine lv_aload_n hx hb dM_checkpoint_0 rfl (lv_at hl 0 rfl) ?_
  refine lv_aload_n hx hb dM_checkpoint_1 rfl (lv_at hl 0 rfl) ?_
  refine va_get (D := (dC, dI)) (ci := 4) (v := .int 0) (C := "LoggedStoreModel") (T := uM) (N := 18) hx hb hw inM hown hK hP 0 rfl rfl 2 (by decide) (hw _ w614) (fun _ h9 => h9) rfl dM_checkpoint_2 ?_
  refine lv_if_eq (tgt := 12) hx hb dM_checkpoint_5 (by decide) (fun _ => ?_) (fun h9 => absurd (by decide) h9)
  refine lv_iconst (v := 0) hx hb dM_checkpoint_12 (by decide) ?_
  refine va_put (D := (dC, dI)) (ci := 4) (v := .int 0) (ty := .int) (C := "LoggedStoreModel") (T := uM) (N := 18) hx hb hw inM tyM tyM_ok nmM hown hK hP hD hS 0 rfl rfl 0 (by decide) (hw _ w612) (fun _ h9 => h9) rfl (by decide +kernel) rfl rfl (Nat.le_of_ble_eq_true rfl) dM_checkpoint_13 (fun H locs hP hD hS => ?_)
  have hP : va_P (dC, dI) vwC [(m0, .inr (4, [.int 0, .ref md, .int 0, .int (-1), .int 0, .ref mh, .ref mn, .ref mc, .int 0, .int 1, .int 0, .int 0, .ref mo, .ref mb, .ref mk, .ref ml, .ref ms, .ref mw])), (mh, .inl (cZ, 64, .inl (fun _ => 0))), (md, .inl (cI, 384, .inl MW0))] H := hP
  have hD : va_D A [(m0, .inr (4, [.int 0, .ref md, .int 0, .int (-1), .int 0, .ref mh, .ref mn, .ref mc, .int 0, .int 1, .int 0, .int 0, .ref mo, .ref mb, .ref mk, .ref ml, .ref ms, .ref mw])), (mh, .inl (cZ, 64, .inl (fun _ => 0))), (md, .inl (cI, 384, .inl MW0))] := hD
  refine lv_aload_n hx hb dM_checkpoint_16 rfl (lv_at hl 0 rfl) ?_
  refine va_get (D := (dC, dI)) (ci := 4) (v := .int 0) (C := "LoggedStoreModel") (T := uM) (N := 18) hx hb hw inM hown hK hP 0 rfl rfl 0 (by decide) (hw _ w612) (fun _ h9 => h9) rfl dM_checkpoint_17 ?_
  refine lv_if_le (tgt := 25) hx hb dM_checkpoint_20 (by decide) (fun _ => ?_) (fun h9 => absurd (by decide) h9)
  refine lv_aload_n hx hb dM_checkpoint_25 rfl (lv_at hl 0 rfl) ?_
  have hPc := hP.sub (ws' := [(m0, .inr (4, [.int 0, .ref md, .int 0, .int (-1), .int 0, .ref mh, .ref mn, .ref mc, .int 0, .int 1, .int 0, .int 0, .ref mo, .ref mb, .ref mk, .ref ml, .ref ms, .ref mw])), (mh, .inl (cZ, 64, .inl (fun _ => 0)))]) [0, 1] rfl
  refine vp_callSi (W.runV (C := "LoggedStoreModel") (b := m0) (As := []) (rest := []) ⟨hx, hb, hml, hown, hw⟩ (c_countNow l dC dI cI cZ cJ cT m0 md mh mn mc mo mb mk ml ms mw) ⟨callB_of 0 hw (gA0 w753) rfl rfl rfl (hw _ w45) (hw _ w750) (by decide +kernel) ⟨Nat.le_of_ble_eq_true rfl, Nat.le_of_ble_eq_true rfl⟩, (hw _ w752), (hw _ w32)⟩ ⟨kb_S, va_recv (ci := 4) (q0 := 0) hK hP rfl rfl, fun U hU hW => ⟨rfl, by rw [hU]; exact hPc, hKK.moved hW⟩⟩ rfl rfl hl.1 rfl (lv_room (Nat.le_of_ble_eq_true rfl)) dM_checkpoint_26 ⟨Nat.le_of_ble_eq_true rfl, Nat.le_of_ble_eq_true rfl⟩) (fun r1 e2 => ?_)
  obtain rfl : r1 = 0 := e2
  refine lv_istore_n hx hb dM_checkpoint_29 rfl hl (by decide) rfl (fun ls hl => ?_)
  have hl : lv_has ls 6 [(1, .int 0), (0, .ref m0)] := hl
  refine lv_iconst (v := 1) hx hb dM_checkpoint_30 (by decide) ?_
  refine lv_aload_n hx hb dM_checkpoint_31 rfl (lv_at hl 1 rfl) ?_
  refine va_get (D := (dC, dI)) (ci := 4) (v := .int 0) (C := "LoggedStoreModel") (T := uM) (N := 18) hx hb hw inM hown hK hP 0 rfl rfl 10 (by decide) (hw _ w622) (fun _ h9 => h9) rfl dM_checkpoint_32 ?_
  refine lv_isub hx hb dM_checkpoint_35 ?_
  refine lv_topi (nm_r (e' := 1) (by decide +kernel) ?_)
  refine lv_istore_n hx hb dM_checkpoint_36 rfl hl (by decide) rfl (fun ls hl => ?_)
  have hl : lv_has ls 6 [(2, .int 1), (1, .int 0), (0, .ref m0)] := hl
  refine lv_iconst (v := 0) hx hb dM_checkpoint_37 (by decide) ?_
  refine lv_istore_n hx hb dM_checkpoint_38 rfl hl (by decide) rfl (fun ls hl => ?_)
  have hl : lv_has ls 6 [(3, .int 0), (2, .int 1), (1, .int 0), (0, .ref m0)] := hl
  refine lv_iload_n hx hb dM_checkpoint_39 rfl (lv_at hl 0 rfl) ?_
  refine lv_iload_n hx hb dM_checkpoint_40 rfl (lv_at hl 2 rfl) ?_
  refine lv_icmp_ge (tgt := 120) hx hb dM_checkpoint_41 (by decide) (fun _ => ?_) (fun h9 => absurd (by decide) h9)
  refine lv_aload_n hx hb dM_checkpoint_120 rfl (lv_at hl 3 rfl) ?_
  refine lv_aload_n hx hb dM_checkpoint_121 rfl (lv_at hl 3 rfl) ?_
  refine va_get (D := (dC, dI)) (ci := 4) (v := .int 1) (C := "LoggedStoreModel") (T := uM) (N := 18) hx hb hw inM hown hK hP 0 rfl rfl 9 (by decide) (hw _ w621) (fun _ h9 => h9) rfl dM_checkpoint_122 ?_
  refine lv_iconst (v := 2) hx hb dM_checkpoint_125 (by decide) ?_
  refine lv_irem hx hb dM_checkpoint_126 (by decide) ?_
  refine lv_topi (nm_r (e' := 1) (by decide +kernel) ?_)
  refine lv_iconst (v := 1) hx hb dM_checkpoint_127 (by decide) ?_
  refine lv_icmp_ne (tgt := 135) hx hb dM_checkpoint_128 (by decide) (fun h9 => absurd (by decide) h9) (fun _ => ?_)
  refine lv_iconst (v := 1) hx hb dM_checkpoint_131 (by decide) ?_
  refine lv_goto (tgt := 136) hx hb dM_checkpoint_132 (by decide) ?_
  refine lv_aload_n hx hb dM_checkpoint_136 rfl (lv_at hl 3 rfl) ?_
  refine va_get (D := (dC, dI)) (ci := 4) (v := .int 1) (C := "LoggedStoreModel") (T := uM) (N := 18) hx hb hw inM hown hK hP 0 rfl rfl 9 (by decide) (hw _ w621) (fun _ h9 => h9) rfl dM_checkpoint_137 ?_
  refine lv_iconst (v := 1) hx hb dM_checkpoint_140 (by decide) ?_
  refine lv_iadd hx hb dM_checkpoint_141 ?_
  refine lv_topi (nm_r (e' := 2) (by decide +kernel) ?_)
  refine lv_bipush (v := 64) hx hb dM_checkpoint_142 (by decide) ?_
  refine lv_iload_n hx hb dM_checkpoint_144 rfl (lv_at hl 1 rfl) ?_
  refine lv_imul hx hb dM_checkpoint_145 ?_
  refine lv_topi (nm_r (e' := 64) (by decide +kernel) ?_)
  refine lv_iload_n hx hb dM_checkpoint_146 rfl (lv_at hl 2 rfl) ?_
  refine lv_iadd hx hb dM_checkpoint_147 ?_
  refine lv_topi (nm_r (e' := 64) (by decide +kernel) ?_)
  refine lv_aload_n hx hb dM_checkpoint_148 rfl (lv_at hl 3 rfl) ?_
  refine va_get (D := (dC, dI)) (ci := 4) (v := .int 0) (C := "LoggedStoreModel") (T := uM) (N := 18) hx hb hw inM hown hK hP 0 rfl rfl 8 (by decide) (hw _ w620) (fun _ h9 => h9) rfl dM_checkpoint_149 ?_
  have hPc := hP.sub (ws' := [(m0, .inr (4, [.int 0, .ref md, .int 0, .int (-1), .int 0, .ref mh, .ref mn, .ref mc, .int 0, .int 1, .int 0, .int 0, .ref mo, .ref mb, .ref mk, .ref ml, .ref ms, .ref mw])), (md, .inl (cI, 384, .inl MW0))]) [0, 2] rfl
  have hDc := hD.sub (ws' := [(m0, .inr (4, [.int 0, .ref md, .int 0, .int (-1), .int 0, .ref mh, .ref mn, .ref mc, .int 0, .int 1, .int 0, .int 0, .ref mo, .ref mb, .ref mk, .ref ml, .ref ms, .ref mw])), (md, .inl (cI, 384, .inl MW0))]) [0, 2] (by decide) rfl
  have hFc := va_free (wc := [(m0, .inr (4, [.int 0, .ref md, .int 0, .int (-1), .int 0, .ref mh, .ref mn, .ref mc, .int 0, .int 1, .int 0, .int 0, .ref mo, .ref mb, .ref mk, .ref ml, .ref ms, .ref mw])), (md, .inl (cI, 384, .inl MW0))]) hD hS hA [0, 2] rfl
  refine va_callv (va_runV (C := "LoggedStoreModel") (b := m0) (As := [.int 1, .int 2, .int 64, .int 0]) (rest := []) ⟨hx, hb, hml, hown, hw⟩ (c_M_writeChecked l dC dI cI cZ cJ cT m0 md mh mn mc mo mb mk ml ms mw MW0 H.size) ⟨callB_of 4 hw (gA0 w733) rfl rfl rfl (hw _ w45) (hw _ w730) (by decide +kernel) ⟨Nat.le_of_ble_eq_true rfl, Nat.le_of_ble_eq_true rfl⟩, (hw _ w732), (hw _ w28)⟩ ⟨kb_Q, va_recv (ci := 4) (q0 := 0) hK hP rfl rfl, fun U hU hW => ⟨rfl, by rw [hU], by rw [hU]; exact hPc, hKK.moved hW, hDc.weaken (fun _ _ _ _ => trivial)⟩⟩ rfl rfl hl.1 rfl (lv_room (Nat.le_of_ble_eq_true rfl)) dM_checkpoint_152 ⟨Nat.le_of_ble_eq_true rfl, Nat.le_of_ble_eq_true rfl⟩) hS (fun q _ h => hFc q h) hFc (fun u4 t H1 locs ht hvm he9 hB hz1 hk1 hS => ?_)
  obtain ⟨hP1, hD1⟩ := hB
  rw [ht] at hP1
  obtain ⟨hP, hD⟩ := va_join (wr := [(mh, .inl (cZ, 64, .inl (fun _ => 0)))]) (w1 := [(m0, .inr (4, [.int 0, .ref md, .int 0, .int (-1), .int 0, .ref mh, .ref mn, .ref mc, .int 0, .int 1, .int 0, .int 0, .ref mo, .ref mb, .ref mk, .ref ml, .ref ms, .ref mw]))]) hP hD [0, 2] [1] rfl rfl (by decide) (by decide) hk1 hFc hP1 hD1
  generalize H1 = H at hP hS ⊢
  have hP : va_P (dC, dI) vwC [(mh, .inl (cZ, 64, .inl (fun _ => 0))), (m0, .inr (4, [.int 0, .ref md, .int 0, .int (-1), .int 0, .ref mh, .ref mn, .ref mc, .int 0, .int 1, .int 0, .int 0, .ref mo, .ref mb, .ref mk, .ref ml, .ref ms, .ref mw]))] H := hP
  have hD : va_D A [(mh, .inl (cZ, 64, .inl (fun _ => 0))), (m0, .inr (4, [.int 0, .ref md, .int 0, .int (-1), .int 0, .ref mh, .ref mn, .ref mc, .int 0, .int 1, .int 0, .int 0, .ref mo, .ref mb, .ref mk, .ref ml, .ref ms, .ref mw]))] := hD
  refine lv_aload_n hx hb dM_checkpoint_155 rfl (lv_at hl 3 rfl) ?_
  refine va_get (D := (dC, dI)) (ci := 4) (v := .int 0) (C := "LoggedStoreModel") (T := uM) (N := 18) hx hb hw inM hown hK hP 1 rfl rfl 2 (by decide) (hw _ w614) (fun _ h9 => h9) rfl dM_checkpoint_156 ?_
  refine lv_if_eq (tgt := 169) hx hb dM_checkpoint_159 (by decide) (fun _ => ?_) (fun h9 => absurd (by decide) h9)
  refine lv_aload_n hx hb dM_checkpoint_169 rfl (lv_at hl 3 rfl) ?_
  refine lv_dup hx hb dM_checkpoint_170 rfl ?_
  refine va_get (D := (dC, dI)) (ci := 4) (v := .int 1) (C := "LoggedStoreModel") (T := uM) (N := 18) hx hb hw inM hown hK hP 1 rfl rfl 9 (by decide) (hw _ w621) (fun _ h9 => h9) rfl dM_checkpoint_171 ?_
  refine lv_iconst (v := 1) hx hb dM_checkpoint_174 (by decide) ?_
  refine lv_iadd hx hb dM_checkpoint_175 ?_
  refine lv_topi (nm_r (e' := 2) (by decide +kernel) ?_)
  refine va_put (D := (dC, dI)) (ci := 4) (v := .int 2) (ty := .int) (C := "LoggedStoreModel") (T := uM) (N := 18) hx hb hw inM tyM tyM_ok nmM hown hK hP hD hS 1 rfl rfl 9 (by decide) (hw _ w621) (fun _ h9 => h9) rfl (by decide +kernel) rfl rfl (Nat.le_of_ble_eq_true rfl) dM_checkpoint_176 (fun H locs hP hD hS => ?_)
  have hP : va_P (dC, dI) vwC [(mh, .inl (cZ, 64, .inl (fun _ => 0))), (m0, .inr (4, [.int 0, .ref md, .int 0, .int (-1), .int 0, .ref mh, .ref mn, .ref mc, .int 0, .int 2, .int 0, .int 0, .ref mo, .ref mb, .ref mk, .ref ml, .ref ms, .ref mw]))] H := hP
  have hD : va_D A [(mh, .inl (cZ, 64, .inl (fun _ => 0))), (m0, .inr (4, [.int 0, .ref md, .int 0, .int (-1), .int 0, .ref mh, .ref mn, .ref mc, .int 0, .int 2, .int 0, .int 0, .ref mo, .ref mb, .ref mk, .ref ml, .ref ms, .ref mw]))] := hD
  refine lv_aload_n hx hb dM_checkpoint_179 rfl (lv_at hl 3 rfl) ?_
  refine lv_iload_n hx hb dM_checkpoint_180 rfl (lv_at hl 1 rfl) ?_
  refine va_put (D := (dC, dI)) (ci := 4) (v := .int 1) (ty := .int) (C := "LoggedStoreModel") (T := uM) (N := 18) hx hb hw inM tyM tyM_ok nmM hown hK hP hD hS 1 rfl rfl 10 (by decide) (hw _ w622) (fun _ h9 => h9) rfl (by decide +kernel) rfl rfl (Nat.le_of_ble_eq_true rfl) dM_checkpoint_181 (fun H locs hP hD hS => ?_)
  have hP : va_P (dC, dI) vwC [(mh, .inl (cZ, 64, .inl (fun _ => 0))), (m0, .inr (4, [.int 0, .ref md, .int 0, .int (-1), .int 0, .ref mh, .ref mn, .ref mc, .int 0, .int 2, .int 1, .int 0, .ref mo, .ref mb, .ref mk, .ref ml, .ref ms, .ref mw]))] H := hP
  have hD : va_D A [(mh, .inl (cZ, 64, .inl (fun _ => 0))), (m0, .inr (4, [.int 0, .ref md, .int 0, .int (-1), .int 0, .ref mh, .ref mn, .ref mc, .int 0, .int 2, .int 1, .int 0, .ref mo, .ref mb, .ref mk, .ref ml, .ref ms, .ref mw]))] := hD
  refine lv_aload_n hx hb dM_checkpoint_184 rfl (lv_at hl 3 rfl) ?_
  refine lv_iconst (v := 0) hx hb dM_checkpoint_185 (by decide) ?_
  refine va_put (D := (dC, dI)) (ci := 4) (v := .int 0) (ty := .int) (C := "LoggedStoreModel") (T := uM) (N := 18) hx hb hw inM tyM tyM_ok nmM hown hK hP hD hS 1 rfl rfl 11 (by decide) (hw _ w623) (fun _ h9 => h9) rfl (by decide +kernel) rfl rfl (Nat.le_of_ble_eq_true rfl) dM_checkpoint_186 (fun H locs hP hD hS => ?_)
  have hP : va_P (dC, dI) vwC [(mh, .inl (cZ, 64, .inl (fun _ => 0))), (m0, .inr (4, [.int 0, .ref md, .int 0, .int (-1), .int 0, .ref mh, .ref mn, .ref mc, .int 0, .int 2, .int 1, .int 0, .ref mo, .ref mb, .ref mk, .ref ml, .ref ms, .ref mw]))] H := hP
  have hD : va_D A [(mh, .inl (cZ, 64, .inl (fun _ => 0))), (m0, .inr (4, [.int 0, .ref md, .int 0, .int (-1), .int 0, .ref mh, .ref mn, .ref mc, .int 0, .int 2, .int 1, .int 0, .ref mo, .ref mb, .ref mk, .ref ml, .ref ms, .ref mw]))] := hD
  refine lv_aload_n hx hb dM_checkpoint_189 rfl (lv_at hl 3 rfl) ?_
  refine va_get (D := (dC, dI)) (ci := 4) (v := .int 2) (C := "LoggedStoreModel") (T := uM) (N := 18) hx hb hw inM hown hK hP 1 rfl rfl 9 (by decide) (hw _ w621) (fun _ h9 => h9) rfl dM_checkpoint_190 ?_
  have hP9 := hP.sub (ws' := [(m0, .inr (4, [.int 0, .ref md, .int 0, .int (-1), .int 0, .ref mh, .ref mn, .ref mc, .int 0, .int 2, .int 1, .int 0, .ref mo, .ref mb, .ref mk, .ref ml, .ref ms, .ref mw]))]) [1] rfl
  have hD9 := hD.sub (ws' := [(m0, .inr (4, [.int 0, .ref md, .int 0, .int (-1), .int 0, .ref mh, .ref mn, .ref mc, .int 0, .int 2, .int 1, .int 0, .ref mo, .ref mb, .ref mk, .ref ml, .ref ms, .ref mw]))]) [1] (by decide) rfl
  refine W.widen (k := 0) (n := 0) (by decide) (by decide) ?_
  exact W.iret (v := 2) hx hb hr (fun t ht hW => ⟨⟨2, fun _ => 0, rfl, rfl, by rw [ht]; exact hP9, hD9⟩, hS.F ht⟩) hS.2.2 dM_checkpoint_193

set_option maxHeartbeats 4000000 in
set_option maxRecDepth 100000 in
theorem c_M_isGood0 (l : Launch) (dC : Nat → ClassId) (dI : Nat → Nat → Nat) (cI cZ cJ cT : ClassId) (m0 md mh mn mc mo mb mk ml ms mw : Nat) : Met l yM_isGood (Cond.code yM_isGood cM_isGood 2 (some .boolean) :: wsA) ({ frames := 1, cells := 0, slots := 0, locals := 23 }) (va_Pc [.ref m0, .int 0] (fun U => va_P (dC, dI) vwC [(m0, .inr (4, [.int 0, .ref md, .int 0, .int (-1), .int 0, .ref mh, .ref mn, .ref mc, .int 0, .int 1, .int 0, .int 0, .ref mo, .ref mb, .ref mk, .ref ml, .ref ms, .ref mw])), (md, .inl (cI, 384, .inl MW0))] U.heap ∧ KK dC dI cI cZ cJ cT U)) (vp_Si (fun r => r = 1)) 0 0 (fun _ => False) := by
  refine Met.ofW (cc := cM_isGood) (maxL := 2) (ret := (some .boolean)) (by decide) rfl ?_
  intro p e s m args below meth c s₁ B hml hv
  obtain ⟨rfl, hP, hKK⟩ := hv
  have hK := hKK.1
  have hx := B.exec
  have hb := B.bytes
  have hr := B.returns
  have hw : ∀ w ∈ wsA, w.before _ s = true := fun w h => atoms_spec (ws := (Cond.code yM_isGood cM_isGood 2 (some .boolean) :: wsA)) B.pre w (List.mem_cons_of_mem _ h)
  have hown : s.vm.findClass "LoggedStoreModel" = some m.cls := findClass_of_methodNamed B.named
  have hlocks := B.notSynchronized
  have hl := lv_entry ([.ref m0, .int 0]) (n := 2) (Nat.le_of_ble_eq_true rfl)
  rw [lg_entry_eq]
  generalize (lg_sl ([.ref m0, .int 0]) ++ List.replicate (2 - (lg_sl ([.ref m0, .int 0])).length) Slot.unset).toArray = ls at hl ⊢
  have hl : lv_has ls 2 [(0, .ref m0), (1, .int 0)] := hl
  refine lv_aload_n hx hb dM_isGood_0 rfl (lv_at hl 0 rfl) ?_
  refine va_get (D := (dC, dI)) (ci := 4) (v := .ref md) (C := "LoggedStoreModel") (T := uM) (N := 18) hx hb hw inM hown hK hP 0 rfl rfl 1 (by decide) (hw _ w613) (fun _ h9 => h9) rfl dM_isGood_1 ?_
  refine lv_iconst (v := 4) hx hb dM_isGood_4 (by decide) ?_
  refine lv_iload_n hx hb dM_isGood_5 rfl (lv_at hl 1 rfl) ?_
  refine lv_imul hx hb dM_isGood_6 ?_
  refine lv_topi (nm_r (e' := 0) (by decide +kernel) ?_)
  refine lv_iconst (v := 3) hx hb dM_isGood_7 (by decide) ?_
  refine lv_iadd hx hb dM_isGood_8 ?_
  refine lv_topi (nm_r (e' := 3) (by decide +kernel) ?_)
  refine va_iald hx hb hK hP 1 0 rfl rfl (tv_in (by decide +kernel)) dM_isGood_9 ?_
  refine lv_topi (nm_r (e' := 1013969759) (by decide +kernel) ?_)
  refine lv_aload_n hx hb dM_isGood_10 rfl (lv_at hl 0 rfl) ?_
  refine va_get (D := (dC, dI)) (ci := 4) (v := .ref md) (C := "LoggedStoreModel") (T := uM) (N := 18) hx hb hw inM hown hK hP 0 rfl rfl 1 (by decide) (hw _ w613) (fun _ h9 => h9) rfl dM_isGood_11 ?_
  refine lv_iconst (v := 4) hx hb dM_isGood_14 (by decide) ?_
  refine lv_iload_n hx hb dM_isGood_15 rfl (lv_at hl 1 rfl) ?_
  refine lv_imul hx hb dM_isGood_16 ?_
  refine lv_topi (nm_r (e' := 0) (by decide +kernel) ?_)
  refine va_iald hx hb hK hP 1 0 rfl rfl (tv_in (by decide +kernel)) dM_isGood_17 ?_
  refine lv_topi (nm_r (e' := 1) (by decide +kernel) ?_)
  refine lv_aload_n hx hb dM_isGood_18 rfl (lv_at hl 0 rfl) ?_
  refine va_get (D := (dC, dI)) (ci := 4) (v := .ref md) (C := "LoggedStoreModel") (T := uM) (N := 18) hx hb hw inM hown hK hP 0 rfl rfl 1 (by decide) (hw _ w613) (fun _ h9 => h9) rfl dM_isGood_19 ?_
  refine lv_iconst (v := 4) hx hb dM_isGood_22 (by decide) ?_
  refine lv_iload_n hx hb dM_isGood_23 rfl (lv_at hl 1 rfl) ?_
  refine lv_imul hx hb dM_isGood_24 ?_
  refine lv_topi (nm_r (e' := 0) (by decide +kernel) ?_)
  refine lv_iconst (v := 1) hx hb dM_isGood_25 (by decide) ?_
  refine lv_iadd hx hb dM_isGood_26 ?_
  refine lv_topi (nm_r (e' := 1) (by decide +kernel) ?_)
  refine va_iald hx hb hK hP 1 0 rfl rfl (tv_in (by decide +kernel)) dM_isGood_27 ?_
  refine lv_topi (nm_r (e' := 0) (by decide +kernel) ?_)
  refine lv_aload_n hx hb dM_isGood_28 rfl (lv_at hl 0 rfl) ?_
  refine va_get (D := (dC, dI)) (ci := 4) (v := .ref md) (C := "LoggedStoreModel") (T := uM) (N := 18) hx hb hw inM hown hK hP 0 rfl rfl 1 (by decide) (hw _ w613) (fun _ h9 => h9) rfl dM_isGood_29 ?_
  refine lv_iconst (v := 4) hx hb dM_isGood_32 (by decide) ?_
  refine lv_iload_n hx hb dM_isGood_33 rfl (lv_at hl 1 rfl) ?_
  refine lv_imul hx hb dM_isGood_34 ?_
  refine lv_topi (nm_r (e' := 0) (by decide +kernel) ?_)
  refine lv_iconst (v := 2) hx hb dM_isGood_35 (by decide) ?_
  refine lv_iadd hx hb dM_isGood_36 ?_
  refine lv_topi (nm_r (e' := 2) (by decide +kernel) ?_)
  refine va_iald hx hb hK hP 1 0 rfl rfl (tv_in (by decide +kernel)) dM_isGood_37 ?_
  refine lv_topi (nm_r (e' := 0) (by decide +kernel) ?_)
  refine lv_iload_n hx hb dM_isGood_38 rfl (lv_at hl 1 rfl) ?_
  have hPc := hP.sub (ws' := []) [] rfl
  refine vp_callSi (W.runS (As := [.int 1, .int 0, .int 0, .int 0]) (rest := [.int 1013969759]) ⟨hx, hb, hml, hown, hw⟩ (c_M_chk l dC dI cI cZ cJ cT 1 0 0 0) ⟨callB_of 4 hw (gA0 w608) rfl rfl rfl (hw _ w45) (hw _ w606) (by decide +kernel) ⟨Nat.le_of_ble_eq_true rfl, Nat.le_of_ble_eq_true rfl⟩, (hw _ w607)⟩ ⟨kb_S, fun U hU hW => ⟨rfl, by rw [hU]; exact hPc, hKK.moved hW⟩⟩ rfl rfl hl.1 rfl (lv_room (Nat.le_of_ble_eq_true rfl)) dM_isGood_39 ⟨Nat.le_of_ble_eq_true rfl, Nat.le_of_ble_eq_true rfl⟩) (fun r1 e2 => ?_)
  obtain rfl : r1 = 1013969759 := e2.trans (by decide +kernel)
  refine lv_icmp_ne (tgt := 49) hx hb dM_isGood_42 (by decide) (fun h9 => absurd (by decide) h9) (fun _ => ?_)
  refine lv_iconst (v := 1) hx hb dM_isGood_45 (by decide) ?_
  refine lv_goto (tgt := 50) hx hb dM_isGood_46 (by decide) ?_
  exact W.zret (v := 1) (ty := .boolean) hx hb hr (by decide) (fun t ht hW => ⟨1, rfl, rfl, ht⟩) (fun q h => by cases h) dM_isGood_50

set_option maxHeartbeats 4000000 in
set_option maxRecDepth 100000 in
theorem c_M_isGood1 (l : Launch) (dC : Nat → ClassId) (dI : Nat → Nat → Nat) (cI cZ cJ cT : ClassId) (m0 md mh mn mc mo mb mk ml ms mw : Nat) : Met l yM_isGood (Cond.code yM_isGood cM_isGood 2 (some .boolean) :: wsA) ({ frames := 1, cells := 0, slots := 0, locals := 23 }) (va_Pc [.ref m0, .int 1] (fun U => va_P (dC, dI) vwC [(m0, .inr (4, [.int 0, .ref md, .int 0, .int (-1), .int 0, .ref mh, .ref mn, .ref mc, .int 0, .int 1, .int 0, .int 0, .ref mo, .ref mb, .ref mk, .ref ml, .ref ms, .ref mw])), (md, .inl (cI, 384, .inl MW0))] U.heap ∧ KK dC dI cI cZ cJ cT U)) (vp_Si (fun r => r = 0)) 0 0 (fun _ => False) := by
  refine Met.ofW (cc := cM_isGood) (maxL := 2) (ret := (some .boolean)) (by decide) rfl ?_
  intro p e s m args below meth c s₁ B hml hv
  obtain ⟨rfl, hP, hKK⟩ := hv
  have hK := hKK.1
  have hx := B.exec
  have hb := B.bytes
  have hr := B.returns
  have hw : ∀ w ∈ wsA, w.before _ s = true := fun w h => atoms_spec (ws := (Cond.code yM_isGood cM_isGood 2 (some .boolean) :: wsA)) B.pre w (List.mem_cons_of_mem _ h)
  have hown : s.vm.findClass "LoggedStoreModel" = some m.cls := findClass_of_methodNamed B.named
  have hlocks := B.notSynchronized
  have hl := lv_entry ([.ref m0, .int 1]) (n := 2) (Nat.le_of_ble_eq_true rfl)
  rw [lg_entry_eq]
  generalize (lg_sl ([.ref m0, .int 1]) ++ List.replicate (2 - (lg_sl ([.ref m0, .int 1])).length) Slot.unset).toArray = ls at hl ⊢
  have hl : lv_has ls 2 [(0, .ref m0), (1, .int 1)] := hl
  refine lv_aload_n hx hb dM_isGood_0 rfl (lv_at hl 0 rfl) ?_
  refine va_get (D := (dC, dI)) (ci := 4) (v := .ref md) (C := "LoggedStoreModel") (T := uM) (N := 18) hx hb hw inM hown hK hP 0 rfl rfl 1 (by decide) (hw _ w613) (fun _ h9 => h9) rfl dM_isGood_1 ?_
  refine lv_iconst (v := 4) hx hb dM_isGood_4 (by decide) ?_
  refine lv_iload_n hx hb dM_isGood_5 rfl (lv_at hl 1 rfl) ?_
  refine lv_imul hx hb dM_isGood_6 ?_
  refine lv_topi (nm_r (e' := 4) (by decide +kernel) ?_)
  refine lv_iconst (v := 3) hx hb dM_isGood_7 (by decide) ?_
  refine lv_iadd hx hb dM_isGood_8 ?_
  refine lv_topi (nm_r (e' := 7) (by decide +kernel) ?_)
  refine va_iald hx hb hK hP 1 0 rfl rfl (tv_in (by decide +kernel)) dM_isGood_9 ?_
  refine lv_topi (nm_r (e' := 0) (by decide +kernel) ?_)
  refine lv_aload_n hx hb dM_isGood_10 rfl (lv_at hl 0 rfl) ?_
  refine va_get (D := (dC, dI)) (ci := 4) (v := .ref md) (C := "LoggedStoreModel") (T := uM) (N := 18) hx hb hw inM hown hK hP 0 rfl rfl 1 (by decide) (hw _ w613) (fun _ h9 => h9) rfl dM_isGood_11 ?_
  refine lv_iconst (v := 4) hx hb dM_isGood_14 (by decide) ?_
  refine lv_iload_n hx hb dM_isGood_15 rfl (lv_at hl 1 rfl) ?_
  refine lv_imul hx hb dM_isGood_16 ?_
  refine lv_topi (nm_r (e' := 4) (by decide +kernel) ?_)
  refine va_iald hx hb hK hP 1 0 rfl rfl (tv_in (by decide +kernel)) dM_isGood_17 ?_
  refine lv_topi (nm_r (e' := 0) (by decide +kernel) ?_)
  refine lv_aload_n hx hb dM_isGood_18 rfl (lv_at hl 0 rfl) ?_
  refine va_get (D := (dC, dI)) (ci := 4) (v := .ref md) (C := "LoggedStoreModel") (T := uM) (N := 18) hx hb hw inM hown hK hP 0 rfl rfl 1 (by decide) (hw _ w613) (fun _ h9 => h9) rfl dM_isGood_19 ?_
  refine lv_iconst (v := 4) hx hb dM_isGood_22 (by decide) ?_
  refine lv_iload_n hx hb dM_isGood_23 rfl (lv_at hl 1 rfl) ?_
  refine lv_imul hx hb dM_isGood_24 ?_
  refine lv_topi (nm_r (e' := 4) (by decide +kernel) ?_)
  refine lv_iconst (v := 1) hx hb dM_isGood_25 (by decide) ?_
  refine lv_iadd hx hb dM_isGood_26 ?_
  refine lv_topi (nm_r (e' := 5) (by decide +kernel) ?_)
  refine va_iald hx hb hK hP 1 0 rfl rfl (tv_in (by decide +kernel)) dM_isGood_27 ?_
  refine lv_topi (nm_r (e' := 0) (by decide +kernel) ?_)
  refine lv_aload_n hx hb dM_isGood_28 rfl (lv_at hl 0 rfl) ?_
  refine va_get (D := (dC, dI)) (ci := 4) (v := .ref md) (C := "LoggedStoreModel") (T := uM) (N := 18) hx hb hw inM hown hK hP 0 rfl rfl 1 (by decide) (hw _ w613) (fun _ h9 => h9) rfl dM_isGood_29 ?_
  refine lv_iconst (v := 4) hx hb dM_isGood_32 (by decide) ?_
  refine lv_iload_n hx hb dM_isGood_33 rfl (lv_at hl 1 rfl) ?_
  refine lv_imul hx hb dM_isGood_34 ?_
  refine lv_topi (nm_r (e' := 4) (by decide +kernel) ?_)
  refine lv_iconst (v := 2) hx hb dM_isGood_35 (by decide) ?_
  refine lv_iadd hx hb dM_isGood_36 ?_
  refine lv_topi (nm_r (e' := 6) (by decide +kernel) ?_)
  refine va_iald hx hb hK hP 1 0 rfl rfl (tv_in (by decide +kernel)) dM_isGood_37 ?_
  refine lv_topi (nm_r (e' := 0) (by decide +kernel) ?_)
  refine lv_iload_n hx hb dM_isGood_38 rfl (lv_at hl 1 rfl) ?_
  have hPc := hP.sub (ws' := []) [] rfl
  refine vp_callSi (W.runS (As := [.int 0, .int 0, .int 0, .int 1]) (rest := [.int 0]) ⟨hx, hb, hml, hown, hw⟩ (c_M_chk l dC dI cI cZ cJ cT 0 0 0 1) ⟨callB_of 4 hw (gA0 w608) rfl rfl rfl (hw _ w45) (hw _ w606) (by decide +kernel) ⟨Nat.le_of_ble_eq_true rfl, Nat.le_of_ble_eq_true rfl⟩, (hw _ w607)⟩ ⟨kb_S, fun U hU hW => ⟨rfl, by rw [hU]; exact hPc, hKK.moved hW⟩⟩ rfl rfl hl.1 rfl (lv_room (Nat.le_of_ble_eq_true rfl)) dM_isGood_39 ⟨Nat.le_of_ble_eq_true rfl, Nat.le_of_ble_eq_true rfl⟩) (fun r1 e2 => ?_)
  obtain rfl : r1 = 1013904320 := e2.trans (by decide +kernel)
  refine lv_icmp_ne (tgt := 49) hx hb dM_isGood_42 (by decide) (fun _ => ?_) (fun h9 => absurd h9 (by decide))
  refine lv_iconst (v := 0) hx hb dM_isGood_49 (by decide) ?_
  exact W.zret (v := 0) (ty := .boolean) hx hb hr (by decide) (fun t ht hW => ⟨0, rfl, rfl, ht⟩) (fun q h => by cases h) dM_isGood_50

set_option maxHeartbeats 4000000 in
set_option maxRecDepth 100000 in
theorem c_M_isGood22 (l : Launch) (dC : Nat → ClassId) (dI : Nat → Nat → Nat) (cI cZ cJ cT : ClassId) (m0 md mh mn mc mo mb mk ml ms mw : Nat) : Met l yM_isGood (Cond.code yM_isGood cM_isGood 2 (some .boolean) :: wsA) ({ frames := 1, cells := 0, slots := 0, locals := 23 }) (va_Pc [.ref m0, .int 22] (fun U => va_P (dC, dI) vwC [(m0, .inr (4, [.int 0, .ref md, .int 0, .int (-1), .int 0, .ref mh, .ref mn, .ref mc, .int 0, .int 1, .int 0, .int 0, .ref mo, .ref mb, .ref mk, .ref ml, .ref ms, .ref mw])), (md, .inl (cI, 384, .inl MW0))] U.heap ∧ KK dC dI cI cZ cJ cT U)) (vp_Si (fun r => r = 0)) 0 0 (fun _ => False) := by
  refine Met.ofW (cc := cM_isGood) (maxL := 2) (ret := (some .boolean)) (by decide) rfl ?_
  intro p e s m args below meth c s₁ B hml hv
  obtain ⟨rfl, hP, hKK⟩ := hv
  have hK := hKK.1
  have hx := B.exec
  have hb := B.bytes
  have hr := B.returns
  have hw : ∀ w ∈ wsA, w.before _ s = true := fun w h => atoms_spec (ws := (Cond.code yM_isGood cM_isGood 2 (some .boolean) :: wsA)) B.pre w (List.mem_cons_of_mem _ h)
  have hown : s.vm.findClass "LoggedStoreModel" = some m.cls := findClass_of_methodNamed B.named
  have hlocks := B.notSynchronized
  have hl := lv_entry ([.ref m0, .int 22]) (n := 2) (Nat.le_of_ble_eq_true rfl)
  rw [lg_entry_eq]
  generalize (lg_sl ([.ref m0, .int 22]) ++ List.replicate (2 - (lg_sl ([.ref m0, .int 22])).length) Slot.unset).toArray = ls at hl ⊢
  have hl : lv_has ls 2 [(0, .ref m0), (1, .int 22)] := hl
  refine lv_aload_n hx hb dM_isGood_0 rfl (lv_at hl 0 rfl) ?_
  refine va_get (D := (dC, dI)) (ci := 4) (v := .ref md) (C := "LoggedStoreModel") (T := uM) (N := 18) hx hb hw inM hown hK hP 0 rfl rfl 1 (by decide) (hw _ w613) (fun _ h9 => h9) rfl dM_isGood_1 ?_
  refine lv_iconst (v := 4) hx hb dM_isGood_4 (by decide) ?_
  refine lv_iload_n hx hb dM_isGood_5 rfl (lv_at hl 1 rfl) ?_
  refine lv_imul hx hb dM_isGood_6 ?_
  refine lv_topi (nm_r (e' := 88) (by decide +kernel) ?_)
  refine lv_iconst (v := 3) hx hb dM_isGood_7 (by decide) ?_
  refine lv_iadd hx hb dM_isGood_8 ?_
  refine lv_topi (nm_r (e' := 91) (by decide +kernel) ?_)
  refine va_iald hx hb hK hP 1 0 rfl rfl (tv_in (by decide +kernel)) dM_isGood_9 ?_
  refine lv_topi (nm_r (e' := 0) (by decide +kernel) ?_)
  refine lv_aload_n hx hb dM_isGood_10 rfl (lv_at hl 0 rfl) ?_
  refine va_get (D := (dC, dI)) (ci := 4) (v := .ref md) (C := "LoggedStoreModel") (T := uM) (N := 18) hx hb hw inM hown hK hP 0 rfl rfl 1 (by decide) (hw _ w613) (fun _ h9 => h9) rfl dM_isGood_11 ?_
  refine lv_iconst (v := 4) hx hb dM_isGood_14 (by decide) ?_
  refine lv_iload_n hx hb dM_isGood_15 rfl (lv_at hl 1 rfl) ?_
  refine lv_imul hx hb dM_isGood_16 ?_
  refine lv_topi (nm_r (e' := 88) (by decide +kernel) ?_)
  refine va_iald hx hb hK hP 1 0 rfl rfl (tv_in (by decide +kernel)) dM_isGood_17 ?_
  refine lv_topi (nm_r (e' := 0) (by decide +kernel) ?_)
  refine lv_aload_n hx hb dM_isGood_18 rfl (lv_at hl 0 rfl) ?_
  refine va_get (D := (dC, dI)) (ci := 4) (v := .ref md) (C := "LoggedStoreModel") (T := uM) (N := 18) hx hb hw inM hown hK hP 0 rfl rfl 1 (by decide) (hw _ w613) (fun _ h9 => h9) rfl dM_isGood_19 ?_
  refine lv_iconst (v := 4) hx hb dM_isGood_22 (by decide) ?_
  refine lv_iload_n hx hb dM_isGood_23 rfl (lv_at hl 1 rfl) ?_
  refine lv_imul hx hb dM_isGood_24 ?_
  refine lv_topi (nm_r (e' := 88) (by decide +kernel) ?_)
  refine lv_iconst (v := 1) hx hb dM_isGood_25 (by decide) ?_
  refine lv_iadd hx hb dM_isGood_26 ?_
  refine lv_topi (nm_r (e' := 89) (by decide +kernel) ?_)
  refine va_iald hx hb hK hP 1 0 rfl rfl (tv_in (by decide +kernel)) dM_isGood_27 ?_
  refine lv_topi (nm_r (e' := 0) (by decide +kernel) ?_)
  refine lv_aload_n hx hb dM_isGood_28 rfl (lv_at hl 0 rfl) ?_
  refine va_get (D := (dC, dI)) (ci := 4) (v := .ref md) (C := "LoggedStoreModel") (T := uM) (N := 18) hx hb hw inM hown hK hP 0 rfl rfl 1 (by decide) (hw _ w613) (fun _ h9 => h9) rfl dM_isGood_29 ?_
  refine lv_iconst (v := 4) hx hb dM_isGood_32 (by decide) ?_
  refine lv_iload_n hx hb dM_isGood_33 rfl (lv_at hl 1 rfl) ?_
  refine lv_imul hx hb dM_isGood_34 ?_
  refine lv_topi (nm_r (e' := 88) (by decide +kernel) ?_)
  refine lv_iconst (v := 2) hx hb dM_isGood_35 (by decide) ?_
  refine lv_iadd hx hb dM_isGood_36 ?_
  refine lv_topi (nm_r (e' := 90) (by decide +kernel) ?_)
  refine va_iald hx hb hK hP 1 0 rfl rfl (tv_in (by decide +kernel)) dM_isGood_37 ?_
  refine lv_topi (nm_r (e' := 0) (by decide +kernel) ?_)
  refine lv_iload_n hx hb dM_isGood_38 rfl (lv_at hl 1 rfl) ?_
  have hPc := hP.sub (ws' := []) [] rfl
  refine vp_callSi (W.runS (As := [.int 0, .int 0, .int 0, .int 22]) (rest := [.int 0]) ⟨hx, hb, hml, hown, hw⟩ (c_M_chk l dC dI cI cZ cJ cT 0 0 0 22) ⟨callB_of 4 hw (gA0 w608) rfl rfl rfl (hw _ w45) (hw _ w606) (by decide +kernel) ⟨Nat.le_of_ble_eq_true rfl, Nat.le_of_ble_eq_true rfl⟩, (hw _ w607)⟩ ⟨kb_S, fun U hU hW => ⟨rfl, by rw [hU]; exact hPc, hKK.moved hW⟩⟩ rfl rfl hl.1 rfl (lv_room (Nat.le_of_ble_eq_true rfl)) dM_isGood_39 ⟨Nat.le_of_ble_eq_true rfl, Nat.le_of_ble_eq_true rfl⟩) (fun r1 e2 => ?_)
  obtain rfl : r1 = 1013906357 := e2.trans (by decide +kernel)
  refine lv_icmp_ne (tgt := 49) hx hb dM_isGood_42 (by decide) (fun _ => ?_) (fun h9 => absurd h9 (by decide))
  refine lv_iconst (v := 0) hx hb dM_isGood_49 (by decide) ?_
  exact W.zret (v := 0) (ty := .boolean) hx hb hr (by decide) (fun t ht hW => ⟨0, rfl, rfl, ht⟩) (fun q h => by cases h) dM_isGood_50

set_option maxHeartbeats 4000000 in
set_option maxRecDepth 100000 in
theorem c_M_counts0 (l : Launch) (dC : Nat → ClassId) (dI : Nat → Nat → Nat) (cI cZ cJ cT : ClassId) (m0 md mh mn mc mo mb mk ml ms mw : Nat) : Met l yM_counts (Cond.code yM_counts cM_counts 2 (some .boolean) :: wsA) ({ frames := 2, cells := 0, slots := 0, locals := 44 }) (va_Pc [.ref m0, .int 0] (fun U => va_P (dC, dI) vwC [(m0, .inr (4, [.int 0, .ref md, .int 0, .int (-1), .int 0, .ref mh, .ref mn, .ref mc, .int 0, .int 1, .int 0, .int 0, .ref mo, .ref mb, .ref mk, .ref ml, .ref ms, .ref mw])), (md, .inl (cI, 384, .inl MW0))] U.heap ∧ KK dC dI cI cZ cJ cT U)) (vp_Si (fun r => r = 1)) 0 0 (fun _ => False) := by
  refine Met.ofW (cc := cM_counts) (maxL := 2) (ret := (some .boolean)) (by decide) rfl ?_
  intro p e s m args below meth c s₁ B hml hv
  obtain ⟨rfl, hP, hKK⟩ := hv
  have hK := hKK.1
  have hx := B.exec
  have hb := B.bytes
  have hr := B.returns
  have hw : ∀ w ∈ wsA, w.before _ s = true := fun w h => atoms_spec (ws := (Cond.code yM_counts cM_counts 2 (some .boolean) :: wsA)) B.pre w (List.mem_cons_of_mem _ h)
  have hown : s.vm.findClass "LoggedStoreModel" = some m.cls := findClass_of_methodNamed B.named
  have hlocks := B.notSynchronized
  have hl := lv_entry ([.ref m0, .int 0]) (n := 2) (Nat.le_of_ble_eq_true rfl)
  rw [lg_entry_eq]
  generalize (lg_sl ([.ref m0, .int 0]) ++ List.replicate (2 - (lg_sl ([.ref m0, .int 0])).length) Slot.unset).toArray = ls at hl ⊢
  have hl : lv_has ls 2 [(0, .ref m0), (1, .int 0)] := hl
  refine lv_aload_n hx hb dM_counts_0 rfl (lv_at hl 0 rfl) ?_
  refine lv_iload_n hx hb dM_counts_1 rfl (lv_at hl 1 rfl) ?_
  have hPc := hP.sub (ws' := [(m0, .inr (4, [.int 0, .ref md, .int 0, .int (-1), .int 0, .ref mh, .ref mn, .ref mc, .int 0, .int 1, .int 0, .int 0, .ref mo, .ref mb, .ref mk, .ref ml, .ref ms, .ref mw])), (md, .inl (cI, 384, .inl MW0))]) [0, 1] rfl
  refine vp_callSi (W.runV (C := "LoggedStoreModel") (b := m0) (As := [.int 0]) (rest := []) ⟨hx, hb, hml, hown, hw⟩ (c_M_isGood0 l dC dI cI cZ cJ cT m0 md mh mn mc mo mb mk ml ms mw) ⟨callB_of 1 hw (gA0 w769) rfl rfl rfl (hw _ w45) (hw _ w766) (by decide +kernel) ⟨Nat.le_of_ble_eq_true rfl, Nat.le_of_ble_eq_true rfl⟩, (hw _ w768), (hw _ w35)⟩ ⟨kb_S, va_recv (ci := 4) (q0 := 0) hK hP rfl rfl, fun U hU hW => ⟨rfl, by rw [hU]; exact hPc, hKK.moved hW⟩⟩ rfl rfl hl.1 rfl (lv_room (Nat.le_of_ble_eq_true rfl)) dM_counts_2 ⟨Nat.le_of_ble_eq_true rfl, Nat.le_of_ble_eq_true rfl⟩) (fun r1 e2 => ?_)
  obtain rfl : r1 = 1 := e2
  refine lv_if_eq (tgt := 28) hx hb dM_counts_5 (by decide) (fun h9 => absurd h9 (by decide)) (fun _ => ?_)
  refine lv_aload_n hx hb dM_counts_8 rfl (lv_at hl 0 rfl) ?_
  refine va_get (D := (dC, dI)) (ci := 4) (v := .ref md) (C := "LoggedStoreModel") (T := uM) (N := 18) hx hb hw inM hown hK hP 0 rfl rfl 1 (by decide) (hw _ w613) (fun _ h9 => h9) rfl dM_counts_9 ?_
  refine lv_iconst (v := 4) hx hb dM_counts_12 (by decide) ?_
  refine lv_iload_n hx hb dM_counts_13 rfl (lv_at hl 1 rfl) ?_
  refine lv_imul hx hb dM_counts_14 ?_
  refine lv_topi (nm_r (e' := 0) (by decide +kernel) ?_)
  refine va_iald hx hb hK hP 1 0 rfl rfl (tv_in (by decide +kernel)) dM_counts_15 ?_
  refine lv_topi (nm_r (e' := 1) (by decide +kernel) ?_)
  refine lv_iconst (v := 1) hx hb dM_counts_16 (by decide) ?_
  refine lv_iadd hx hb dM_counts_17 ?_
  refine lv_topi (nm_r (e' := 2) (by decide +kernel) ?_)
  refine lv_iconst (v := 1) hx hb dM_counts_18 (by decide) ?_
  refine lv_iand hx hb dM_counts_19 ?_
  refine lv_topi (nm_r (e' := 0) (by decide +kernel) ?_)
  refine lv_iload_n hx hb dM_counts_20 rfl (lv_at hl 1 rfl) ?_
  refine lv_icmp_ne (tgt := 28) hx hb dM_counts_21 (by decide) (fun h9 => absurd (by decide) h9) (fun _ => ?_)
  refine lv_iconst (v := 1) hx hb dM_counts_24 (by decide) ?_
  refine lv_goto (tgt := 29) hx hb dM_counts_25 (by decide) ?_
  exact W.zret (v := 1) (ty := .boolean) hx hb hr (by decide) (fun t ht hW => ⟨1, rfl, rfl, ht⟩) (fun q h => by cases h) dM_counts_29

set_option maxHeartbeats 4000000 in
set_option maxRecDepth 100000 in
theorem c_M_counts1 (l : Launch) (dC : Nat → ClassId) (dI : Nat → Nat → Nat) (cI cZ cJ cT : ClassId) (m0 md mh mn mc mo mb mk ml ms mw : Nat) : Met l yM_counts (Cond.code yM_counts cM_counts 2 (some .boolean) :: wsA) ({ frames := 2, cells := 0, slots := 0, locals := 44 }) (va_Pc [.ref m0, .int 1] (fun U => va_P (dC, dI) vwC [(m0, .inr (4, [.int 0, .ref md, .int 0, .int (-1), .int 0, .ref mh, .ref mn, .ref mc, .int 0, .int 1, .int 0, .int 0, .ref mo, .ref mb, .ref mk, .ref ml, .ref ms, .ref mw])), (md, .inl (cI, 384, .inl MW0))] U.heap ∧ KK dC dI cI cZ cJ cT U)) (vp_Si (fun r => r = 0)) 0 0 (fun _ => False) := by
  refine Met.ofW (cc := cM_counts) (maxL := 2) (ret := (some .boolean)) (by decide) rfl ?_
  intro p e s m args below meth c s₁ B hml hv
  obtain ⟨rfl, hP, hKK⟩ := hv
  have hK := hKK.1
  have hx := B.exec
  have hb := B.bytes
  have hr := B.returns
  have hw : ∀ w ∈ wsA, w.before _ s = true := fun w h => atoms_spec (ws := (Cond.code yM_counts cM_counts 2 (some .boolean) :: wsA)) B.pre w (List.mem_cons_of_mem _ h)
  have hown : s.vm.findClass "LoggedStoreModel" = some m.cls := findClass_of_methodNamed B.named
  have hlocks := B.notSynchronized
  have hl := lv_entry ([.ref m0, .int 1]) (n := 2) (Nat.le_of_ble_eq_true rfl)
  rw [lg_entry_eq]
  generalize (lg_sl ([.ref m0, .int 1]) ++ List.replicate (2 - (lg_sl ([.ref m0, .int 1])).length) Slot.unset).toArray = ls at hl ⊢
  have hl : lv_has ls 2 [(0, .ref m0), (1, .int 1)] := hl
  refine lv_aload_n hx hb dM_counts_0 rfl (lv_at hl 0 rfl) ?_
  refine lv_iload_n hx hb dM_counts_1 rfl (lv_at hl 1 rfl) ?_
  have hPc := hP.sub (ws' := [(m0, .inr (4, [.int 0, .ref md, .int 0, .int (-1), .int 0, .ref mh, .ref mn, .ref mc, .int 0, .int 1, .int 0, .int 0, .ref mo, .ref mb, .ref mk, .ref ml, .ref ms, .ref mw])), (md, .inl (cI, 384, .inl MW0))]) [0, 1] rfl
  refine vp_callSi (W.runV (C := "LoggedStoreModel") (b := m0) (As := [.int 1]) (rest := []) ⟨hx, hb, hml, hown, hw⟩ (c_M_isGood1 l dC dI cI cZ cJ cT m0 md mh mn mc mo mb mk ml ms mw) ⟨callB_of 1 hw (gA0 w769) rfl rfl rfl (hw _ w45) (hw _ w766) (by decide +kernel) ⟨Nat.le_of_ble_eq_true rfl, Nat.le_of_ble_eq_true rfl⟩, (hw _ w768), (hw _ w35)⟩ ⟨kb_S, va_recv (ci := 4) (q0 := 0) hK hP rfl rfl, fun U hU hW => ⟨rfl, by rw [hU]; exact hPc, hKK.moved hW⟩⟩ rfl rfl hl.1 rfl (lv_room (Nat.le_of_ble_eq_true rfl)) dM_counts_2 ⟨Nat.le_of_ble_eq_true rfl, Nat.le_of_ble_eq_true rfl⟩) (fun r1 e2 => ?_)
  obtain rfl : r1 = 0 := e2
  refine lv_if_eq (tgt := 28) hx hb dM_counts_5 (by decide) (fun _ => ?_) (fun h9 => absurd (by decide) h9)
  refine lv_iconst (v := 0) hx hb dM_counts_28 (by decide) ?_
  exact W.zret (v := 0) (ty := .boolean) hx hb hr (by decide) (fun t ht hW => ⟨0, rfl, rfl, ht⟩) (fun q h => by cases h) dM_counts_29

set_option maxHeartbeats 4000000 in
set_option maxRecDepth 100000 in
theorem c_M_takeArea (l : Launch) (dC : Nat → ClassId) (dI : Nat → Nat → Nat) (cI cZ cJ cT : ClassId) (m0 md mh mn mc mo mb mk ml ms mw : Nat) (sz : Nat) : Met l yM_takeArea (Cond.code yM_takeArea cM_takeArea 5 none :: wsA) ({ frames := 0, cells := 0, slots := 0, locals := 0 }) (va_Pc [.ref m0, .int 0] (fun U => U.heap.size = sz ∧ va_P (dC, dI) vwC [(m0, .inr (4, [.int 0, .ref md, .int 0, .int (-1), .int 0, .ref mh, .ref mn, .ref mc, .int 0, .int 1, .int 0, .int 0, .ref mo, .ref mb, .ref mk, .ref ml, .ref ms, .ref mw])), (md, .inl (cI, 384, .inl MW0)), (mh, .inl (cZ, 64, .inl (fun _ => 0))), (mn, .inl (cI, 64, .inl (fun _ => 0))), (mc, .inl (cI, 64, .inl (fun _ => 0)))] U.heap ∧ KK dC dI cI cZ cJ cT U ∧ va_D (fun _ => True) [(m0, .inr (4, [.int 0, .ref md, .int 0, .int (-1), .int 0, .ref mh, .ref mn, .ref mc, .int 0, .int 1, .int 0, .int 0, .ref mo, .ref mb, .ref mk, .ref ml, .ref ms, .ref mw])), (md, .inl (cI, 384, .inl MW0)), (mh, .inl (cZ, 64, .inl (fun _ => 0))), (mn, .inl (cI, 64, .inl (fun _ => 0))), (mc, .inl (cI, 64, .inl (fun _ => 0)))])) (va_Qv (S := Nat → Nat) (fun _ => True) (fun u t => va_P (dC, dI) vwC [(m0, .inr (4, [.int 0, .ref md, .int 0, .int (-1), .int 0, .ref mh, .ref mn, .ref mc, .int 0, .int 1, .int 0, .int 0, .ref mo, .ref mb, .ref mk, .ref ml, .ref ms, .ref mw])), (md, .inl (cI, 384, .inl MW0))] t.heap ∧ va_D (va_A [(m0, .inr (4, [.int 0, .ref md, .int 0, .int (-1), .int 0, .ref mh, .ref mn, .ref mc, .int 0, .int 1, .int 0, .int 0, .ref mo, .ref mb, .ref mk, .ref ml, .ref ms, .ref mw])), (md, .inl (cI, 384, .inl MW0)), (mh, .inl (cZ, 64, .inl (fun _ => 0))), (mn, .inl (cI, 64, .inl (fun _ => 0))), (mc, .inl (cI, 64, .inl (fun _ => 0)))] sz) [(m0, .inr (4, [.int 0, .ref md, .int 0, .int (-1), .int 0, .ref mh, .ref mn, .ref mc, .int 0, .int 1, .int 0, .int 0, .ref mo, .ref mb, .ref mk, .ref ml, .ref ms, .ref mw])), (md, .inl (cI, 384, .inl MW0))]) (va_A [(m0, .inr (4, [.int 0, .ref md, .int 0, .int (-1), .int 0, .ref mh, .ref mn, .ref mc, .int 0, .int 1, .int 0, .int 0, .ref mo, .ref mb, .ref mk, .ref ml, .ref ms, .ref mw])), (md, .inl (cI, 384, .inl MW0)), (mh, .inl (cZ, 64, .inl (fun _ => 0))), (mn, .inl (cI, 64, .inl (fun _ => 0))), (mc, .inl (cI, 64, .inl (fun _ => 0)))] sz)) 0 0 (va_A [(m0, .inr (4, [.int 0, .ref md, .int 0, .int (-1), .int 0, .ref mh, .ref mn, .ref mc, .int 0, .int 1, .int 0, .int 0, .ref mo, .ref mb, .ref mk, .ref ml, .ref ms, .ref mw])), (md, .inl (cI, 384, .inl MW0)), (mh, .inl (cZ, 64, .inl (fun _ => 0))), (mn, .inl (cI, 64, .inl (fun _ => 0))), (mc, .inl (cI, 64, .inl (fun _ => 0)))] sz) := by
  refine Met.ofW (cc := cM_takeArea) (maxL := 5) (ret := none) (by decide) rfl ?_
  intro p e s m args below meth c s₁ B hml hv
  obtain ⟨rfl, hsz, hP, hKK, hD0⟩ := hv
  have hK := hKK.1
  have hx := B.exec
  have hb := B.bytes
  have hr := B.returns
  have hw : ∀ w ∈ wsA, w.before _ s = true := fun w h => atoms_spec (ws := (Cond.code yM_takeArea cM_takeArea 5 none :: wsA)) B.pre w (List.mem_cons_of_mem _ h)
  have hown : s.vm.findClass "LoggedStoreModel" = some m.cls := findClass_of_methodNamed B.named
  have hlocks := B.notSynchronized
  subst hsz
  have hD := hD0.self (sz := s.heap.size)
  generalize hAe : va_A [(m0, .inr (4, [.int 0, .ref md, .int 0, .int (-1), .int 0, .ref mh, .ref mn, .ref mc, .int 0, .int 1, .int 0, .int 0, .ref mo, .ref mb, .ref mk, .ref ml, .ref ms, .ref mw])), (md, .inl (cI, 384, .inl MW0)), (mh, .inl (cZ, 64, .inl (fun _ => 0))), (mn, .inl (cI, 64, .inl (fun _ => 0))), (mc, .inl (cI, 64, .inl (fun _ => 0)))] s.heap.size = A at hD ⊢
  have hA : ∀ q : Nat, s.heap.size ≤ q → A q := fun q h => by rw [← hAe]; exact Or.inr h
  have hS : va_S A s.heap s.heap [] := va_S.rf
  have hl := lv_entry ([.ref m0, .int 0]) (n := 5) (Nat.le_of_ble_eq_true rfl)
  rw [lg_entry_eq]
  generalize (lg_sl ([.ref m0, .int 0]) ++ List.replicate (5 - (lg_sl ([.ref m0, .int 0])).length) Slot.unset).toArray = ls at hl ⊢
  have hl : lv_has ls 5 [(0, .ref m0), (1, .int 0)] := hl
  refine lv_aload_n hx hb dM_takeArea_0 rfl (lv_at hl 0 rfl) ?_
  refine lv_aload_n hx hb dM_takeArea_1 rfl (lv_at hl 0 rfl) ?_
  refine va_get (D := (dC, dI)) (ci := 4) (v := .ref md) (C := "LoggedStoreModel") (T := uM) (N := 18) hx hb hw inM hown hK hP 0 rfl rfl 1 (by decide) (hw _ w613) (fun _ h9 => h9) rfl dM_takeArea_2 ?_
  refine lv_iconst (v := 4) hx hb dM_takeArea_5 (by decide) ?_
  refine lv_iload_n hx hb dM_takeArea_6 rfl (lv_at hl 1 rfl) ?_
  refine lv_imul hx hb dM_takeArea_7 ?_
  refine lv_topi (nm_r (e' := 0) (by decide +kernel) ?_)
  refine va_iald hx hb hK hP 1 0 rfl rfl (tv_in (by decide +kernel)) dM_takeArea_8 ?_
  refine lv_topi (nm_r (e' := 1) (by decide +kernel) ?_)
  refine va_put (D := (dC, dI)) (ci := 4) (v := .int 1) (ty := .int) (C := "LoggedStoreModel") (T := uM) (N := 18) hx hb hw inM tyM tyM_ok nmM hown hK hP hD hS 0 rfl rfl 9 (by decide) (hw _ w621) (fun _ h9 => h9) rfl (by decide +kernel) rfl rfl (Nat.le_of_ble_eq_true rfl) dM_takeArea_9 (fun H locs hP hD hS => ?_)
  have hP : va_P (dC, dI) vwC [(m0, .inr (4, [.int 0, .ref md, .int 0, .int (-1), .int 0, .ref mh, .ref mn, .ref mc, .int 0, .int 1, .int 0, .int 0, .ref mo, .ref mb, .ref mk, .ref ml, .ref ms, .ref mw])), (md, .inl (cI, 384, .inl MW0)), (mh, .inl (cZ, 64, .inl (fun _ => 0))), (mn, .inl (cI, 64, .inl (fun _ => 0))), (mc, .inl (cI, 64, .inl (fun _ => 0)))] H := hP
  have hD : va_D A [(m0, .inr (4, [.int 0, .ref md, .int 0, .int (-1), .int 0, .ref mh, .ref mn, .ref mc, .int 0, .int 1, .int 0, .int 0, .ref mo, .ref mb, .ref mk, .ref ml, .ref ms, .ref mw])), (md, .inl (cI, 384, .inl MW0)), (mh, .inl (cZ, 64, .inl (fun _ => 0))), (mn, .inl (cI, 64, .inl (fun _ => 0))), (mc, .inl (cI, 64, .inl (fun _ => 0)))] := hD
  refine lv_aload_n hx hb dM_takeArea_12 rfl (lv_at hl 0 rfl) ?_
  refine lv_aload_n hx hb dM_takeArea_13 rfl (lv_at hl 0 rfl) ?_
  refine va_get (D := (dC, dI)) (ci := 4) (v := .ref md) (C := "LoggedStoreModel") (T := uM) (N := 18) hx hb hw inM hown hK hP 0 rfl rfl 1 (by decide) (hw _ w613) (fun _ h9 => h9) rfl dM_takeArea_14 ?_
  refine lv_iconst (v := 4) hx hb dM_takeArea_17 (by decide) ?_
  refine lv_iload_n hx hb dM_takeArea_18 rfl (lv_at hl 1 rfl) ?_
  refine lv_imul hx hb dM_takeArea_19 ?_
  refine lv_topi (nm_r (e' := 0) (by decide +kernel) ?_)
  refine lv_iconst (v := 1) hx hb dM_takeArea_20 (by decide) ?_
  refine lv_iadd hx hb dM_takeArea_21 ?_
  refine lv_topi (nm_r (e' := 1) (by decide +kernel) ?_)
  refine va_iald hx hb hK hP 1 0 rfl rfl (tv_in (by decide +kernel)) dM_takeArea_22 ?_
  refine lv_topi (nm_r (e' := 0) (by decide +kernel) ?_)
  refine lv_bipush (v := 64) hx hb dM_takeArea_23 (by decide) ?_
  refine lv_idiv hx hb dM_takeArea_25 (by decide) ?_
  refine lv_topi (nm_r (e' := 0) (by decide +kernel) ?_)
  refine va_put (D := (dC, dI)) (ci := 4) (v := .int 0) (ty := .int) (C := "LoggedStoreModel") (T := uM) (N := 18) hx hb hw inM tyM tyM_ok nmM hown hK hP hD hS 0 rfl rfl 10 (by decide) (hw _ w622) (fun _ h9 => h9) rfl (by decide +kernel) rfl rfl (Nat.le_of_ble_eq_true rfl) dM_takeArea_26 (fun H locs hP hD hS => ?_)
  have hP : va_P (dC, dI) vwC [(m0, .inr (4, [.int 0, .ref md, .int 0, .int (-1), .int 0, .ref mh, .ref mn, .ref mc, .int 0, .int 1, .int 0, .int 0, .ref mo, .ref mb, .ref mk, .ref ml, .ref ms, .ref mw])), (md, .inl (cI, 384, .inl MW0)), (mh, .inl (cZ, 64, .inl (fun _ => 0))), (mn, .inl (cI, 64, .inl (fun _ => 0))), (mc, .inl (cI, 64, .inl (fun _ => 0)))] H := hP
  have hD : va_D A [(m0, .inr (4, [.int 0, .ref md, .int 0, .int (-1), .int 0, .ref mh, .ref mn, .ref mc, .int 0, .int 1, .int 0, .int 0, .ref mo, .ref mb, .ref mk, .ref ml, .ref ms, .ref mw])), (md, .inl (cI, 384, .inl MW0)), (mh, .inl (cZ, 64, .inl (fun _ => 0))), (mn, .inl (cI, 64, .inl (fun _ => 0))), (mc, .inl (cI, 64, .inl (fun _ => 0)))] := hD
  refine lv_aload_n hx hb dM_takeArea_29 rfl (lv_at hl 0 rfl) ?_
  refine va_get (D := (dC, dI)) (ci := 4) (v := .ref md) (C := "LoggedStoreModel") (T := uM) (N := 18) hx hb hw inM hown hK hP 0 rfl rfl 1 (by decide) (hw _ w613) (fun _ h9 => h9) rfl dM_takeArea_30 ?_
  refine lv_iconst (v := 4) hx hb dM_takeArea_33 (by decide) ?_
  refine lv_iload_n hx hb dM_takeArea_34 rfl (lv_at hl 1 rfl) ?_
  refine lv_imul hx hb dM_takeArea_35 ?_
  refine lv_topi (nm_r (e' := 0) (by decide +kernel) ?_)
  refine lv_iconst (v := 1) hx hb dM_takeArea_36 (by decide) ?_
  refine lv_iadd hx hb dM_takeArea_37 ?_
  refine lv_topi (nm_r (e' := 1) (by decide +kernel) ?_)
  refine va_iald hx hb hK hP 1 0 rfl rfl (tv_in (by decide +kernel)) dM_takeArea_38 ?_
  refine lv_topi (nm_r (e' := 0) (by decide +kernel) ?_)
  refine lv_bipush (v := 64) hx hb dM_takeArea_39 (by decide) ?_
  refine lv_irem hx hb dM_takeArea_41 (by decide) ?_
  refine lv_topi (nm_r (e' := 0) (by decide +kernel) ?_)
  refine lv_istore_n hx hb dM_takeArea_42 rfl hl (by decide) rfl (fun ls hl => ?_)
  have hl : lv_has ls 5 [(2, .int 0), (0, .ref m0), (1, .int 0)] := hl
  refine lv_aload_n hx hb dM_takeArea_43 rfl (lv_at hl 1 rfl) ?_
  refine lv_aload_n hx hb dM_takeArea_44 rfl (lv_at hl 1 rfl) ?_
  refine va_get (D := (dC, dI)) (ci := 4) (v := .ref md) (C := "LoggedStoreModel") (T := uM) (N := 18) hx hb hw inM hown hK hP 0 rfl rfl 1 (by decide) (hw _ w613) (fun _ h9 => h9) rfl dM_takeArea_45 ?_
  refine lv_iconst (v := 4) hx hb dM_takeArea_48 (by decide) ?_
  refine lv_iload_n hx hb dM_takeArea_49 rfl (lv_at hl 2 rfl) ?_
  refine lv_imul hx hb dM_takeArea_50 ?_
  refine lv_topi (nm_r (e' := 0) (by decide +kernel) ?_)
  refine lv_iconst (v := 2) hx hb dM_takeArea_51 (by decide) ?_
  refine lv_iadd hx hb dM_takeArea_52 ?_
  refine lv_topi (nm_r (e' := 2) (by decide +kernel) ?_)
  refine va_iald hx hb hK hP 1 0 rfl rfl (tv_in (by decide +kernel)) dM_takeArea_53 ?_
  refine lv_topi (nm_r (e' := 0) (by decide +kernel) ?_)
  refine va_put (D := (dC, dI)) (ci := 4) (v := .int 0) (ty := .int) (C := "LoggedStoreModel") (T := uM) (N := 18) hx hb hw inM tyM tyM_ok nmM hown hK hP hD hS 0 rfl rfl 8 (by decide) (hw _ w620) (fun _ h9 => h9) rfl (by decide +kernel) rfl rfl (Nat.le_of_ble_eq_true rfl) dM_takeArea_54 (fun H locs hP hD hS => ?_)
  have hP : va_P (dC, dI) vwC [(m0, .inr (4, [.int 0, .ref md, .int 0, .int (-1), .int 0, .ref mh, .ref mn, .ref mc, .int 0, .int 1, .int 0, .int 0, .ref mo, .ref mb, .ref mk, .ref ml, .ref ms, .ref mw])), (md, .inl (cI, 384, .inl MW0)), (mh, .inl (cZ, 64, .inl (fun _ => 0))), (mn, .inl (cI, 64, .inl (fun _ => 0))), (mc, .inl (cI, 64, .inl (fun _ => 0)))] H := hP
  have hD : va_D A [(m0, .inr (4, [.int 0, .ref md, .int 0, .int (-1), .int 0, .ref mh, .ref mn, .ref mc, .int 0, .int 1, .int 0, .int 0, .ref mo, .ref mb, .ref mk, .ref ml, .ref ms, .ref mw])), (md, .inl (cI, 384, .inl MW0)), (mh, .inl (cZ, 64, .inl (fun _ => 0))), (mn, .inl (cI, 64, .inl (fun _ => 0))), (mc, .inl (cI, 64, .inl (fun _ => 0)))] := hD
  refine lv_iconst (v := 0) hx hb dM_takeArea_57 (by decide) ?_
  refine lv_istore_n hx hb dM_takeArea_58 rfl hl (by decide) rfl (fun ls hl => ?_)
  have hl : lv_has ls 5 [(3, .int 0), (2, .int 0), (0, .ref m0), (1, .int 0)] := hl
  refine tk_forW (nL := 5) (D := (dC, dI)) (cl := vwC) (A := A) (H0 := s.heap) (σ := (Nat → Int32) × (Nat → Int32) × (Nat → Int32)) (G := fun ls H locs => W p l e _ s m _ below meth c H locs _ _ _ (F0 m 59 ls [])) (fun i => [(3, .int (nI i)), (2, .int 0), (0, .ref m0), (1, .int 0)]) (fun z => [(m0, .inr (4, [.int 0, .ref md, .int 0, .int (-1), .int 0, .ref mh, .ref mn, .ref mc, .int 0, .int 1, .int 0, .int 0, .ref mo, .ref mb, .ref mk, .ref ml, .ref ms, .ref mw])), (md, .inl (cI, 384, .inl MW0)), (mh, .inl (cZ, 64, .inl z.1)), (mn, .inl (cI, 64, .inl z.2.1)), (mc, .inl (cI, 64, .inl z.2.2))]) 64 ?_ ?_ (fun _ => 0, fun _ => 0, fun _ => 0) ls H locs hl hP hD hS
  · intro z ls H locs hl hP hD hS
    have hl : lv_has ls 5 [(3, .int (nI 64)), (2, .int 0), (0, .ref m0), (1, .int 0)] := hl
    have hP : va_P (dC, dI) vwC [(m0, .inr (4, [.int 0, .ref md, .int 0, .int (-1), .int 0, .ref mh, .ref mn, .ref mc, .int 0, .int 1, .int 0, .int 0, .ref mo, .ref mb, .ref mk, .ref ml, .ref ms, .ref mw])), (md, .inl (cI, 384, .inl MW0)), (mh, .inl (cZ, 64, .inl z.1)), (mn, .inl (cI, 64, .inl z.2.1)), (mc, .inl (cI, 64, .inl z.2.2))] H := hP
    have hD : va_D A [(m0, .inr (4, [.int 0, .ref md, .int 0, .int (-1), .int 0, .ref mh, .ref mn, .ref mc, .int 0, .int 1, .int 0, .int 0, .ref mo, .ref mb, .ref mk, .ref ml, .ref ms, .ref mw])), (md, .inl (cI, 384, .inl MW0)), (mh, .inl (cZ, 64, .inl z.1)), (mn, .inl (cI, 64, .inl z.2.1)), (mc, .inl (cI, 64, .inl z.2.2))] := hD
    refine lv_iload_n hx hb dM_takeArea_59 rfl (lv_at hl 0 rfl) ?_
    refine lv_bipush (v := 64) hx hb dM_takeArea_60 (by decide) ?_
    refine lv_icmp_ge (tgt := 92) hx hb dM_takeArea_62 (by decide) (fun _ => ?_) (fun h9 => absurd (by decide +kernel) h9)
    refine lv_iconst (v := 0) hx hb dM_takeArea_92 (by decide) ?_
    refine lv_istore_n hx hb dM_takeArea_93 rfl hl (by decide) rfl (fun ls hl => ?_)
    have hl : lv_has ls 5 [(3, .int 0), (2, .int 0), (0, .ref m0), (1, .int 0)] := hl
    refine lv_iload_n hx hb dM_takeArea_94 rfl (lv_at hl 0 rfl) ?_
    refine lv_iload_n hx hb dM_takeArea_95 rfl (lv_at hl 1 rfl) ?_
    refine lv_icmp_ge (tgt := 162) hx hb dM_takeArea_96 (by decide) (fun _ => ?_) (fun h9 => absurd (by decide) h9)
    have hP9 := hP.sub (ws' := [(m0, .inr (4, [.int 0, .ref md, .int 0, .int (-1), .int 0, .ref mh, .ref mn, .ref mc, .int 0, .int 1, .int 0, .int 0, .ref mo, .ref mb, .ref mk, .ref ml, .ref ms, .ref mw])), (md, .inl (cI, 384, .inl MW0))]) [0, 1] rfl
    have hD9 := hD.sub (ws' := [(m0, .inr (4, [.int 0, .ref md, .int 0, .int (-1), .int 0, .ref mh, .ref mn, .ref mc, .int 0, .int 1, .int 0, .int 0, .ref mo, .ref mb, .ref mk, .ref ml, .ref ms, .ref mw])), (md, .inl (cI, 384, .inl MW0))]) [0, 1] (by decide) rfl
    refine W.widen (k := 0) (n := 0) (by decide) (by decide) ?_
    exact W.vret hx hb hr (fun t ht hW => ⟨⟨fun _ => 0, rfl, trivial, by rw [ht]; exact hP9, hD9⟩, hS.F ht⟩) hS.2.2 dM_takeArea_162
  · intro i hi z ls H locs hl hP hD hS ih
    have hl : lv_has ls 5 [(3, .int (nI i)), (2, .int 0), (0, .ref m0), (1, .int 0)] := hl
    have hP : va_P (dC, dI) vwC [(m0, .inr (4, [.int 0, .ref md, .int 0, .int (-1), .int 0, .ref mh, .ref mn, .ref mc, .int 0, .int 1, .int 0, .int 0, .ref mo, .ref mb, .ref mk, .ref ml, .ref ms, .ref mw])), (md, .inl (cI, 384, .inl MW0)), (mh, .inl (cZ, 64, .inl z.1)), (mn, .inl (cI, 64, .inl z.2.1)), (mc, .inl (cI, 64, .inl z.2.2))] H := hP
    have hD : va_D A [(m0, .inr (4, [.int 0, .ref md, .int 0, .int (-1), .int 0, .ref mh, .ref mn, .ref mc, .int 0, .int 1, .int 0, .int 0, .ref mo, .ref mb, .ref mk, .ref ml, .ref ms, .ref mw])), (md, .inl (cI, 384, .inl MW0)), (mh, .inl (cZ, 64, .inl z.1)), (mn, .inl (cI, 64, .inl z.2.1)), (mc, .inl (cI, 64, .inl z.2.2))] := hD
    refine lv_iload_n hx hb dM_takeArea_59 rfl (lv_at hl 0 rfl) ?_
    refine lv_bipush (v := 64) hx hb dM_takeArea_60 (by decide) ?_
    refine lv_icmp_ge (tgt := 92) hx hb dM_takeArea_62 (by decide) (fun h9 => absurd h9 (nI_ge hi (by decide))) (fun _ => ?_)
    refine lv_aload_n hx hb dM_takeArea_65 rfl (lv_at hl 2 rfl) ?_
    refine va_get (D := (dC, dI)) (ci := 4) (v := .ref mh) (C := "LoggedStoreModel") (T := uM) (N := 18) hx hb hw inM hown hK hP 0 rfl rfl 5 (by decide) (hw _ w617) (fun _ h9 => h9) rfl dM_takeArea_66 ?_
    refine lv_iload_n hx hb dM_takeArea_69 rfl (lv_at hl 0 rfl) ?_
    refine lv_iconst (v := 0) hx hb dM_takeArea_70 (by decide) ?_
    refine va_zast hx hb hK hP hD hS 2 1 rfl rfl (vp_in_nI hi (by decide)) dM_takeArea_71 (fun H locs hP hD hS => ?_)
    have hP : va_P (dC, dI) vwC [(m0, .inr (4, [.int 0, .ref md, .int 0, .int (-1), .int 0, .ref mh, .ref mn, .ref mc, .int 0, .int 1, .int 0, .int 0, .ref mo, .ref mb, .ref mk, .ref ml, .ref ms, .ref mw])), (md, .inl (cI, 384, .inl MW0)), (mh, .inl (cZ, 64, .inl (upd z.1 (nI i : Int32).toNatClampNeg (vp_nar .boolean 0)))), (mn, .inl (cI, 64, .inl z.2.1)), (mc, .inl (cI, 64, .inl z.2.2))] H := hP
    have hD : va_D A [(m0, .inr (4, [.int 0, .ref md, .int 0, .int (-1), .int 0, .ref mh, .ref mn, .ref mc, .int 0, .int 1, .int 0, .int 0, .ref mo, .ref mb, .ref mk, .ref ml, .ref ms, .ref mw])), (md, .inl (cI, 384, .inl MW0)), (mh, .inl (cZ, 64, .inl (upd z.1 (nI i : Int32).toNatClampNeg (vp_nar .boolean 0)))), (mn, .inl (cI, 64, .inl z.2.1)), (mc, .inl (cI, 64, .inl z.2.2))] := hD
    refine lv_aload_n hx hb dM_takeArea_72 rfl (lv_at hl 2 rfl) ?_
    refine va_get (D := (dC, dI)) (ci := 4) (v := .ref mn) (C := "LoggedStoreModel") (T := uM) (N := 18) hx hb hw inM hown hK hP 0 rfl rfl 6 (by decide) (hw _ w618) (fun _ h9 => h9) rfl dM_takeArea_73 ?_
    refine lv_iload_n hx hb dM_takeArea_76 rfl (lv_at hl 0 rfl) ?_
    refine lv_iconst (v := 0) hx hb dM_takeArea_77 (by decide) ?_
    refine va_iast hx hb hK hP hD hS 3 0 rfl rfl (vp_in_nI hi (by decide)) dM_takeArea_78 (fun H locs hP hD hS => ?_)
    have hP : va_P (dC, dI) vwC [(m0, .inr (4, [.int 0, .ref md, .int 0, .int (-1), .int 0, .ref mh, .ref mn, .ref mc, .int 0, .int 1, .int 0, .int 0, .ref mo, .ref mb, .ref mk, .ref ml, .ref ms, .ref mw])), (md, .inl (cI, 384, .inl MW0)), (mh, .inl (cZ, 64, .inl (upd z.1 (nI i : Int32).toNatClampNeg (vp_nar .boolean 0)))), (mn, .inl (cI, 64, .inl (upd z.2.1 (nI i : Int32).toNatClampNeg 0))), (mc, .inl (cI, 64, .inl z.2.2))] H := hP
    have hD : va_D A [(m0, .inr (4, [.int 0, .ref md, .int 0, .int (-1), .int 0, .ref mh, .ref mn, .ref mc, .int 0, .int 1, .int 0, .int 0, .ref mo, .ref mb, .ref mk, .ref ml, .ref ms, .ref mw])), (md, .inl (cI, 384, .inl MW0)), (mh, .inl (cZ, 64, .inl (upd z.1 (nI i : Int32).toNatClampNeg (vp_nar .boolean 0)))), (mn, .inl (cI, 64, .inl (upd z.2.1 (nI i : Int32).toNatClampNeg 0))), (mc, .inl (cI, 64, .inl z.2.2))] := hD
    refine lv_aload_n hx hb dM_takeArea_79 rfl (lv_at hl 2 rfl) ?_
    refine va_get (D := (dC, dI)) (ci := 4) (v := .ref mc) (C := "LoggedStoreModel") (T := uM) (N := 18) hx hb hw inM hown hK hP 0 rfl rfl 7 (by decide) (hw _ w619) (fun _ h9 => h9) rfl dM_takeArea_80 ?_
    refine lv_iload_n hx hb dM_takeArea_83 rfl (lv_at hl 0 rfl) ?_
    refine lv_iconst (v := 0) hx hb dM_takeArea_84 (by decide) ?_
    refine va_iast hx hb hK hP hD hS 4 0 rfl rfl (vp_in_nI hi (by decide)) dM_takeArea_85 (fun H locs hP hD hS => ?_)
    have hP : va_P (dC, dI) vwC [(m0, .inr (4, [.int 0, .ref md, .int 0, .int (-1), .int 0, .ref mh, .ref mn, .ref mc, .int 0, .int 1, .int 0, .int 0, .ref mo, .ref mb, .ref mk, .ref ml, .ref ms, .ref mw])), (md, .inl (cI, 384, .inl MW0)), (mh, .inl (cZ, 64, .inl (upd z.1 (nI i : Int32).toNatClampNeg (vp_nar .boolean 0)))), (mn, .inl (cI, 64, .inl (upd z.2.1 (nI i : Int32).toNatClampNeg 0))), (mc, .inl (cI, 64, .inl (upd z.2.2 (nI i : Int32).toNatClampNeg 0)))] H := hP
    have hD : va_D A [(m0, .inr (4, [.int 0, .ref md, .int 0, .int (-1), .int 0, .ref mh, .ref mn, .ref mc, .int 0, .int 1, .int 0, .int 0, .ref mo, .ref mb, .ref mk, .ref ml, .ref ms, .ref mw])), (md, .inl (cI, 384, .inl MW0)), (mh, .inl (cZ, 64, .inl (upd z.1 (nI i : Int32).toNatClampNeg (vp_nar .boolean 0)))), (mn, .inl (cI, 64, .inl (upd z.2.1 (nI i : Int32).toNatClampNeg 0))), (mc, .inl (cI, 64, .inl (upd z.2.2 (nI i : Int32).toNatClampNeg 0)))] := hD
    refine lv_iinc (k := 0) (v := nI (i + 1)) hx hb dM_takeArea_86 hl rfl (nI_1 i) (by decide) rfl (fun ls hl => ?_)
    have hl : lv_has ls 5 [(3, .int (nI (i + 1))), (2, .int 0), (0, .ref m0), (1, .int 0)] := hl
    refine lv_goto (tgt := 59) hx hb dM_takeArea_89 (by decide) ?_
    exact ih (upd z.1 (nI i : Int32).toNatClampNeg (vp_nar .boolean 0), upd z.2.1 (nI i : Int32).toNatClampNeg 0, upd z.2.2 (nI i : Int32).toNatClampNeg 0) ls H locs hl hP hD hS

set_option maxHeartbeats 4000000 in
set_option maxRecDepth 100000 in
theorem c_M_takeLog (l : Launch) (dC : Nat → ClassId) (dI : Nat → Nat → Nat) (cI cZ cJ cT : ClassId) (m0 md mh mn mc mo mb mk ml ms mw : Nat) (sz : Nat) : Met l yM_takeLog (Cond.code yM_takeLog cM_takeLog 7 none :: wsA) ({ frames := 2, cells := 0, slots := 0, locals := 44 }) (va_Pc [.ref m0] (fun U => U.heap.size = sz ∧ va_P (dC, dI) vwC [(m0, .inr (4, [.int 0, .ref md, .int 0, .int (-1), .int 0, .ref mh, .ref mn, .ref mc, .int 0, .int 1, .int 0, .int 0, .ref mo, .ref mb, .ref mk, .ref ml, .ref ms, .ref mw])), (md, .inl (cI, 384, .inl MW0))] U.heap ∧ KK dC dI cI cZ cJ cT U ∧ va_D (fun _ => True) [(m0, .inr (4, [.int 0, .ref md, .int 0, .int (-1), .int 0, .ref mh, .ref mn, .ref mc, .int 0, .int 1, .int 0, .int 0, .ref mo, .ref mb, .ref mk, .ref ml, .ref ms, .ref mw])), (md, .inl (cI, 384, .inl MW0))])) (va_Qv (S := Nat → Nat) (fun _ => True) (fun u t => va_P (dC, dI) vwC [(m0, .inr (4, [.int 0, .ref md, .int 0, .int (-1), .int 0, .ref mh, .ref mn, .ref mc, .int 0, .int 1, .int 0, .int 0, .ref mo, .ref mb, .ref mk, .ref ml, .ref ms, .ref mw])), (md, .inl (cI, 384, .inl MW0))] t.heap ∧ va_D (va_A [(m0, .inr (4, [.int 0, .ref md, .int 0, .int (-1), .int 0, .ref mh, .ref mn, .ref mc, .int 0, .int 1, .int 0, .int 0, .ref mo, .ref mb, .ref mk, .ref ml, .ref ms, .ref mw])), (md, .inl (cI, 384, .inl MW0))] sz) [(m0, .inr (4, [.int 0, .ref md, .int 0, .int (-1), .int 0, .ref mh, .ref mn, .ref mc, .int 0, .int 1, .int 0, .int 0, .ref mo, .ref mb, .ref mk, .ref ml, .ref ms, .ref mw])), (md, .inl (cI, 384, .inl MW0))]) (va_A [(m0, .inr (4, [.int 0, .ref md, .int 0, .int (-1), .int 0, .ref mh, .ref mn, .ref mc, .int 0, .int 1, .int 0, .int 0, .ref mo, .ref mb, .ref mk, .ref ml, .ref ms, .ref mw])), (md, .inl (cI, 384, .inl MW0))] sz)) 0 0 (va_A [(m0, .inr (4, [.int 0, .ref md, .int 0, .int (-1), .int 0, .ref mh, .ref mn, .ref mc, .int 0, .int 1, .int 0, .int 0, .ref mo, .ref mb, .ref mk, .ref ml, .ref ms, .ref mw])), (md, .inl (cI, 384, .inl MW0))] sz) := by
  refine Met.ofW (cc := cM_takeLog) (maxL := 7) (ret := none) (by decide) rfl ?_
  intro p e s m args below meth c s₁ B hml hv
  obtain ⟨rfl, hsz, hP, hKK, hD0⟩ := hv
  have hK := hKK.1
  have hx := B.exec
  have hb := B.bytes
  have hr := B.returns
  have hw : ∀ w ∈ wsA, w.before _ s = true := fun w h => atoms_spec (ws := (Cond.code yM_takeLog cM_takeLog 7 none :: wsA)) B.pre w (List.mem_cons_of_mem _ h)
  have hown : s.vm.findClass "LoggedStoreModel" = some m.cls := findClass_of_methodNamed B.named
  have hlocks := B.notSynchronized
  subst hsz
  have hD := hD0.self (sz := s.heap.size)
  generalize hAe : va_A [(m0, .inr (4, [.int 0, .ref md, .int 0, .int (-1), .int 0, .ref mh, .ref mn, .ref mc, .int 0, .int 1, .int 0, .int 0, .ref mo, .ref mb, .ref mk, .ref ml, .ref ms, .ref mw])), (md, .inl (cI, 384, .inl MW0))] s.heap.size = A at hD ⊢
  have hA : ∀ q : Nat, s.heap.size ≤ q → A q := fun q h => by rw [← hAe]; exact Or.inr h
  have hS : va_S A s.heap s.heap [] := va_S.rf
  have hl := lv_entry ([.ref m0]) (n := 7) (Nat.le_of_ble_eq_true rfl)
  rw [lg_entry_eq]
  generalize (lg_sl ([.ref m0]) ++ List.replicate (7 - (lg_sl ([.ref m0])).length) Slot.unset).toArray = ls at hl ⊢
  have hl : lv_has ls 7 [(0, .ref m0)] := hl
  refine lv_aload_n hx hb dM_takeLog_0 rfl (lv_at hl 0 rfl) ?_
  refine lv_iconst (v := 0) hx hb dM_takeLog_1 (by decide) ?_
  refine va_put (D := (dC, dI)) (ci := 4) (v := .int 0) (ty := .int) (C := "LoggedStoreModel") (T := uM) (N := 18) hx hb hw inM tyM tyM_ok nmM hown hK hP hD hS 0 rfl rfl 11 (by decide) (hw _ w623) (fun _ h9 => h9) rfl (by decide +kernel) rfl rfl (Nat.le_of_ble_eq_true rfl) dM_takeLog_2 (fun H locs hP hD hS => ?_)
  have hP : va_P (dC, dI) vwC [(m0, .inr (4, [.int 0, .ref md, .int 0, .int (-1), .int 0, .ref mh, .ref mn, .ref mc, .int 0, .int 1, .int 0, .int 0, .ref mo, .ref mb, .ref mk, .ref ml, .ref ms, .ref mw])), (md, .inl (cI, 384, .inl MW0))] H := hP
  have hD : va_D A [(m0, .inr (4, [.int 0, .ref md, .int 0, .int (-1), .int 0, .ref mh, .ref mn, .ref mc, .int 0, .int 1, .int 0, .int 0, .ref mo, .ref mb, .ref mk, .ref ml, .ref ms, .ref mw])), (md, .inl (cI, 384, .inl MW0))] := hD
  refine lv_iconst (v := 0) hx hb dM_takeLog_5 (by decide) ?_
  refine lv_istore_n hx hb dM_takeLog_6 rfl hl (by decide) rfl (fun ls hl => ?_)
  have hl : lv_has ls 7 [(1, .int 0), (0, .ref m0)] := hl
  refine lv_iconst (v := 1) hx hb dM_takeLog_7 (by decide) ?_
  refine lv_istore_n hx hb dM_takeLog_8 rfl hl (by decide) rfl (fun ls hl => ?_)
  have hl : lv_has ls 7 [(2, .int 1), (1, .int 0), (0, .ref m0)] := hl
  refine lv_iconst (v := 0) hx hb dM_takeLog_9 (by decide) ?_
  refine lv_istore_n hx hb dM_takeLog_10 rfl hl (by decide) rfl (fun ls hl => ?_)
  have hl : lv_has ls 7 [(3, .int 0), (2, .int 1), (1, .int 0), (0, .ref m0)] := hl
  refine lv_iload_n hx hb dM_takeLog_11 rfl (lv_at hl 0 rfl) ?_
  refine lv_bipush (v := 74) hx hb dM_takeLog_12 (by decide) ?_
  refine lv_icmp_ge (tgt := 207) hx hb dM_takeLog_14 (by decide) (fun h9 => absurd h9 (by decide)) (fun _ => ?_)
  refine lv_iload_n hx hb dM_takeLog_17 rfl (lv_at hl 1 rfl) ?_
  refine lv_if_eq (tgt := 207) hx hb dM_takeLog_18 (by decide) (fun h9 => absurd h9 (by decide)) (fun _ => ?_)
  refine lv_bipush (v := 22) hx hb dM_takeLog_21 (by decide) ?_
  refine lv_iload_n hx hb dM_takeLog_23 rfl (lv_at hl 0 rfl) ?_
  refine lv_iadd hx hb dM_takeLog_24 ?_
  refine lv_topi (nm_r (e' := 22) (by decide +kernel) ?_)
  refine lv_istore hx hb dM_takeLog_25 hl (by decide) rfl (fun ls hl => ?_)
  have hl : lv_has ls 7 [(4, .int 22), (3, .int 0), (2, .int 1), (1, .int 0), (0, .ref m0)] := hl
  refine lv_aload_n hx hb dM_takeLog_27 rfl (lv_at hl 4 rfl) ?_
  refine va_get (D := (dC, dI)) (ci := 4) (v := .ref md) (C := "LoggedStoreModel") (T := uM) (N := 18) hx hb hw inM hown hK hP 0 rfl rfl 1 (by decide) (hw _ w613) (fun _ h9 => h9) rfl dM_takeLog_28 ?_
  refine lv_iconst (v := 4) hx hb dM_takeLog_31 (by decide) ?_
  refine lv_iload hx hb dM_takeLog_32 (lv_at hl 0 rfl) ?_
  refine lv_imul hx hb dM_takeLog_34 ?_
  refine lv_topi (nm_r (e' := 88) (by decide +kernel) ?_)
  refine va_iald hx hb hK hP 1 0 rfl rfl (tv_in (by decide +kernel)) dM_takeLog_35 ?_
  refine lv_topi (nm_r (e' := 0) (by decide +kernel) ?_)
  refine lv_iconst (v := 4) hx hb dM_takeLog_36 (by decide) ?_
  refine lv_aload_n hx hb dM_takeLog_37 rfl (lv_at hl 4 rfl) ?_
  refine va_get (D := (dC, dI)) (ci := 4) (v := .int 1) (C := "LoggedStoreModel") (T := uM) (N := 18) hx hb hw inM hown hK hP 0 rfl rfl 9 (by decide) (hw _ w621) (fun _ h9 => h9) rfl dM_takeLog_38 ?_
  refine lv_imul hx hb dM_takeLog_41 ?_
  refine lv_topi (nm_r (e' := 4) (by decide +kernel) ?_)
  refine lv_isub hx hb dM_takeLog_42 ?_
  refine lv_topi (nm_r (e' := (-4)) (by decide +kernel) ?_)
  refine lv_istore hx hb dM_takeLog_43 hl (by decide) rfl (fun ls hl => ?_)
  have hl : lv_has ls 7 [(5, .int (-4)), (4, .int 22), (3, .int 0), (2, .int 1), (1, .int 0), (0, .ref m0)] := hl
  refine lv_aload_n hx hb dM_takeLog_45 rfl (lv_at hl 5 rfl) ?_
  refine lv_iload hx hb dM_takeLog_46 (lv_at hl 1 rfl) ?_
  have hPc := hP.sub (ws' := [(m0, .inr (4, [.int 0, .ref md, .int 0, .int (-1), .int 0, .ref mh, .ref mn, .ref mc, .int 0, .int 1, .int 0, .int 0, .ref mo, .ref mb, .ref mk, .ref ml, .ref ms, .ref mw])), (md, .inl (cI, 384, .inl MW0))]) [0, 1] rfl
  refine vp_callSi (W.runV (C := "LoggedStoreModel") (b := m0) (As := [.int 22]) (rest := []) ⟨hx, hb, hml, hown, hw⟩ (c_M_isGood22 l dC dI cI cZ cJ cT m0 md mh mn mc mo mb mk ml ms mw) ⟨callB_of 1 hw (gA0 w769) rfl rfl rfl (hw _ w45) (hw _ w766) (by decide +kernel) ⟨Nat.le_of_ble_eq_true rfl, Nat.le_of_ble_eq_true rfl⟩, (hw _ w768), (hw _ w35)⟩ ⟨kb_S, va_recv (ci := 4) (q0 := 0) hK hP rfl rfl, fun U hU hW => ⟨rfl, by rw [hU]; exact hPc, hKK.moved hW⟩⟩ rfl rfl hl.1 rfl (lv_room (Nat.le_of_ble_eq_true rfl)) dM_takeLog_48 ⟨Nat.le_of_ble_eq_true rfl, Nat.le_of_ble_eq_true rfl⟩) (fun r1 e2 => ?_)
  obtain rfl : r1 = 0 := e2
  refine lv_if_eq (tgt := 68) hx hb dM_takeLog_51 (by decide) (fun _ => ?_) (fun h9 => absurd (by decide) h9)
  refine lv_iconst (v := 0) hx hb dM_takeLog_68 (by decide) ?_
  refine lv_istore_n hx hb dM_takeLog_69 rfl hl (by decide) rfl (fun ls hl => ?_)
  have hl : lv_has ls 7 [(2, .int 0), (5, .int (-4)), (4, .int 22), (3, .int 0), (1, .int 0), (0, .ref m0)] := hl
  refine lv_iload_n hx hb dM_takeLog_70 rfl (lv_at hl 0 rfl) ?_
  refine lv_if_eq (tgt := 86) hx hb dM_takeLog_71 (by decide) (fun _ => ?_) (fun h9 => absurd (by decide) h9)
  refine lv_iload_n hx hb dM_takeLog_86 rfl (lv_at hl 0 rfl) ?_
  refine lv_if_eq (tgt := 201) hx hb dM_takeLog_87 (by decide) (fun _ => ?_) (fun h9 => absurd (by decide) h9)
  refine lv_iinc (k := 3) (v := 1) hx hb dM_takeLog_201 hl rfl (by decide +kernel) (by decide) rfl (fun ls hl => ?_)
  have hl : lv_has ls 7 [(3, .int 1), (2, .int 0), (5, .int (-4)), (4, .int 22), (1, .int 0), (0, .ref m0)] := hl
  refine lv_goto (tgt := 11) hx hb dM_takeLog_204 (by decide) ?_
  refine lv_iload_n hx hb dM_takeLog_11 rfl (lv_at hl 0 rfl) ?_
  refine lv_bipush (v := 74) hx hb dM_takeLog_12 (by decide) ?_
  refine lv_icmp_ge (tgt := 207) hx hb dM_takeLog_14 (by decide) (fun h9 => absurd h9 (by decide)) (fun _ => ?_)
  refine lv_iload_n hx hb dM_takeLog_17 rfl (lv_at hl 1 rfl) ?_
  refine lv_if_eq (tgt := 207) hx hb dM_takeLog_18 (by decide) (fun _ => ?_) (fun h9 => absurd (by decide) h9)
  have hP9 := hP.sub (ws' := [(m0, .inr (4, [.int 0, .ref md, .int 0, .int (-1), .int 0, .ref mh, .ref mn, .ref mc, .int 0, .int 1, .int 0, .int 0, .ref mo, .ref mb, .ref mk, .ref ml, .ref ms, .ref mw])), (md, .inl (cI, 384, .inl MW0))]) [0, 1] rfl
  have hD9 := hD.sub (ws' := [(m0, .inr (4, [.int 0, .ref md, .int 0, .int (-1), .int 0, .ref mh, .ref mn, .ref mc, .int 0, .int 1, .int 0, .int 0, .ref mo, .ref mb, .ref mk, .ref ml, .ref ms, .ref mw])), (md, .inl (cI, 384, .inl MW0))]) [0, 1] (by decide) rfl
  refine W.widen (k := 0) (n := 0) (by decide) (by decide) ?_
  exact W.vret hx hb hr (fun t ht hW => ⟨⟨fun _ => 0, rfl, trivial, by rw [ht]; exact hP9, hD9⟩, hS.F ht⟩) hS.2.2 dM_takeLog_207

set_option maxHeartbeats 4000000 in
set_option maxRecDepth 100000 in
theorem c_M_recover (l : Launch) (dC : Nat → ClassId) (dI : Nat → Nat → Nat) (cI cZ cJ cT : ClassId) (m0 md mh mn mc mo mb mk ml ms mw : Nat) (sz : Nat) : Met l yM_recover (Cond.code yM_recover cM_recover 3 (some .int) :: wsA) ({ frames := 3, cells := 0, slots := 0, locals := 70 }) (va_Pc [.ref m0] (fun U => U.heap.size = sz ∧ va_P (dC, dI) vwC [(m0, .inr (4, [.int 0, .ref md, .int 0, .int (-1), .int 0, .ref mh, .ref mn, .ref mc, .int 0, .int 1, .int 0, .int 0, .ref mo, .ref mb, .ref mk, .ref ml, .ref ms, .ref mw])), (md, .inl (cI, 384, .inl MW0)), (mh, .inl (cZ, 64, .inl (fun _ => 0))), (mn, .inl (cI, 64, .inl (fun _ => 0))), (mc, .inl (cI, 64, .inl (fun _ => 0))), (mo, .inl (cZ, 3, .inl (fun _ => 0)))] U.heap ∧ KK dC dI cI cZ cJ cT U ∧ va_D (fun _ => True) [(m0, .inr (4, [.int 0, .ref md, .int 0, .int (-1), .int 0, .ref mh, .ref mn, .ref mc, .int 0, .int 1, .int 0, .int 0, .ref mo, .ref mb, .ref mk, .ref ml, .ref ms, .ref mw])), (md, .inl (cI, 384, .inl MW0)), (mh, .inl (cZ, 64, .inl (fun _ => 0))), (mn, .inl (cI, 64, .inl (fun _ => 0))), (mc, .inl (cI, 64, .inl (fun _ => 0))), (mo, .inl (cZ, 3, .inl (fun _ => 0)))])) (va_Qi (S := Nat → Nat) (fun r _ => r = 0) (fun u t => va_P (dC, dI) vwC [(m0, .inr (4, [.int 0, .ref md, .int 0, .int (-1), .int 0, .ref mh, .ref mn, .ref mc, .int 0, .int 1, .int 0, .int 0, .ref mo, .ref mb, .ref mk, .ref ml, .ref ms, .ref mw]))] t.heap ∧ va_D (va_A [(m0, .inr (4, [.int 0, .ref md, .int 0, .int (-1), .int 0, .ref mh, .ref mn, .ref mc, .int 0, .int 1, .int 0, .int 0, .ref mo, .ref mb, .ref mk, .ref ml, .ref ms, .ref mw])), (md, .inl (cI, 384, .inl MW0)), (mh, .inl (cZ, 64, .inl (fun _ => 0))), (mn, .inl (cI, 64, .inl (fun _ => 0))), (mc, .inl (cI, 64, .inl (fun _ => 0))), (mo, .inl (cZ, 3, .inl (fun _ => 0)))] sz) [(m0, .inr (4, [.int 0, .ref md, .int 0, .int (-1), .int 0, .ref mh, .ref mn, .ref mc, .int 0, .int 1, .int 0, .int 0, .ref mo, .ref mb, .ref mk, .ref ml, .ref ms, .ref mw]))]) (va_A [(m0, .inr (4, [.int 0, .ref md, .int 0, .int (-1), .int 0, .ref mh, .ref mn, .ref mc, .int 0, .int 1, .int 0, .int 0, .ref mo, .ref mb, .ref mk, .ref ml, .ref ms, .ref mw])), (md, .inl (cI, 384, .inl MW0)), (mh, .inl (cZ, 64, .inl (fun _ => 0))), (mn, .inl (cI, 64, .inl (fun _ => 0))), (mc, .inl (cI, 64, .inl (fun _ => 0))), (mo, .inl (cZ, 3, .inl (fun _ => 0)))] sz)) 0 0 (va_A [(m0, .inr (4, [.int 0, .ref md, .int 0, .int (-1), .int 0, .ref mh, .ref mn, .ref mc, .int 0, .int 1, .int 0, .int 0, .ref mo, .ref mb, .ref mk, .ref ml, .ref ms, .ref mw])), (md, .inl (cI, 384, .inl MW0)), (mh, .inl (cZ, 64, .inl (fun _ => 0))), (mn, .inl (cI, 64, .inl (fun _ => 0))), (mc, .inl (cI, 64, .inl (fun _ => 0))), (mo, .inl (cZ, 3, .inl (fun _ => 0)))] sz) := by
  refine Met.ofW (cc := cM_recover) (maxL := 3) (ret := (some .int)) (by decide) rfl ?_
  intro p e s m args below meth c s₁ B hml hv
  obtain ⟨rfl, hsz, hP, hKK, hD0⟩ := hv
  have hK := hKK.1
  have hx := B.exec
  have hb := B.bytes
  have hr := B.returns
  have hw : ∀ w ∈ wsA, w.before _ s = true := fun w h => atoms_spec (ws := (Cond.code yM_recover cM_recover 3 (some .int) :: wsA)) B.pre w (List.mem_cons_of_mem _ h)
  have hown : s.vm.findClass "LoggedStoreModel" = some m.cls := findClass_of_methodNamed B.named
  have hlocks := B.notSynchronized
  subst hsz
  have hD := hD0.self (sz := s.heap.size)
  generalize hAe : va_A [(m0, .inr (4, [.int 0, .ref md, .int 0, .int (-1), .int 0, .ref mh, .ref mn, .ref mc, .int 0, .int 1, .int 0, .int 0, .ref mo, .ref mb, .ref mk, .ref ml, .ref ms, .ref mw])), (md, .inl (cI, 384, .inl MW0)), (mh, .inl (cZ, 64, .inl (fun _ => 0))), (mn, .inl (cI, 64, .inl (fun _ => 0))), (mc, .inl (cI, 64, .inl (fun _ => 0))), (mo, .inl (cZ, 3, .inl (fun _ => 0)))] s.heap.size = A at hD ⊢
  have hA : ∀ q : Nat, s.heap.size ≤ q → A q := fun q h => by rw [← hAe]; exact Or.inr h
  have hS : va_S A s.heap s.heap [] := va_S.rf
  have hl := lv_entry ([.ref m0]) (n := 3) (Nat.le_of_ble_eq_true rfl)
  rw [lg_entry_eq]
  generalize (lg_sl ([.ref m0]) ++ List.replicate (3 - (lg_sl ([.ref m0])).length) Slot.unset).toArray = ls at hl ⊢
  have hl : lv_has ls 3 [(0, .ref m0)] := hl
  refine lv_aload_n hx hb dM_recover_0 rfl (lv_at hl 0 rfl) ?_
  refine lv_iconst (v := 0) hx hb dM_recover_1 (by decide) ?_
  refine va_put (D := (dC, dI)) (ci := 4) (v := .int 0) (ty := .int) (C := "LoggedStoreModel") (T := uM) (N := 18) hx hb hw inM tyM tyM_ok nmM hown hK hP hD hS 0 rfl rfl 0 (by decide) (hw _ w612) (fun _ h9 => h9) rfl (by decide +kernel) rfl rfl (Nat.le_of_ble_eq_true rfl) dM_recover_2 (fun H locs hP hD hS => ?_)
  have hP : va_P (dC, dI) vwC [(m0, .inr (4, [.int 0, .ref md, .int 0, .int (-1), .int 0, .ref mh, .ref mn, .ref mc, .int 0, .int 1, .int 0, .int 0, .ref mo, .ref mb, .ref mk, .ref ml, .ref ms, .ref mw])), (md, .inl (cI, 384, .inl MW0)), (mh, .inl (cZ, 64, .inl (fun _ => 0))), (mn, .inl (cI, 64, .inl (fun _ => 0))), (mc, .inl (cI, 64, .inl (fun _ => 0))), (mo, .inl (cZ, 3, .inl (fun _ => 0)))] H := hP
  have hD : va_D A [(m0, .inr (4, [.int 0, .ref md, .int 0, .int (-1), .int 0, .ref mh, .ref mn, .ref mc, .int 0, .int 1, .int 0, .int 0, .ref mo, .ref mb, .ref mk, .ref ml, .ref ms, .ref mw])), (md, .inl (cI, 384, .inl MW0)), (mh, .inl (cZ, 64, .inl (fun _ => 0))), (mn, .inl (cI, 64, .inl (fun _ => 0))), (mc, .inl (cI, 64, .inl (fun _ => 0))), (mo, .inl (cZ, 3, .inl (fun _ => 0)))] := hD
  refine lv_aload_n hx hb dM_recover_5 rfl (lv_at hl 0 rfl) ?_
  refine lv_iconst (v := 0) hx hb dM_recover_6 (by decide) ?_
  refine va_put (D := (dC, dI)) (ci := 4) (v := .int 0) (ty := .boolean) (C := "LoggedStoreModel") (T := uM) (N := 18) hx hb hw inM tyM tyM_ok nmM hown hK hP hD hS 0 rfl rfl 2 (by decide) (hw _ w614) (fun _ h9 => h9) rfl (by decide +kernel) rfl rfl (Nat.le_of_ble_eq_true rfl) dM_recover_7 (fun H locs hP hD hS => ?_)
  have hP : va_P (dC, dI) vwC [(m0, .inr (4, [.int 0, .ref md, .int 0, .int (-1), .int 0, .ref mh, .ref mn, .ref mc, .int 0, .int 1, .int 0, .int 0, .ref mo, .ref mb, .ref mk, .ref ml, .ref ms, .ref mw])), (md, .inl (cI, 384, .inl MW0)), (mh, .inl (cZ, 64, .inl (fun _ => 0))), (mn, .inl (cI, 64, .inl (fun _ => 0))), (mc, .inl (cI, 64, .inl (fun _ => 0))), (mo, .inl (cZ, 3, .inl (fun _ => 0)))] H := hP
  have hD : va_D A [(m0, .inr (4, [.int 0, .ref md, .int 0, .int (-1), .int 0, .ref mh, .ref mn, .ref mc, .int 0, .int 1, .int 0, .int 0, .ref mo, .ref mb, .ref mk, .ref ml, .ref ms, .ref mw])), (md, .inl (cI, 384, .inl MW0)), (mh, .inl (cZ, 64, .inl (fun _ => 0))), (mn, .inl (cI, 64, .inl (fun _ => 0))), (mc, .inl (cI, 64, .inl (fun _ => 0))), (mo, .inl (cZ, 3, .inl (fun _ => 0)))] := hD
  refine lv_aload_n hx hb dM_recover_10 rfl (lv_at hl 0 rfl) ?_
  refine lv_iconst (v := (-1)) hx hb dM_recover_11 (by decide) ?_
  refine va_put (D := (dC, dI)) (ci := 4) (v := .int (-1)) (ty := .int) (C := "LoggedStoreModel") (T := uM) (N := 18) hx hb hw inM tyM tyM_ok nmM hown hK hP hD hS 0 rfl rfl 3 (by decide) (hw _ w615) (fun _ h9 => h9) rfl (by decide +kernel) rfl rfl (Nat.le_of_ble_eq_true rfl) dM_recover_12 (fun H locs hP hD hS => ?_)
  have hP : va_P (dC, dI) vwC [(m0, .inr (4, [.int 0, .ref md, .int 0, .int (-1), .int 0, .ref mh, .ref mn, .ref mc, .int 0, .int 1, .int 0, .int 0, .ref mo, .ref mb, .ref mk, .ref ml, .ref ms, .ref mw])), (md, .inl (cI, 384, .inl MW0)), (mh, .inl (cZ, 64, .inl (fun _ => 0))), (mn, .inl (cI, 64, .inl (fun _ => 0))), (mc, .inl (cI, 64, .inl (fun _ => 0))), (mo, .inl (cZ, 3, .inl (fun _ => 0)))] H := hP
  have hD : va_D A [(m0, .inr (4, [.int 0, .ref md, .int 0, .int (-1), .int 0, .ref mh, .ref mn, .ref mc, .int 0, .int 1, .int 0, .int 0, .ref mo, .ref mb, .ref mk, .ref ml, .ref ms, .ref mw])), (md, .inl (cI, 384, .inl MW0)), (mh, .inl (cZ, 64, .inl (fun _ => 0))), (mn, .inl (cI, 64, .inl (fun _ => 0))), (mc, .inl (cI, 64, .inl (fun _ => 0))), (mo, .inl (cZ, 3, .inl (fun _ => 0)))] := hD
  refine lv_iconst (v := 0) hx hb dM_recover_15 (by decide) ?_
  refine lv_istore_n hx hb dM_recover_16 rfl hl (by decide) rfl (fun ls hl => ?_)
  have hl : lv_has ls 3 [(1, .int 0), (0, .ref m0)] := hl
  refine lv_iload_n hx hb dM_recover_17 rfl (lv_at hl 0 rfl) ?_
  refine lv_iconst (v := 3) hx hb dM_recover_18 (by decide) ?_
  refine lv_icmp_ge (tgt := 35) hx hb dM_recover_19 (by decide) (fun h9 => absurd h9 (by decide)) (fun _ => ?_)
  refine lv_aload_n hx hb dM_recover_22 rfl (lv_at hl 1 rfl) ?_
  refine va_get (D := (dC, dI)) (ci := 4) (v := .ref mo) (C := "LoggedStoreModel") (T := uM) (N := 18) hx hb hw inM hown hK hP 0 rfl rfl 12 (by decide) (hw _ w624) (fun _ h9 => h9) rfl dM_recover_23 ?_
  refine lv_iload_n hx hb dM_recover_26 rfl (lv_at hl 0 rfl) ?_
  refine lv_iconst (v := 0) hx hb dM_recover_27 (by decide) ?_
  refine va_zast hx hb hK hP hD hS 5 1 rfl rfl (tv_in (by decide +kernel)) dM_recover_28 (fun H locs hP hD hS => ?_)
  have hP : va_P (dC, dI) vwC [(m0, .inr (4, [.int 0, .ref md, .int 0, .int (-1), .int 0, .ref mh, .ref mn, .ref mc, .int 0, .int 1, .int 0, .int 0, .ref mo, .ref mb, .ref mk, .ref ml, .ref ms, .ref mw])), (md, .inl (cI, 384, .inl MW0)), (mh, .inl (cZ, 64, .inl (fun _ => 0))), (mn, .inl (cI, 64, .inl (fun _ => 0))), (mc, .inl (cI, 64, .inl (fun _ => 0))), (mo, .inl (cZ, 3, .inl (upd (fun _ => 0) (0 : Int32).toNatClampNeg (vp_nar .boolean 0))))] H := hP
  have hD : va_D A [(m0, .inr (4, [.int 0, .ref md, .int 0, .int (-1), .int 0, .ref mh, .ref mn, .ref mc, .int 0, .int 1, .int 0, .int 0, .ref mo, .ref mb, .ref mk, .ref ml, .ref ms, .ref mw])), (md, .inl (cI, 384, .inl MW0)), (mh, .inl (cZ, 64, .inl (fun _ => 0))), (mn, .inl (cI, 64, .inl (fun _ => 0))), (mc, .inl (cI, 64, .inl (fun _ => 0))), (mo, .inl (cZ, 3, .inl (upd (fun _ => 0) (0 : Int32).toNatClampNeg (vp_nar .boolean 0))))] := hD
  refine lv_iinc (k := 0) (v := 1) hx hb dM_recover_29 hl rfl (by decide +kernel) (by decide) rfl (fun ls hl => ?_)
  have hl : lv_has ls 3 [(1, .int 1), (0, .ref m0)] := hl
  refine lv_goto (tgt := 17) hx hb dM_recover_32 (by decide) ?_
  refine lv_iload_n hx hb dM_recover_17 rfl (lv_at hl 0 rfl) ?_
  refine lv_iconst (v := 3) hx hb dM_recover_18 (by decide) ?_
  refine lv_icmp_ge (tgt := 35) hx hb dM_recover_19 (by decide) (fun h9 => absurd h9 (by decide)) (fun _ => ?_)
  refine lv_aload_n hx hb dM_recover_22 rfl (lv_at hl 1 rfl) ?_
  refine va_get (D := (dC, dI)) (ci := 4) (v := .ref mo) (C := "LoggedStoreModel") (T := uM) (N := 18) hx hb hw inM hown hK hP 0 rfl rfl 12 (by decide) (hw _ w624) (fun _ h9 => h9) rfl dM_recover_23 ?_
  refine lv_iload_n hx hb dM_recover_26 rfl (lv_at hl 0 rfl) ?_
  refine lv_iconst (v := 0) hx hb dM_recover_27 (by decide) ?_
  refine va_zast hx hb hK hP hD hS 5 1 rfl rfl (tv_in (by decide +kernel)) dM_recover_28 (fun H locs hP hD hS => ?_)
  have hP : va_P (dC, dI) vwC [(m0, .inr (4, [.int 0, .ref md, .int 0, .int (-1), .int 0, .ref mh, .ref mn, .ref mc, .int 0, .int 1, .int 0, .int 0, .ref mo, .ref mb, .ref mk, .ref ml, .ref ms, .ref mw])), (md, .inl (cI, 384, .inl MW0)), (mh, .inl (cZ, 64, .inl (fun _ => 0))), (mn, .inl (cI, 64, .inl (fun _ => 0))), (mc, .inl (cI, 64, .inl (fun _ => 0))), (mo, .inl (cZ, 3, .inl (upd (upd (fun _ => 0) (0 : Int32).toNatClampNeg (vp_nar .boolean 0)) (1 : Int32).toNatClampNeg (vp_nar .boolean 0))))] H := hP
  have hD : va_D A [(m0, .inr (4, [.int 0, .ref md, .int 0, .int (-1), .int 0, .ref mh, .ref mn, .ref mc, .int 0, .int 1, .int 0, .int 0, .ref mo, .ref mb, .ref mk, .ref ml, .ref ms, .ref mw])), (md, .inl (cI, 384, .inl MW0)), (mh, .inl (cZ, 64, .inl (fun _ => 0))), (mn, .inl (cI, 64, .inl (fun _ => 0))), (mc, .inl (cI, 64, .inl (fun _ => 0))), (mo, .inl (cZ, 3, .inl (upd (upd (fun _ => 0) (0 : Int32).toNatClampNeg (vp_nar .boolean 0)) (1 : Int32).toNatClampNeg (vp_nar .boolean 0))))] := hD
  refine lv_iinc (k := 0) (v := 2) hx hb dM_recover_29 hl rfl (by decide +kernel) (by decide) rfl (fun ls hl => ?_)
  have hl : lv_has ls 3 [(1, .int 2), (0, .ref m0)] := hl
  refine lv_goto (tgt := 17) hx hb dM_recover_32 (by decide) ?_
  refine lv_iload_n hx hb dM_recover_17 rfl (lv_at hl 0 rfl) ?_
  refine lv_iconst (v := 3) hx hb dM_recover_18 (by decide) ?_
  refine lv_icmp_ge (tgt := 35) hx hb dM_recover_19 (by decide) (fun h9 => absurd h9 (by decide)) (fun _ => ?_)
  refine lv_aload_n hx hb dM_recover_22 rfl (lv_at hl 1 rfl) ?_
  refine va_get (D := (dC, dI)) (ci := 4) (v := .ref mo) (C := "LoggedStoreModel") (T := uM) (N := 18) hx hb hw inM hown hK hP 0 rfl rfl 12 (by decide) (hw _ w624) (fun _ h9 => h9) rfl dM_recover_23 ?_
  refine lv_iload_n hx hb dM_recover_26 rfl (lv_at hl 0 rfl) ?_
  refine lv_iconst (v := 0) hx hb dM_recover_27 (by decide) ?_
  refine va_zast hx hb hK hP hD hS 5 1 rfl rfl (tv_in (by decide +kernel)) dM_recover_28 (fun H locs hP hD hS => ?_)
  have hP : va_P (dC, dI) vwC [(m0, .inr (4, [.int 0, .ref md, .int 0, .int (-1), .int 0, .ref mh, .ref mn, .ref mc, .int 0, .int 1, .int 0, .int 0, .ref mo, .ref mb, .ref mk, .ref ml, .ref ms, .ref mw])), (md, .inl (cI, 384, .inl MW0)), (mh, .inl (cZ, 64, .inl (fun _ => 0))), (mn, .inl (cI, 64, .inl (fun _ => 0))), (mc, .inl (cI, 64, .inl (fun _ => 0))), (mo, .inl (cZ, 3, .inl (upd (upd (upd (fun _ => 0) (0 : Int32).toNatClampNeg (vp_nar .boolean 0)) (1 : Int32).toNatClampNeg (vp_nar .boolean 0)) (2 : Int32).toNatClampNeg (vp_nar .boolean 0))))] H := hP
  have hD : va_D A [(m0, .inr (4, [.int 0, .ref md, .int 0, .int (-1), .int 0, .ref mh, .ref mn, .ref mc, .int 0, .int 1, .int 0, .int 0, .ref mo, .ref mb, .ref mk, .ref ml, .ref ms, .ref mw])), (md, .inl (cI, 384, .inl MW0)), (mh, .inl (cZ, 64, .inl (fun _ => 0))), (mn, .inl (cI, 64, .inl (fun _ => 0))), (mc, .inl (cI, 64, .inl (fun _ => 0))), (mo, .inl (cZ, 3, .inl (upd (upd (upd (fun _ => 0) (0 : Int32).toNatClampNeg (vp_nar .boolean 0)) (1 : Int32).toNatClampNeg (vp_nar .boolean 0)) (2 : Int32).toNatClampNeg (vp_nar .boolean 0))))] := hD
  refine lv_iinc (k := 0) (v := 3) hx hb dM_recover_29 hl rfl (by decide +kernel) (by decide) rfl (fun ls hl => ?_)
  have hl : lv_has ls 3 [(1, .int 3), (0, .ref m0)] := hl
  refine lv_goto (tgt := 17) hx hb dM_recover_32 (by decide) ?_
  refine lv_iload_n hx hb dM_recover_17 rfl (lv_at hl 0 rfl) ?_
  refine lv_iconst (v := 3) hx hb dM_recover_18 (by decide) ?_
  refine lv_icmp_ge (tgt := 35) hx hb dM_recover_19 (by decide) (fun _ => ?_) (fun h9 => absurd (by decide) h9)
  refine lv_aload_n hx hb dM_recover_35 rfl (lv_at hl 1 rfl) ?_
  refine lv_iconst (v := 0) hx hb dM_recover_36 (by decide) ?_
  have hPc := hP.sub (ws' := [(m0, .inr (4, [.int 0, .ref md, .int 0, .int (-1), .int 0, .ref mh, .ref mn, .ref mc, .int 0, .int 1, .int 0, .int 0, .ref mo, .ref mb, .ref mk, .ref ml, .ref ms, .ref mw])), (md, .inl (cI, 384, .inl MW0))]) [0, 1] rfl
  refine vp_callSi (W.runV (C := "LoggedStoreModel") (b := m0) (As := [.int 0]) (rest := []) ⟨hx, hb, hml, hown, hw⟩ (c_M_counts0 l dC dI cI cZ cJ cT m0 md mh mn mc mo mb mk ml ms mw) ⟨callB_of 1 hw (gA0 w765) rfl rfl rfl (hw _ w45) (hw _ w762) (by decide +kernel) ⟨Nat.le_of_ble_eq_true rfl, Nat.le_of_ble_eq_true rfl⟩, (hw _ w764), (hw _ w34)⟩ ⟨kb_S, va_recv (ci := 4) (q0 := 0) hK hP rfl rfl, fun U hU hW => ⟨rfl, by rw [hU]; exact hPc, hKK.moved hW⟩⟩ rfl rfl hl.1 rfl (lv_room (Nat.le_of_ble_eq_true rfl)) dM_recover_37 ⟨Nat.le_of_ble_eq_true rfl, Nat.le_of_ble_eq_true rfl⟩) (fun r1 e2 => ?_)
  obtain rfl : r1 = 1 := e2
  refine lv_istore_n hx hb dM_recover_40 rfl hl (by decide) rfl (fun ls hl => ?_)
  have hl : lv_has ls 3 [(1, .int 1), (0, .ref m0)] := hl
  refine lv_aload_n hx hb dM_recover_41 rfl (lv_at hl 1 rfl) ?_
  refine lv_iconst (v := 1) hx hb dM_recover_42 (by decide) ?_
  have hPc := hP.sub (ws' := [(m0, .inr (4, [.int 0, .ref md, .int 0, .int (-1), .int 0, .ref mh, .ref mn, .ref mc, .int 0, .int 1, .int 0, .int 0, .ref mo, .ref mb, .ref mk, .ref ml, .ref ms, .ref mw])), (md, .inl (cI, 384, .inl MW0))]) [0, 1] rfl
  refine vp_callSi (W.runV (C := "LoggedStoreModel") (b := m0) (As := [.int 1]) (rest := []) ⟨hx, hb, hml, hown, hw⟩ (c_M_counts1 l dC dI cI cZ cJ cT m0 md mh mn mc mo mb mk ml ms mw) ⟨callB_of 1 hw (gA0 w765) rfl rfl rfl (hw _ w45) (hw _ w762) (by decide +kernel) ⟨Nat.le_of_ble_eq_true rfl, Nat.le_of_ble_eq_true rfl⟩, (hw _ w764), (hw _ w34)⟩ ⟨kb_S, va_recv (ci := 4) (q0 := 0) hK hP rfl rfl, fun U hU hW => ⟨rfl, by rw [hU]; exact hPc, hKK.moved hW⟩⟩ rfl rfl hl.1 rfl (lv_room (Nat.le_of_ble_eq_true rfl)) dM_recover_43 ⟨Nat.le_of_ble_eq_true rfl, Nat.le_of_ble_eq_true rfl⟩) (fun r3 e4 => ?_)
  obtain rfl : r3 = 0 := e4
  refine lv_istore_n hx hb dM_recover_46 rfl hl (by decide) rfl (fun ls hl => ?_)
  have hl : lv_has ls 3 [(2, .int 0), (1, .int 1), (0, .ref m0)] := hl
  refine lv_aload_n hx hb dM_recover_47 rfl (lv_at hl 2 rfl) ?_
  refine lv_iload_n hx hb dM_recover_48 rfl (lv_at hl 0 rfl) ?_
  refine lv_if_eq (tgt := 75) hx hb dM_recover_49 (by decide) (fun _ => ?_) (fun h9 => absurd (by decide) h9)
  refine lv_iconst (v := 0) hx hb dM_recover_75 (by decide) ?_
  have hPc := hP.sub (ws' := [(m0, .inr (4, [.int 0, .ref md, .int 0, .int (-1), .int 0, .ref mh, .ref mn, .ref mc, .int 0, .int 1, .int 0, .int 0, .ref mo, .ref mb, .ref mk, .ref ml, .ref ms, .ref mw])), (md, .inl (cI, 384, .inl MW0)), (mh, .inl (cZ, 64, .inl (fun _ => 0))), (mn, .inl (cI, 64, .inl (fun _ => 0))), (mc, .inl (cI, 64, .inl (fun _ => 0)))]) [0, 1, 2, 3, 4] rfl
  have hDc := hD.sub (ws' := [(m0, .inr (4, [.int 0, .ref md, .int 0, .int (-1), .int 0, .ref mh, .ref mn, .ref mc, .int 0, .int 1, .int 0, .int 0, .ref mo, .ref mb, .ref mk, .ref ml, .ref ms, .ref mw])), (md, .inl (cI, 384, .inl MW0)), (mh, .inl (cZ, 64, .inl (fun _ => 0))), (mn, .inl (cI, 64, .inl (fun _ => 0))), (mc, .inl (cI, 64, .inl (fun _ => 0)))]) [0, 1, 2, 3, 4] (by decide) rfl
  have hFc := va_free (wc := [(m0, .inr (4, [.int 0, .ref md, .int 0, .int (-1), .int 0, .ref mh, .ref mn, .ref mc, .int 0, .int 1, .int 0, .int 0, .ref mo, .ref mb, .ref mk, .ref ml, .ref ms, .ref mw])), (md, .inl (cI, 384, .inl MW0)), (mh, .inl (cZ, 64, .inl (fun _ => 0))), (mn, .inl (cI, 64, .inl (fun _ => 0))), (mc, .inl (cI, 64, .inl (fun _ => 0)))]) hD hS hA [0, 1, 2, 3, 4] rfl
  refine va_callv (va_runV (C := "LoggedStoreModel") (b := m0) (As := [.int 0]) (rest := []) ⟨hx, hb, hml, hown, hw⟩ (c_M_takeArea l dC dI cI cZ cJ cT m0 md mh mn mc mo mb mk ml ms mw H.size) ⟨callB_of 1 hw (gA0 w773) rfl rfl rfl (hw _ w45) (hw _ w770) (by decide +kernel) ⟨Nat.le_of_ble_eq_true rfl, Nat.le_of_ble_eq_true rfl⟩, (hw _ w772), (hw _ w36)⟩ ⟨kb_Q, va_recv (ci := 4) (q0 := 0) hK hP rfl rfl, fun U hU hW => ⟨rfl, by rw [hU], by rw [hU]; exact hPc, hKK.moved hW, hDc.weaken (fun _ _ _ _ => trivial)⟩⟩ rfl rfl hl.1 rfl (lv_room (Nat.le_of_ble_eq_true rfl)) dM_recover_76 ⟨Nat.le_of_ble_eq_true rfl, Nat.le_of_ble_eq_true rfl⟩) hS (fun q _ h => hFc q h) hFc (fun u6 t H1 locs ht hvm he9 hB hz1 hk1 hS => ?_)
  obtain ⟨hP1, hD1⟩ := hB
  rw [ht] at hP1
  obtain ⟨hP, hD⟩ := va_join (wr := [(mo, .inl (cZ, 3, .inl (upd (upd (upd (fun _ => 0) (0 : Int32).toNatClampNeg (vp_nar .boolean 0)) (1 : Int32).toNatClampNeg (vp_nar .boolean 0)) (2 : Int32).toNatClampNeg (vp_nar .boolean 0))))]) (w1 := [(m0, .inr (4, [.int 0, .ref md, .int 0, .int (-1), .int 0, .ref mh, .ref mn, .ref mc, .int 0, .int 1, .int 0, .int 0, .ref mo, .ref mb, .ref mk, .ref ml, .ref ms, .ref mw])), (md, .inl (cI, 384, .inl MW0))]) hP hD [0, 1, 2, 3, 4] [5] rfl rfl (by decide) (by decide) hk1 hFc hP1 hD1
  generalize H1 = H at hP hS ⊢
  have hP : va_P (dC, dI) vwC [(mo, .inl (cZ, 3, .inl (upd (upd (upd (fun _ => 0) (0 : Int32).toNatClampNeg (vp_nar .boolean 0)) (1 : Int32).toNatClampNeg (vp_nar .boolean 0)) (2 : Int32).toNatClampNeg (vp_nar .boolean 0)))), (m0, .inr (4, [.int 0, .ref md, .int 0, .int (-1), .int 0, .ref mh, .ref mn, .ref mc, .int 0, .int 1, .int 0, .int 0, .ref mo, .ref mb, .ref mk, .ref ml, .ref ms, .ref mw])), (md, .inl (cI, 384, .inl MW0))] H := hP
  have hD : va_D A [(mo, .inl (cZ, 3, .inl (upd (upd (upd (fun _ => 0) (0 : Int32).toNatClampNeg (vp_nar .boolean 0)) (1 : Int32).toNatClampNeg (vp_nar .boolean 0)) (2 : Int32).toNatClampNeg (vp_nar .boolean 0)))), (m0, .inr (4, [.int 0, .ref md, .int 0, .int (-1), .int 0, .ref mh, .ref mn, .ref mc, .int 0, .int 1, .int 0, .int 0, .ref mo, .ref mb, .ref mk, .ref ml, .ref ms, .ref mw])), (md, .inl (cI, 384, .inl MW0))] := hD
  refine lv_aload_n hx hb dM_recover_79 rfl (lv_at hl 2 rfl) ?_
  have hPc := hP.sub (ws' := [(m0, .inr (4, [.int 0, .ref md, .int 0, .int (-1), .int 0, .ref mh, .ref mn, .ref mc, .int 0, .int 1, .int 0, .int 0, .ref mo, .ref mb, .ref mk, .ref ml, .ref ms, .ref mw])), (md, .inl (cI, 384, .inl MW0))]) [1, 2] rfl
  have hDc := hD.sub (ws' := [(m0, .inr (4, [.int 0, .ref md, .int 0, .int (-1), .int 0, .ref mh, .ref mn, .ref mc, .int 0, .int 1, .int 0, .int 0, .ref mo, .ref mb, .ref mk, .ref ml, .ref ms, .ref mw])), (md, .inl (cI, 384, .inl MW0))]) [1, 2] (by decide) rfl
  have hFc := va_free (wc := [(m0, .inr (4, [.int 0, .ref md, .int 0, .int (-1), .int 0, .ref mh, .ref mn, .ref mc, .int 0, .int 1, .int 0, .int 0, .ref mo, .ref mb, .ref mk, .ref ml, .ref ms, .ref mw])), (md, .inl (cI, 384, .inl MW0))]) hD hS hA [1, 2] rfl
  refine va_callv (va_runV (C := "LoggedStoreModel") (b := m0) (As := []) (rest := []) ⟨hx, hb, hml, hown, hw⟩ (c_M_takeLog l dC dI cI cZ cJ cT m0 md mh mn mc mo mb mk ml ms mw H.size) ⟨callB_of 0 hw (gA0 w777) rfl rfl rfl (hw _ w45) (hw _ w774) (by decide +kernel) ⟨Nat.le_of_ble_eq_true rfl, Nat.le_of_ble_eq_true rfl⟩, (hw _ w776), (hw _ w37)⟩ ⟨kb_Q, va_recv (ci := 4) (q0 := 1) hK hP rfl rfl, fun U hU hW => ⟨rfl, by rw [hU], by rw [hU]; exact hPc, hKK.moved hW, hDc.weaken (fun _ _ _ _ => trivial)⟩⟩ rfl rfl hl.1 rfl (lv_room (Nat.le_of_ble_eq_true rfl)) dM_recover_80 ⟨Nat.le_of_ble_eq_true rfl, Nat.le_of_ble_eq_true rfl⟩) hS (fun q _ h => hFc q h) hFc (fun u8 t H1 locs ht hvm he9 hB hz1 hk1 hS => ?_)
  obtain ⟨hP1, hD1⟩ := hB
  rw [ht] at hP1
  obtain ⟨hP, hD⟩ := va_join (wr := [(mo, .inl (cZ, 3, .inl (upd (upd (upd (fun _ => 0) (0 : Int32).toNatClampNeg (vp_nar .boolean 0)) (1 : Int32).toNatClampNeg (vp_nar .boolean 0)) (2 : Int32).toNatClampNeg (vp_nar .boolean 0))))]) (w1 := [(m0, .inr (4, [.int 0, .ref md, .int 0, .int (-1), .int 0, .ref mh, .ref mn, .ref mc, .int 0, .int 1, .int 0, .int 0, .ref mo, .ref mb, .ref mk, .ref ml, .ref ms, .ref mw])), (md, .inl (cI, 384, .inl MW0))]) hP hD [1, 2] [0] rfl rfl (by decide) (by decide) hk1 hFc hP1 hD1
  generalize H1 = H at hP hS ⊢
  have hP : va_P (dC, dI) vwC [(mo, .inl (cZ, 3, .inl (upd (upd (upd (fun _ => 0) (0 : Int32).toNatClampNeg (vp_nar .boolean 0)) (1 : Int32).toNatClampNeg (vp_nar .boolean 0)) (2 : Int32).toNatClampNeg (vp_nar .boolean 0)))), (m0, .inr (4, [.int 0, .ref md, .int 0, .int (-1), .int 0, .ref mh, .ref mn, .ref mc, .int 0, .int 1, .int 0, .int 0, .ref mo, .ref mb, .ref mk, .ref ml, .ref ms, .ref mw])), (md, .inl (cI, 384, .inl MW0))] H := hP
  have hD : va_D A [(mo, .inl (cZ, 3, .inl (upd (upd (upd (fun _ => 0) (0 : Int32).toNatClampNeg (vp_nar .boolean 0)) (1 : Int32).toNatClampNeg (vp_nar .boolean 0)) (2 : Int32).toNatClampNeg (vp_nar .boolean 0)))), (m0, .inr (4, [.int 0, .ref md, .int 0, .int (-1), .int 0, .ref mh, .ref mn, .ref mc, .int 0, .int 1, .int 0, .int 0, .ref mo, .ref mb, .ref mk, .ref ml, .ref ms, .ref mw])), (md, .inl (cI, 384, .inl MW0))] := hD
  refine lv_aload_n hx hb dM_recover_83 rfl (lv_at hl 2 rfl) ?_
  refine va_get (D := (dC, dI)) (ci := 4) (v := .int 0) (C := "LoggedStoreModel") (T := uM) (N := 18) hx hb hw inM hown hK hP 1 rfl rfl 8 (by decide) (hw _ w620) (fun _ h9 => h9) rfl dM_recover_84 ?_
  have hP9 := hP.sub (ws' := [(m0, .inr (4, [.int 0, .ref md, .int 0, .int (-1), .int 0, .ref mh, .ref mn, .ref mc, .int 0, .int 1, .int 0, .int 0, .ref mo, .ref mb, .ref mk, .ref ml, .ref ms, .ref mw]))]) [1] rfl
  have hD9 := hD.sub (ws' := [(m0, .inr (4, [.int 0, .ref md, .int 0, .int (-1), .int 0, .ref mh, .ref mn, .ref mc, .int 0, .int 1, .int 0, .int 0, .ref mo, .ref mb, .ref mk, .ref ml, .ref ms, .ref mw]))]) [1] (by decide) rfl
  refine W.widen (k := 0) (n := 0) (by decide) (by decide) ?_
  exact W.iret (v := 0) hx hb hr (fun t ht hW => ⟨⟨0, fun _ => 0, rfl, rfl, by rw [ht]; exact hP9, hD9⟩, hS.F ht⟩) hS.2.2 dM_recover_87

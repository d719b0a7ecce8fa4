set_option maxRecDepth 100000 in
theorem w39 : (Cond.initialized "LoggedStoreLaw") ∈ wsA := List.mem_filter.mpr ⟨List.mem_of_getElem? (i := 39) rfl, rfl⟩
set_option maxRecDepth 100000 in
theorem w179 : (Cond.methodLink "LoggedStoreLaw" 110 yS_arm) ∈ wsA := List.mem_filter.mpr ⟨List.mem_of_getElem? (i := 179) rfl, rfl⟩
set_option maxRecDepth 100000 in
theorem w180 : (Cond.instanceMethod yS_arm) ∈ wsA := List.mem_filter.mpr ⟨List.mem_of_getElem? (i := 180) rfl, rfl⟩
set_option maxRecDepth 100000 in
theorem w181 : (Cond.selects "LoggedStore" yS_arm yS_arm) ∈ wsA := List.mem_filter.mpr ⟨List.mem_of_getElem? (i := 181) rfl, rfl⟩
set_option maxRecDepth 100000 in
theorem w193 : (Cond.methodLink "LoggedStoreLaw" 114 yS_isDown) ∈ wsA := List.mem_filter.mpr ⟨List.mem_of_getElem? (i := 193) rfl, rfl⟩
set_option maxRecDepth 100000 in
theorem w194 : (Cond.instanceMethod yS_isDown) ∈ wsA := List.mem_filter.mpr ⟨List.mem_of_getElem? (i := 194) rfl, rfl⟩
set_option maxRecDepth 100000 in
theorem w195 : (Cond.selects "LoggedStore" yS_isDown yS_isDown) ∈ wsA := List.mem_filter.mpr ⟨List.mem_of_getElem? (i := 195) rfl, rfl⟩
set_option maxRecDepth 100000 in
theorem w197 : (Cond.methodLink "LoggedStoreLaw" 119 yS_recover) ∈ wsA := List.mem_filter.mpr ⟨List.mem_of_getElem? (i := 197) rfl, rfl⟩
set_option maxRecDepth 100000 in
theorem w198 : (Cond.instanceMethod yS_recover) ∈ wsA := List.mem_filter.mpr ⟨List.mem_of_getElem? (i := 198) rfl, rfl⟩
set_option maxRecDepth 100000 in
theorem w199 : (Cond.selects "LoggedStore" yS_recover yS_recover) ∈ wsA := List.mem_filter.mpr ⟨List.mem_of_getElem? (i := 199) rfl, rfl⟩
set_option maxRecDepth 100000 in
theorem w275 : (Cond.methodLink "LoggedStoreLaw" 123 yS_word) ∈ wsA := List.mem_filter.mpr ⟨List.mem_of_getElem? (i := 275) rfl, rfl⟩
set_option maxRecDepth 100000 in
theorem w276 : (Cond.instanceMethod yS_word) ∈ wsA := List.mem_filter.mpr ⟨List.mem_of_getElem? (i := 276) rfl, rfl⟩
set_option maxRecDepth 100000 in
theorem w277 : (Cond.selects "LoggedStore" yS_word yS_word) ∈ wsA := List.mem_filter.mpr ⟨List.mem_of_getElem? (i := 277) rfl, rfl⟩
set_option maxRecDepth 100000 in
theorem w279 : (Cond.methodLink "LoggedStoreLaw" 64 yL_begin) ∈ wsA := List.mem_filter.mpr ⟨List.mem_of_getElem? (i := 279) rfl, rfl⟩
set_option maxRecDepth 100000 in
theorem w280 : (Cond.static yL_begin) ∈ wsA := List.mem_filter.mpr ⟨List.mem_of_getElem? (i := 280) rfl, rfl⟩
set_option maxRecDepth 100000 in
theorem w406 : (Cond.methodLink "LoggedStoreLaw" 73 yL_get) ∈ wsA := List.mem_filter.mpr ⟨List.mem_of_getElem? (i := 406) rfl, rfl⟩
set_option maxRecDepth 100000 in
theorem w407 : (Cond.static yL_get) ∈ wsA := List.mem_filter.mpr ⟨List.mem_of_getElem? (i := 407) rfl, rfl⟩
set_option maxRecDepth 100000 in
theorem w447 : (Cond.methodLink "LoggedStoreLaw" 77 yL_put) ∈ wsA := List.mem_filter.mpr ⟨List.mem_of_getElem? (i := 447) rfl, rfl⟩
set_option maxRecDepth 100000 in
theorem w448 : (Cond.static yL_put) ∈ wsA := List.mem_filter.mpr ⟨List.mem_of_getElem? (i := 448) rfl, rfl⟩
set_option maxRecDepth 100000 in
theorem w463 : (Cond.methodLink "LoggedStoreLaw" 81 yL_remove) ∈ wsA := List.mem_filter.mpr ⟨List.mem_of_getElem? (i := 463) rfl, rfl⟩
set_option maxRecDepth 100000 in
theorem w464 : (Cond.static yL_remove) ∈ wsA := List.mem_filter.mpr ⟨List.mem_of_getElem? (i := 464) rfl, rfl⟩
set_option maxRecDepth 100000 in
theorem w475 : (Cond.methodLink "LoggedStoreLaw" 85 yL_next) ∈ wsA := List.mem_filter.mpr ⟨List.mem_of_getElem? (i := 475) rfl, rfl⟩
set_option maxRecDepth 100000 in
theorem w476 : (Cond.static yL_next) ∈ wsA := List.mem_filter.mpr ⟨List.mem_of_getElem? (i := 476) rfl, rfl⟩
set_option maxRecDepth 100000 in
theorem w486 : (Cond.methodLink "LoggedStoreLaw" 88 yL_drop) ∈ wsA := List.mem_filter.mpr ⟨List.mem_of_getElem? (i := 486) rfl, rfl⟩
set_option maxRecDepth 100000 in
theorem w487 : (Cond.static yL_drop) ∈ wsA := List.mem_filter.mpr ⟨List.mem_of_getElem? (i := 487) rfl, rfl⟩
set_option maxRecDepth 100000 in
theorem w493 : (Cond.methodLink "LoggedStoreLaw" 91 yL_commit) ∈ wsA := List.mem_filter.mpr ⟨List.mem_of_getElem? (i := 493) rfl, rfl⟩
set_option maxRecDepth 100000 in
theorem w494 : (Cond.static yL_commit) ∈ wsA := List.mem_filter.mpr ⟨List.mem_of_getElem? (i := 494) rfl, rfl⟩
set_option maxRecDepth 100000 in
theorem w560 : (Cond.methodLink "LoggedStoreLaw" 94 yL_checkpoint) ∈ wsA := List.mem_filter.mpr ⟨List.mem_of_getElem? (i := 560) rfl, rfl⟩
set_option maxRecDepth 100000 in
theorem w561 : (Cond.static yL_checkpoint) ∈ wsA := List.mem_filter.mpr ⟨List.mem_of_getElem? (i := 561) rfl, rfl⟩
set_option maxRecDepth 100000 in
theorem w572 : (Cond.methodLink "LoggedStoreLaw" 98 yL_number) ∈ wsA := List.mem_filter.mpr ⟨List.mem_of_getElem? (i := 572) rfl, rfl⟩
set_option maxRecDepth 100000 in
theorem w573 : (Cond.static yL_number) ∈ wsA := List.mem_filter.mpr ⟨List.mem_of_getElem? (i := 573) rfl, rfl⟩
set_option maxRecDepth 100000 in
theorem w579 : (Cond.methodLink "LoggedStoreLaw" 101 yL_count) ∈ wsA := List.mem_filter.mpr ⟨List.mem_of_getElem? (i := 579) rfl, rfl⟩
set_option maxRecDepth 100000 in
theorem w580 : (Cond.static yL_count) ∈ wsA := List.mem_filter.mpr ⟨List.mem_of_getElem? (i := 580) rfl, rfl⟩
set_option maxRecDepth 100000 in
theorem w586 : (Cond.methodLink "LoggedStoreLaw" 104 yL_version) ∈ wsA := List.mem_filter.mpr ⟨List.mem_of_getElem? (i := 586) rfl, rfl⟩
set_option maxRecDepth 100000 in
theorem w587 : (Cond.static yL_version) ∈ wsA := List.mem_filter.mpr ⟨List.mem_of_getElem? (i := 587) rfl, rfl⟩
set_option maxRecDepth 100000 in
theorem w593 : (Cond.methodLink "LoggedStoreLaw" 107 yL_left) ∈ wsA := List.mem_filter.mpr ⟨List.mem_of_getElem? (i := 593) rfl, rfl⟩
set_option maxRecDepth 100000 in
theorem w594 : (Cond.static yL_left) ∈ wsA := List.mem_filter.mpr ⟨List.mem_of_getElem? (i := 594) rfl, rfl⟩
set_option maxRecDepth 100000 in
theorem w667 : (Cond.methodLink "LoggedStoreLaw" 70 yM_thrown) ∈ wsA := List.mem_filter.mpr ⟨List.mem_of_getElem? (i := 667) rfl, rfl⟩
set_option maxRecDepth 100000 in
theorem w668 : (Cond.instanceMethod yM_thrown) ∈ wsA := List.mem_filter.mpr ⟨List.mem_of_getElem? (i := 668) rfl, rfl⟩
set_option maxRecDepth 100000 in
theorem w669 : (Cond.selects "LoggedStoreModel" yM_thrown yM_thrown) ∈ wsA := List.mem_filter.mpr ⟨List.mem_of_getElem? (i := 669) rfl, rfl⟩
set_option maxRecDepth 100000 in
theorem w671 : (Cond.methodLink "LoggedStoreLaw" 69 yM_begin) ∈ wsA := List.mem_filter.mpr ⟨List.mem_of_getElem? (i := 671) rfl, rfl⟩
set_option maxRecDepth 100000 in
theorem w672 : (Cond.instanceMethod yM_begin) ∈ wsA := List.mem_filter.mpr ⟨List.mem_of_getElem? (i := 672) rfl, rfl⟩
set_option maxRecDepth 100000 in
theorem w673 : (Cond.selects "LoggedStoreModel" yM_begin yM_begin) ∈ wsA := List.mem_filter.mpr ⟨List.mem_of_getElem? (i := 673) rfl, rfl⟩
set_option maxRecDepth 100000 in
theorem w678 : (Cond.methodLink "LoggedStoreLaw" 76 yM_get) ∈ wsA := List.mem_filter.mpr ⟨List.mem_of_getElem? (i := 678) rfl, rfl⟩
set_option maxRecDepth 100000 in
theorem w679 : (Cond.instanceMethod yM_get) ∈ wsA := List.mem_filter.mpr ⟨List.mem_of_getElem? (i := 679) rfl, rfl⟩
set_option maxRecDepth 100000 in
theorem w680 : (Cond.selects "LoggedStoreModel" yM_get yM_get) ∈ wsA := List.mem_filter.mpr ⟨List.mem_of_getElem? (i := 680) rfl, rfl⟩
set_option maxRecDepth 100000 in
theorem w694 : (Cond.methodLink "LoggedStoreLaw" 80 yM_put) ∈ wsA := List.mem_filter.mpr ⟨List.mem_of_getElem? (i := 694) rfl, rfl⟩
set_option maxRecDepth 100000 in
theorem w695 : (Cond.instanceMethod yM_put) ∈ wsA := List.mem_filter.mpr ⟨List.mem_of_getElem? (i := 695) rfl, rfl⟩
set_option maxRecDepth 100000 in
theorem w696 : (Cond.selects "LoggedStoreModel" yM_put yM_put) ∈ wsA := List.mem_filter.mpr ⟨List.mem_of_getElem? (i := 696) rfl, rfl⟩
set_option maxRecDepth 100000 in
theorem w698 : (Cond.methodLink "LoggedStoreLaw" 84 yM_remove) ∈ wsA := List.mem_filter.mpr ⟨List.mem_of_getElem? (i := 698) rfl, rfl⟩
set_option maxRecDepth 100000 in
theorem w699 : (Cond.instanceMethod yM_remove) ∈ wsA := List.mem_filter.mpr ⟨List.mem_of_getElem? (i := 699) rfl, rfl⟩
set_option maxRecDepth 100000 in
theorem w700 : (Cond.selects "LoggedStoreModel" yM_remove yM_remove) ∈ wsA := List.mem_filter.mpr ⟨List.mem_of_getElem? (i := 700) rfl, rfl⟩
set_option maxRecDepth 100000 in
theorem w702 : (Cond.methodLink "LoggedStoreLaw" 87 yM_next) ∈ wsA := List.mem_filter.mpr ⟨List.mem_of_getElem? (i := 702) rfl, rfl⟩
set_option maxRecDepth 100000 in
theorem w703 : (Cond.instanceMethod yM_next) ∈ wsA := List.mem_filter.mpr ⟨List.mem_of_getElem? (i := 703) rfl, rfl⟩
set_option maxRecDepth 100000 in
theorem w704 : (Cond.selects "LoggedStoreModel" yM_next yM_next) ∈ wsA := List.mem_filter.mpr ⟨List.mem_of_getElem? (i := 704) rfl, rfl⟩
set_option maxRecDepth 100000 in
theorem w706 : (Cond.methodLink "LoggedStoreLaw" 90 yM_drop) ∈ wsA := List.mem_filter.mpr ⟨List.mem_of_getElem? (i := 706) rfl, rfl⟩
set_option maxRecDepth 100000 in
theorem w707 : (Cond.instanceMethod yM_drop) ∈ wsA := List.mem_filter.mpr ⟨List.mem_of_getElem? (i := 707) rfl, rfl⟩
set_option maxRecDepth 100000 in
theorem w708 : (Cond.selects "LoggedStoreModel" yM_drop yM_drop) ∈ wsA := List.mem_filter.mpr ⟨List.mem_of_getElem? (i := 708) rfl, rfl⟩
set_option maxRecDepth 100000 in
theorem w714 : (Cond.methodLink "LoggedStoreLaw" 93 yM_commit) ∈ wsA := List.mem_filter.mpr ⟨List.mem_of_getElem? (i := 714) rfl, rfl⟩
set_option maxRecDepth 100000 in
theorem w715 : (Cond.instanceMethod yM_commit) ∈ wsA := List.mem_filter.mpr ⟨List.mem_of_getElem? (i := 715) rfl, rfl⟩
set_option maxRecDepth 100000 in
theorem w716 : (Cond.selects "LoggedStoreModel" yM_commit yM_commit) ∈ wsA := List.mem_filter.mpr ⟨List.mem_of_getElem? (i := 716) rfl, rfl⟩
set_option maxRecDepth 100000 in
theorem w746 : (Cond.methodLink "LoggedStoreLaw" 97 yM_checkpoint) ∈ wsA := List.mem_filter.mpr ⟨List.mem_of_getElem? (i := 746) rfl, rfl⟩
set_option maxRecDepth 100000 in
theorem w747 : (Cond.instanceMethod yM_checkpoint) ∈ wsA := List.mem_filter.mpr ⟨List.mem_of_getElem? (i := 747) rfl, rfl⟩
set_option maxRecDepth 100000 in
theorem w748 : (Cond.selects "LoggedStoreModel" yM_checkpoint yM_checkpoint) ∈ wsA := List.mem_filter.mpr ⟨List.mem_of_getElem? (i := 748) rfl, rfl⟩
set_option maxRecDepth 100000 in
theorem w758 : (Cond.methodLink "LoggedStoreLaw" 122 yM_recover) ∈ wsA := List.mem_filter.mpr ⟨List.mem_of_getElem? (i := 758) rfl, rfl⟩
set_option maxRecDepth 100000 in
theorem w759 : (Cond.instanceMethod yM_recover) ∈ wsA := List.mem_filter.mpr ⟨List.mem_of_getElem? (i := 759) rfl, rfl⟩
set_option maxRecDepth 100000 in
theorem w760 : (Cond.selects "LoggedStoreModel" yM_recover yM_recover) ∈ wsA := List.mem_filter.mpr ⟨List.mem_of_getElem? (i := 760) rfl, rfl⟩
set_option maxRecDepth 100000 in
theorem w782 : (Cond.methodLink "LoggedStoreLaw" 113 yM_arm) ∈ wsA := List.mem_filter.mpr ⟨List.mem_of_getElem? (i := 782) rfl, rfl⟩
set_option maxRecDepth 100000 in
theorem w783 : (Cond.instanceMethod yM_arm) ∈ wsA := List.mem_filter.mpr ⟨List.mem_of_getElem? (i := 783) rfl, rfl⟩
set_option maxRecDepth 100000 in
theorem w784 : (Cond.selects "LoggedStoreModel" yM_arm yM_arm) ∈ wsA := List.mem_filter.mpr ⟨List.mem_of_getElem? (i := 784) rfl, rfl⟩
set_option maxRecDepth 100000 in
theorem w786 : (Cond.methodLink "LoggedStoreLaw" 118 yM_isDown) ∈ wsA := List.mem_filter.mpr ⟨List.mem_of_getElem? (i := 786) rfl, rfl⟩
set_option maxRecDepth 100000 in
theorem w787 : (Cond.instanceMethod yM_isDown) ∈ wsA := List.mem_filter.mpr ⟨List.mem_of_getElem? (i := 787) rfl, rfl⟩
set_option maxRecDepth 100000 in
theorem w788 : (Cond.selects "LoggedStoreModel" yM_isDown yM_isDown) ∈ wsA := List.mem_filter.mpr ⟨List.mem_of_getElem? (i := 788) rfl, rfl⟩
set_option maxRecDepth 100000 in
theorem w790 : (Cond.methodLink "LoggedStoreLaw" 100 yM_number) ∈ wsA := List.mem_filter.mpr ⟨List.mem_of_getElem? (i := 790) rfl, rfl⟩
set_option maxRecDepth 100000 in
theorem w791 : (Cond.instanceMethod yM_number) ∈ wsA := List.mem_filter.mpr ⟨List.mem_of_getElem? (i := 791) rfl, rfl⟩
set_option maxRecDepth 100000 in
theorem w792 : (Cond.selects "LoggedStoreModel" yM_number yM_number) ∈ wsA := List.mem_filter.mpr ⟨List.mem_of_getElem? (i := 792) rfl, rfl⟩
set_option maxRecDepth 100000 in
theorem w794 : (Cond.methodLink "LoggedStoreLaw" 103 yM_count) ∈ wsA := List.mem_filter.mpr ⟨List.mem_of_getElem? (i := 794) rfl, rfl⟩
set_option maxRecDepth 100000 in
theorem w795 : (Cond.instanceMethod yM_count) ∈ wsA := List.mem_filter.mpr ⟨List.mem_of_getElem? (i := 795) rfl, rfl⟩
set_option maxRecDepth 100000 in
theorem w796 : (Cond.selects "LoggedStoreModel" yM_count yM_count) ∈ wsA := List.mem_filter.mpr ⟨List.mem_of_getElem? (i := 796) rfl, rfl⟩
set_option maxRecDepth 100000 in
theorem w798 : (Cond.methodLink "LoggedStoreLaw" 106 yM_version) ∈ wsA := List.mem_filter.mpr ⟨List.mem_of_getElem? (i := 798) rfl, rfl⟩
set_option maxRecDepth 100000 in
theorem w799 : (Cond.instanceMethod yM_version) ∈ wsA := List.mem_filter.mpr ⟨List.mem_of_getElem? (i := 799) rfl, rfl⟩
set_option maxRecDepth 100000 in
theorem w800 : (Cond.selects "LoggedStoreModel" yM_version yM_version) ∈ wsA := List.mem_filter.mpr ⟨List.mem_of_getElem? (i := 800) rfl, rfl⟩
set_option maxRecDepth 100000 in
theorem w802 : (Cond.methodLink "LoggedStoreLaw" 109 yM_left) ∈ wsA := List.mem_filter.mpr ⟨List.mem_of_getElem? (i := 802) rfl, rfl⟩
set_option maxRecDepth 100000 in
theorem w803 : (Cond.instanceMethod yM_left) ∈ wsA := List.mem_filter.mpr ⟨List.mem_of_getElem? (i := 803) rfl, rfl⟩
set_option maxRecDepth 100000 in
theorem w804 : (Cond.selects "LoggedStoreModel" yM_left yM_left) ∈ wsA := List.mem_filter.mpr ⟨List.mem_of_getElem? (i := 804) rfl, rfl⟩
set_option maxRecDepth 100000 in
theorem w806 : (Cond.methodLink "LoggedStoreLaw" 126 yM_word) ∈ wsA := List.mem_filter.mpr ⟨List.mem_of_getElem? (i := 806) rfl, rfl⟩
set_option maxRecDepth 100000 in
theorem w807 : (Cond.instanceMethod yM_word) ∈ wsA := List.mem_filter.mpr ⟨List.mem_of_getElem? (i := 807) rfl, rfl⟩
set_option maxRecDepth 100000 in
theorem w808 : (Cond.selects "LoggedStoreModel" yM_word yM_word) ∈ wsA := List.mem_filter.mpr ⟨List.mem_of_getElem? (i := 808) rfl, rfl⟩
theorem dL_law_23 : decode cL_law 23 = .ok (.iload 4, 2) := by decide +kernel
theorem dL_law_25 : decode cL_law 25 = .ok (.aload_n 0, 1) := by decide +kernel
theorem dL_law_26 : decode cL_law 26 = .ok (.arraylength, 1) := by decide +kernel
theorem dL_law_27 : decode cL_law 27 = .ok (.iconst 4, 1) := by decide +kernel
theorem dL_law_28 : decode cL_law 28 = .ok (.isub, 1) := by decide +kernel
theorem dL_law_29 : decode cL_law 29 = .ok (.if_icmp .gt 862, 3) := by decide +kernel
theorem dL_law_116 : decode cL_law 116 = .ok (.aload_n 1, 1) := by decide +kernel
theorem dL_law_117 : decode cL_law 117 = .ok (.aload_n 0, 1) := by decide +kernel
theorem dL_law_118 : decode cL_law 118 = .ok (.iload 4, 2) := by decide +kernel
theorem dL_law_120 : decode cL_law 120 = .ok (.iconst 1, 1) := by decide +kernel
theorem dL_law_121 : decode cL_law 121 = .ok (.iadd, 1) := by decide +kernel
theorem dL_law_122 : decode cL_law 122 = .ok (.iaload, 1) := by decide +kernel
theorem dL_law_123 : decode cL_law 123 = .ok (.aload_n 3, 1) := by decide +kernel
theorem dL_law_124 : decode cL_law 124 = .ok (.invokestatic 64, 3) := by decide +kernel
theorem dL_law_127 : decode cL_law 127 = .ok (.istore 5, 2) := by decide +kernel
theorem dL_law_129 : decode cL_law 129 = .ok (.aload_n 2, 1) := by decide +kernel
theorem dL_law_130 : decode cL_law 130 = .ok (.aload_n 0, 1) := by decide +kernel
theorem dL_law_131 : decode cL_law 131 = .ok (.iload 4, 2) := by decide +kernel
theorem dL_law_133 : decode cL_law 133 = .ok (.iconst 1, 1) := by decide +kernel
theorem dL_law_134 : decode cL_law 134 = .ok (.iadd, 1) := by decide +kernel
theorem dL_law_135 : decode cL_law 135 = .ok (.iaload, 1) := by decide +kernel
theorem dL_law_136 : decode cL_law 136 = .ok (.invokevirtual 69, 3) := by decide +kernel
theorem dL_law_139 : decode cL_law 139 = .ok (.istore 6, 2) := by decide +kernel
theorem dL_law_141 : decode cL_law 141 = .ok (.aload_n 2, 1) := by decide +kernel
theorem dL_law_142 : decode cL_law 142 = .ok (.invokevirtual 70, 3) := by decide +kernel
theorem dL_law_145 : decode cL_law 145 = .ok (.iload 5, 2) := by decide +kernel
theorem dL_law_147 : decode cL_law 147 = .ok (.if_icmp .eq 5, 3) := by decide +kernel
theorem dL_law_152 : decode cL_law 152 = .ok (.iload 5, 2) := by decide +kernel
theorem dL_law_154 : decode cL_law 154 = .ok (.ifCond .ne 15, 3) := by decide +kernel
theorem dL_law_157 : decode cL_law 157 = .ok (.aload_n 3, 1) := by decide +kernel
theorem dL_law_158 : decode cL_law 158 = .ok (.iconst 0, 1) := by decide +kernel
theorem dL_law_159 : decode cL_law 159 = .ok (.laload, 1) := by decide +kernel
theorem dL_law_160 : decode cL_law 160 = .ok (.iload 6, 2) := by decide +kernel
theorem dL_law_162 : decode cL_law 162 = .ok (.i2l, 1) := by decide +kernel
theorem dL_law_163 : decode cL_law 163 = .ok (.lcmp, 1) := by decide +kernel
theorem dL_law_164 : decode cL_law 164 = .ok (.ifCond .eq 5, 3) := by decide +kernel
theorem dL_law_169 : decode cL_law 169 = .ok (.goto 716, 3) := by decide +kernel
theorem dL_law_172 : decode cL_law 172 = .ok (.aload_n 1, 1) := by decide +kernel
theorem dL_law_173 : decode cL_law 173 = .ok (.aload_n 0, 1) := by decide +kernel
theorem dL_law_174 : decode cL_law 174 = .ok (.iload 4, 2) := by decide +kernel
theorem dL_law_176 : decode cL_law 176 = .ok (.iconst 1, 1) := by decide +kernel
theorem dL_law_177 : decode cL_law 177 = .ok (.iadd, 1) := by decide +kernel
theorem dL_law_178 : decode cL_law 178 = .ok (.iaload, 1) := by decide +kernel
theorem dL_law_179 : decode cL_law 179 = .ok (.aload_n 0, 1) := by decide +kernel
theorem dL_law_180 : decode cL_law 180 = .ok (.iload 4, 2) := by decide +kernel
theorem dL_law_182 : decode cL_law 182 = .ok (.iconst 2, 1) := by decide +kernel
theorem dL_law_183 : decode cL_law 183 = .ok (.iadd, 1) := by decide +kernel
theorem dL_law_184 : decode cL_law 184 = .ok (.iaload, 1) := by decide +kernel
theorem dL_law_185 : decode cL_law 185 = .ok (.aload_n 3, 1) := by decide +kernel
theorem dL_law_186 : decode cL_law 186 = .ok (.invokestatic 73, 3) := by decide +kernel
theorem dL_law_189 : decode cL_law 189 = .ok (.istore 5, 2) := by decide +kernel
theorem dL_law_191 : decode cL_law 191 = .ok (.aload_n 2, 1) := by decide +kernel
theorem dL_law_192 : decode cL_law 192 = .ok (.aload_n 0, 1) := by decide +kernel
theorem dL_law_193 : decode cL_law 193 = .ok (.iload 4, 2) := by decide +kernel
theorem dL_law_195 : decode cL_law 195 = .ok (.iconst 1, 1) := by decide +kernel
theorem dL_law_196 : decode cL_law 196 = .ok (.iadd, 1) := by decide +kernel
theorem dL_law_197 : decode cL_law 197 = .ok (.iaload, 1) := by decide +kernel
theorem dL_law_198 : decode cL_law 198 = .ok (.aload_n 0, 1) := by decide +kernel
theorem dL_law_199 : decode cL_law 199 = .ok (.iload 4, 2) := by decide +kernel
theorem dL_law_201 : decode cL_law 201 = .ok (.iconst 2, 1) := by decide +kernel
theorem dL_law_202 : decode cL_law 202 = .ok (.iadd, 1) := by decide +kernel
theorem dL_law_203 : decode cL_law 203 = .ok (.iaload, 1) := by decide +kernel
theorem dL_law_204 : decode cL_law 204 = .ok (.invokevirtual 76, 3) := by decide +kernel
theorem dL_law_207 : decode cL_law 207 = .ok (.istore 6, 2) := by decide +kernel
theorem dL_law_209 : decode cL_law 209 = .ok (.aload_n 2, 1) := by decide +kernel
theorem dL_law_210 : decode cL_law 210 = .ok (.invokevirtual 70, 3) := by decide +kernel
theorem dL_law_213 : decode cL_law 213 = .ok (.iload 5, 2) := by decide +kernel
theorem dL_law_215 : decode cL_law 215 = .ok (.if_icmp .eq 5, 3) := by decide +kernel
theorem dL_law_220 : decode cL_law 220 = .ok (.iload 5, 2) := by decide +kernel
theorem dL_law_222 : decode cL_law 222 = .ok (.ifCond .ne 15, 3) := by decide +kernel
theorem dL_law_237 : decode cL_law 237 = .ok (.goto 648, 3) := by decide +kernel
theorem dL_law_240 : decode cL_law 240 = .ok (.aload_n 1, 1) := by decide +kernel
theorem dL_law_241 : decode cL_law 241 = .ok (.aload_n 0, 1) := by decide +kernel
theorem dL_law_242 : decode cL_law 242 = .ok (.iload 4, 2) := by decide +kernel
theorem dL_law_244 : decode cL_law 244 = .ok (.iconst 1, 1) := by decide +kernel
theorem dL_law_245 : decode cL_law 245 = .ok (.iadd, 1) := by decide +kernel
theorem dL_law_246 : decode cL_law 246 = .ok (.iaload, 1) := by decide +kernel
theorem dL_law_247 : decode cL_law 247 = .ok (.aload_n 0, 1) := by decide +kernel
theorem dL_law_248 : decode cL_law 248 = .ok (.iload 4, 2) := by decide +kernel
theorem dL_law_250 : decode cL_law 250 = .ok (.iconst 2, 1) := by decide +kernel
theorem dL_law_251 : decode cL_law 251 = .ok (.iadd, 1) := by decide +kernel
theorem dL_law_252 : decode cL_law 252 = .ok (.iaload, 1) := by decide +kernel
theorem dL_law_253 : decode cL_law 253 = .ok (.aload_n 0, 1) := by decide +kernel
theorem dL_law_254 : decode cL_law 254 = .ok (.iload 4, 2) := by decide +kernel
theorem dL_law_256 : decode cL_law 256 = .ok (.iconst 3, 1) := by decide +kernel
theorem dL_law_257 : decode cL_law 257 = .ok (.iadd, 1) := by decide +kernel
theorem dL_law_258 : decode cL_law 258 = .ok (.iaload, 1) := by decide +kernel
theorem dL_law_259 : decode cL_law 259 = .ok (.aload_n 3, 1) := by decide +kernel
theorem dL_law_260 : decode cL_law 260 = .ok (.invokestatic 77, 3) := by decide +kernel
theorem dL_law_263 : decode cL_law 263 = .ok (.istore 5, 2) := by decide +kernel
theorem dL_law_265 : decode cL_law 265 = .ok (.aload_n 2, 1) := by decide +kernel
theorem dL_law_266 : decode cL_law 266 = .ok (.aload_n 0, 1) := by decide +kernel
theorem dL_law_267 : decode cL_law 267 = .ok (.iload 4, 2) := by decide +kernel
theorem dL_law_269 : decode cL_law 269 = .ok (.iconst 1, 1) := by decide +kernel
theorem dL_law_270 : decode cL_law 270 = .ok (.iadd, 1) := by decide +kernel
theorem dL_law_271 : decode cL_law 271 = .ok (.iaload, 1) := by decide +kernel
theorem dL_law_272 : decode cL_law 272 = .ok (.aload_n 0, 1) := by decide +kernel
theorem dL_law_273 : decode cL_law 273 = .ok (.iload 4, 2) := by decide +kernel
theorem dL_law_275 : decode cL_law 275 = .ok (.iconst 2, 1) := by decide +kernel
theorem dL_law_276 : decode cL_law 276 = .ok (.iadd, 1) := by decide +kernel
theorem dL_law_277 : decode cL_law 277 = .ok (.iaload, 1) := by decide +kernel
theorem dL_law_278 : decode cL_law 278 = .ok (.aload_n 0, 1) := by decide +kernel
theorem dL_law_279 : decode cL_law 279 = .ok (.iload 4, 2) := by decide +kernel
theorem dL_law_281 : decode cL_law 281 = .ok (.iconst 3, 1) := by decide +kernel
theorem dL_law_282 : decode cL_law 282 = .ok (.iadd, 1) := by decide +kernel
theorem dL_law_283 : decode cL_law 283 = .ok (.iaload, 1) := by decide +kernel
theorem dL_law_284 : decode cL_law 284 = .ok (.invokevirtual 80, 3) := by decide +kernel
theorem dL_law_287 : decode cL_law 287 = .ok (.istore 6, 2) := by decide +kernel
theorem dL_law_289 : decode cL_law 289 = .ok (.aload_n 2, 1) := by decide +kernel
theorem dL_law_290 : decode cL_law 290 = .ok (.invokevirtual 70, 3) := by decide +kernel
theorem dL_law_293 : decode cL_law 293 = .ok (.iload 5, 2) := by decide +kernel
theorem dL_law_295 : decode cL_law 295 = .ok (.if_icmp .eq 5, 3) := by decide +kernel
theorem dL_law_300 : decode cL_law 300 = .ok (.iload 5, 2) := by decide +kernel
theorem dL_law_302 : decode cL_law 302 = .ok (.ifCond .ne 22, 3) := by decide +kernel
theorem dL_law_324 : decode cL_law 324 = .ok (.goto 561, 3) := by decide +kernel
theorem dL_law_327 : decode cL_law 327 = .ok (.aload_n 1, 1) := by decide +kernel
theorem dL_law_328 : decode cL_law 328 = .ok (.aload_n 0, 1) := by decide +kernel
theorem dL_law_329 : decode cL_law 329 = .ok (.iload 4, 2) := by decide +kernel
theorem dL_law_331 : decode cL_law 331 = .ok (.iconst 1, 1) := by decide +kernel
theorem dL_law_332 : decode cL_law 332 = .ok (.iadd, 1) := by decide +kernel
theorem dL_law_333 : decode cL_law 333 = .ok (.iaload, 1) := by decide +kernel
theorem dL_law_334 : decode cL_law 334 = .ok (.aload_n 0, 1) := by decide +kernel
theorem dL_law_335 : decode cL_law 335 = .ok (.iload 4, 2) := by decide +kernel
theorem dL_law_337 : decode cL_law 337 = .ok (.iconst 2, 1) := by decide +kernel
theorem dL_law_338 : decode cL_law 338 = .ok (.iadd, 1) := by decide +kernel
theorem dL_law_339 : decode cL_law 339 = .ok (.iaload, 1) := by decide +kernel
theorem dL_law_340 : decode cL_law 340 = .ok (.invokestatic 81, 3) := by decide +kernel
theorem dL_law_343 : decode cL_law 343 = .ok (.istore 5, 2) := by decide +kernel
theorem dL_law_345 : decode cL_law 345 = .ok (.aload_n 2, 1) := by decide +kernel
theorem dL_law_346 : decode cL_law 346 = .ok (.aload_n 0, 1) := by decide +kernel
theorem dL_law_347 : decode cL_law 347 = .ok (.iload 4, 2) := by decide +kernel
theorem dL_law_349 : decode cL_law 349 = .ok (.iconst 1, 1) := by decide +kernel
theorem dL_law_350 : decode cL_law 350 = .ok (.iadd, 1) := by decide +kernel
theorem dL_law_351 : decode cL_law 351 = .ok (.iaload, 1) := by decide +kernel
theorem dL_law_352 : decode cL_law 352 = .ok (.aload_n 0, 1) := by decide +kernel
theorem dL_law_353 : decode cL_law 353 = .ok (.iload 4, 2) := by decide +kernel
theorem dL_law_355 : decode cL_law 355 = .ok (.iconst 2, 1) := by decide +kernel
theorem dL_law_356 : decode cL_law 356 = .ok (.iadd, 1) := by decide +kernel
theorem dL_law_357 : decode cL_law 357 = .ok (.iaload, 1) := by decide +kernel
theorem dL_law_358 : decode cL_law 358 = .ok (.invokevirtual 84, 3) := by decide +kernel
theorem dL_law_361 : decode cL_law 361 = .ok (.aload_n 2, 1) := by decide +kernel
theorem dL_law_362 : decode cL_law 362 = .ok (.invokevirtual 70, 3) := by decide +kernel
theorem dL_law_365 : decode cL_law 365 = .ok (.iload 5, 2) := by decide +kernel
theorem dL_law_367 : decode cL_law 367 = .ok (.if_icmp .eq 5, 3) := by decide +kernel
theorem dL_law_372 : decode cL_law 372 = .ok (.goto 513, 3) := by decide +kernel
theorem dL_law_375 : decode cL_law 375 = .ok (.aload_n 1, 1) := by decide +kernel
theorem dL_law_376 : decode cL_law 376 = .ok (.aload_n 0, 1) := by decide +kernel
theorem dL_law_377 : decode cL_law 377 = .ok (.iload 4, 2) := by decide +kernel
theorem dL_law_379 : decode cL_law 379 = .ok (.iconst 1, 1) := by decide +kernel
theorem dL_law_380 : decode cL_law 380 = .ok (.iadd, 1) := by decide +kernel
theorem dL_law_381 : decode cL_law 381 = .ok (.iaload, 1) := by decide +kernel
theorem dL_law_382 : decode cL_law 382 = .ok (.aload_n 0, 1) := by decide +kernel
theorem dL_law_383 : decode cL_law 383 = .ok (.iload 4, 2) := by decide +kernel
theorem dL_law_385 : decode cL_law 385 = .ok (.iconst 2, 1) := by decide +kernel
theorem dL_law_386 : decode cL_law 386 = .ok (.iadd, 1) := by decide +kernel
theorem dL_law_387 : decode cL_law 387 = .ok (.iaload, 1) := by decide +kernel
theorem dL_law_388 : decode cL_law 388 = .ok (.aload_n 3, 1) := by decide +kernel
theorem dL_law_389 : decode cL_law 389 = .ok (.invokestatic 85, 3) := by decide +kernel
theorem dL_law_392 : decode cL_law 392 = .ok (.istore 5, 2) := by decide +kernel
theorem dL_law_394 : decode cL_law 394 = .ok (.aload_n 2, 1) := by decide +kernel
theorem dL_law_395 : decode cL_law 395 = .ok (.aload_n 0, 1) := by decide +kernel
theorem dL_law_396 : decode cL_law 396 = .ok (.iload 4, 2) := by decide +kernel
theorem dL_law_398 : decode cL_law 398 = .ok (.iconst 1, 1) := by decide +kernel
theorem dL_law_399 : decode cL_law 399 = .ok (.iadd, 1) := by decide +kernel
theorem dL_law_400 : decode cL_law 400 = .ok (.iaload, 1) := by decide +kernel
theorem dL_law_401 : decode cL_law 401 = .ok (.aload_n 0, 1) := by decide +kernel
theorem dL_law_402 : decode cL_law 402 = .ok (.iload 4, 2) := by decide +kernel
theorem dL_law_404 : decode cL_law 404 = .ok (.iconst 2, 1) := by decide +kernel
theorem dL_law_405 : decode cL_law 405 = .ok (.iadd, 1) := by decide +kernel
theorem dL_law_406 : decode cL_law 406 = .ok (.iaload, 1) := by decide +kernel
theorem dL_law_407 : decode cL_law 407 = .ok (.invokevirtual 87, 3) := by decide +kernel
theorem dL_law_410 : decode cL_law 410 = .ok (.istore 6, 2) := by decide +kernel
theorem dL_law_412 : decode cL_law 412 = .ok (.aload_n 2, 1) := by decide +kernel
theorem dL_law_413 : decode cL_law 413 = .ok (.invokevirtual 70, 3) := by decide +kernel
theorem dL_law_416 : decode cL_law 416 = .ok (.iload 5, 2) := by decide +kernel
theorem dL_law_418 : decode cL_law 418 = .ok (.if_icmp .eq 5, 3) := by decide +kernel
theorem dL_law_423 : decode cL_law 423 = .ok (.iload 5, 2) := by decide +kernel
theorem dL_law_425 : decode cL_law 425 = .ok (.ifCond .ne 15, 3) := by decide +kernel
theorem dL_law_440 : decode cL_law 440 = .ok (.goto 445, 3) := by decide +kernel
theorem dL_law_443 : decode cL_law 443 = .ok (.aload_n 1, 1) := by decide +kernel
theorem dL_law_444 : decode cL_law 444 = .ok (.aload_n 0, 1) := by decide +kernel
theorem dL_law_445 : decode cL_law 445 = .ok (.iload 4, 2) := by decide +kernel
theorem dL_law_447 : decode cL_law 447 = .ok (.iconst 1, 1) := by decide +kernel
theorem dL_law_448 : decode cL_law 448 = .ok (.iadd, 1) := by decide +kernel
theorem dL_law_449 : decode cL_law 449 = .ok (.iaload, 1) := by decide +kernel
theorem dL_law_450 : decode cL_law 450 = .ok (.aload_n 3, 1) := by decide +kernel
theorem dL_law_451 : decode cL_law 451 = .ok (.invokestatic 88, 3) := by decide +kernel
theorem dL_law_454 : decode cL_law 454 = .ok (.istore 5, 2) := by decide +kernel
theorem dL_law_456 : decode cL_law 456 = .ok (.aload_n 2, 1) := by decide +kernel
theorem dL_law_457 : decode cL_law 457 = .ok (.aload_n 0, 1) := by decide +kernel
theorem dL_law_458 : decode cL_law 458 = .ok (.iload 4, 2) := by decide +kernel
theorem dL_law_460 : decode cL_law 460 = .ok (.iconst 1, 1) := by decide +kernel
theorem dL_law_461 : decode cL_law 461 = .ok (.iadd, 1) := by decide +kernel
theorem dL_law_462 : decode cL_law 462 = .ok (.iaload, 1) := by decide +kernel
theorem dL_law_463 : decode cL_law 463 = .ok (.invokevirtual 90, 3) := by decide +kernel
theorem dL_law_466 : decode cL_law 466 = .ok (.istore 6, 2) := by decide +kernel
theorem dL_law_468 : decode cL_law 468 = .ok (.aload_n 2, 1) := by decide +kernel
theorem dL_law_469 : decode cL_law 469 = .ok (.invokevirtual 70, 3) := by decide +kernel
theorem dL_law_472 : decode cL_law 472 = .ok (.iload 5, 2) := by decide +kernel
theorem dL_law_474 : decode cL_law 474 = .ok (.if_icmp .eq 5, 3) := by decide +kernel
theorem dL_law_479 : decode cL_law 479 = .ok (.iload 5, 2) := by decide +kernel
theorem dL_law_481 : decode cL_law 481 = .ok (.ifCond .ne 15, 3) := by decide +kernel
theorem dL_law_496 : decode cL_law 496 = .ok (.goto 389, 3) := by decide +kernel
theorem dL_law_499 : decode cL_law 499 = .ok (.aload_n 1, 1) := by decide +kernel
theorem dL_law_500 : decode cL_law 500 = .ok (.aload_n 0, 1) := by decide +kernel
theorem dL_law_501 : decode cL_law 501 = .ok (.iload 4, 2) := by decide +kernel
theorem dL_law_503 : decode cL_law 503 = .ok (.iconst 1, 1) := by decide +kernel
theorem dL_law_504 : decode cL_law 504 = .ok (.iadd, 1) := by decide +kernel
theorem dL_law_505 : decode cL_law 505 = .ok (.iaload, 1) := by decide +kernel
theorem dL_law_506 : decode cL_law 506 = .ok (.aload_n 3, 1) := by decide +kernel
theorem dL_law_507 : decode cL_law 507 = .ok (.invokestatic 91, 3) := by decide +kernel
theorem dL_law_510 : decode cL_law 510 = .ok (.istore 5, 2) := by decide +kernel
theorem dL_law_512 : decode cL_law 512 = .ok (.aload_n 2, 1) := by decide +kernel
theorem dL_law_513 : decode cL_law 513 = .ok (.aload_n 0, 1) := by decide +kernel
theorem dL_law_514 : decode cL_law 514 = .ok (.iload 4, 2) := by decide +kernel
theorem dL_law_516 : decode cL_law 516 = .ok (.iconst 1, 1) := by decide +kernel
theorem dL_law_517 : decode cL_law 517 = .ok (.iadd, 1) := by decide +kernel
theorem dL_law_518 : decode cL_law 518 = .ok (.iaload, 1) := by decide +kernel
theorem dL_law_519 : decode cL_law 519 = .ok (.invokevirtual 93, 3) := by decide +kernel
theorem dL_law_522 : decode cL_law 522 = .ok (.istore 6, 2) := by decide +kernel
theorem dL_law_524 : decode cL_law 524 = .ok (.aload_n 2, 1) := by decide +kernel
theorem dL_law_525 : decode cL_law 525 = .ok (.invokevirtual 70, 3) := by decide +kernel
theorem dL_law_528 : decode cL_law 528 = .ok (.iload 5, 2) := by decide +kernel
theorem dL_law_530 : decode cL_law 530 = .ok (.if_icmp .eq 5, 3) := by decide +kernel
theorem dL_law_535 : decode cL_law 535 = .ok (.iload 5, 2) := by decide +kernel
theorem dL_law_537 : decode cL_law 537 = .ok (.ifCond .ne 15, 3) := by decide +kernel
theorem dL_law_552 : decode cL_law 552 = .ok (.goto 333, 3) := by decide +kernel
theorem dL_law_555 : decode cL_law 555 = .ok (.aload_n 1, 1) := by decide +kernel
theorem dL_law_556 : decode cL_law 556 = .ok (.aload_n 3, 1) := by decide +kernel
theorem dL_law_557 : decode cL_law 557 = .ok (.invokestatic 94, 3) := by decide +kernel
theorem dL_law_560 : decode cL_law 560 = .ok (.istore 5, 2) := by decide +kernel
theorem dL_law_562 : decode cL_law 562 = .ok (.aload_n 2, 1) := by decide +kernel
theorem dL_law_563 : decode cL_law 563 = .ok (.invokevirtual 97, 3) := by decide +kernel
theorem dL_law_566 : decode cL_law 566 = .ok (.istore 6, 2) := by decide +kernel
theorem dL_law_568 : decode cL_law 568 = .ok (.aload_n 2, 1) := by decide +kernel
theorem dL_law_569 : decode cL_law 569 = .ok (.invokevirtual 70, 3) := by decide +kernel
theorem dL_law_572 : decode cL_law 572 = .ok (.iload 5, 2) := by decide +kernel
theorem dL_law_574 : decode cL_law 574 = .ok (.if_icmp .eq 5, 3) := by decide +kernel
theorem dL_law_579 : decode cL_law 579 = .ok (.iload 5, 2) := by decide +kernel
theorem dL_law_581 : decode cL_law 581 = .ok (.ifCond .ne 15, 3) := by decide +kernel
theorem dL_law_584 : decode cL_law 584 = .ok (.aload_n 3, 1) := by decide +kernel
theorem dL_law_585 : decode cL_law 585 = .ok (.iconst 0, 1) := by decide +kernel
theorem dL_law_586 : decode cL_law 586 = .ok (.laload, 1) := by decide +kernel
theorem dL_law_587 : decode cL_law 587 = .ok (.iload 6, 2) := by decide +kernel
theorem dL_law_589 : decode cL_law 589 = .ok (.i2l, 1) := by decide +kernel
theorem dL_law_590 : decode cL_law 590 = .ok (.lcmp, 1) := by decide +kernel
theorem dL_law_591 : decode cL_law 591 = .ok (.ifCond .eq 5, 3) := by decide +kernel
theorem dL_law_596 : decode cL_law 596 = .ok (.goto 289, 3) := by decide +kernel
theorem dL_law_599 : decode cL_law 599 = .ok (.aload_n 1, 1) := by decide +kernel
theorem dL_law_600 : decode cL_law 600 = .ok (.aload_n 0, 1) := by decide +kernel
theorem dL_law_601 : decode cL_law 601 = .ok (.iload 4, 2) := by decide +kernel
theorem dL_law_603 : decode cL_law 603 = .ok (.iconst 1, 1) := by decide +kernel
theorem dL_law_604 : decode cL_law 604 = .ok (.iadd, 1) := by decide +kernel
theorem dL_law_605 : decode cL_law 605 = .ok (.iaload, 1) := by decide +kernel
theorem dL_law_606 : decode cL_law 606 = .ok (.aload_n 3, 1) := by decide +kernel
theorem dL_law_607 : decode cL_law 607 = .ok (.invokestatic 98, 3) := by decide +kernel
theorem dL_law_610 : decode cL_law 610 = .ok (.istore 5, 2) := by decide +kernel
theorem dL_law_612 : decode cL_law 612 = .ok (.aload_n 2, 1) := by decide +kernel
theorem dL_law_613 : decode cL_law 613 = .ok (.aload_n 0, 1) := by decide +kernel
theorem dL_law_614 : decode cL_law 614 = .ok (.iload 4, 2) := by decide +kernel
theorem dL_law_616 : decode cL_law 616 = .ok (.iconst 1, 1) := by decide +kernel
theorem dL_law_617 : decode cL_law 617 = .ok (.iadd, 1) := by decide +kernel
theorem dL_law_618 : decode cL_law 618 = .ok (.iaload, 1) := by decide +kernel
theorem dL_law_619 : decode cL_law 619 = .ok (.invokevirtual 100, 3) := by decide +kernel
theorem dL_law_622 : decode cL_law 622 = .ok (.istore 6, 2) := by decide +kernel
theorem dL_law_624 : decode cL_law 624 = .ok (.aload_n 2, 1) := by decide +kernel
theorem dL_law_625 : decode cL_law 625 = .ok (.invokevirtual 70, 3) := by decide +kernel
theorem dL_law_628 : decode cL_law 628 = .ok (.iload 5, 2) := by decide +kernel
theorem dL_law_630 : decode cL_law 630 = .ok (.if_icmp .eq 5, 3) := by decide +kernel
theorem dL_law_635 : decode cL_law 635 = .ok (.iload 5, 2) := by decide +kernel
theorem dL_law_637 : decode cL_law 637 = .ok (.ifCond .ne 15, 3) := by decide +kernel
theorem dL_law_652 : decode cL_law 652 = .ok (.goto 233, 3) := by decide +kernel
theorem dL_law_655 : decode cL_law 655 = .ok (.aload_n 1, 1) := by decide +kernel
theorem dL_law_656 : decode cL_law 656 = .ok (.aload_n 3, 1) := by decide +kernel
theorem dL_law_657 : decode cL_law 657 = .ok (.invokestatic 101, 3) := by decide +kernel
theorem dL_law_660 : decode cL_law 660 = .ok (.istore 5, 2) := by decide +kernel
theorem dL_law_662 : decode cL_law 662 = .ok (.aload_n 2, 1) := by decide +kernel
theorem dL_law_663 : decode cL_law 663 = .ok (.invokevirtual 103, 3) := by decide +kernel
theorem dL_law_666 : decode cL_law 666 = .ok (.istore 6, 2) := by decide +kernel
theorem dL_law_668 : decode cL_law 668 = .ok (.aload_n 2, 1) := by decide +kernel
theorem dL_law_669 : decode cL_law 669 = .ok (.invokevirtual 70, 3) := by decide +kernel
theorem dL_law_672 : decode cL_law 672 = .ok (.iload 5, 2) := by decide +kernel
theorem dL_law_674 : decode cL_law 674 = .ok (.if_icmp .eq 5, 3) := by decide +kernel
theorem dL_law_679 : decode cL_law 679 = .ok (.iload 5, 2) := by decide +kernel
theorem dL_law_681 : decode cL_law 681 = .ok (.ifCond .ne 15, 3) := by decide +kernel
theorem dL_law_684 : decode cL_law 684 = .ok (.aload_n 3, 1) := by decide +kernel
theorem dL_law_685 : decode cL_law 685 = .ok (.iconst 0, 1) := by decide +kernel
theorem dL_law_686 : decode cL_law 686 = .ok (.laload, 1) := by decide +kernel
theorem dL_law_687 : decode cL_law 687 = .ok (.iload 6, 2) := by decide +kernel
theorem dL_law_689 : decode cL_law 689 = .ok (.i2l, 1) := by decide +kernel
theorem dL_law_690 : decode cL_law 690 = .ok (.lcmp, 1) := by decide +kernel
theorem dL_law_691 : decode cL_law 691 = .ok (.ifCond .eq 5, 3) := by decide +kernel
theorem dL_law_696 : decode cL_law 696 = .ok (.goto 189, 3) := by decide +kernel
theorem dL_law_699 : decode cL_law 699 = .ok (.aload_n 1, 1) := by decide +kernel
theorem dL_law_700 : decode cL_law 700 = .ok (.aload_n 3, 1) := by decide +kernel
theorem dL_law_701 : decode cL_law 701 = .ok (.invokestatic 104, 3) := by decide +kernel
theorem dL_law_704 : decode cL_law 704 = .ok (.istore 5, 2) := by decide +kernel
theorem dL_law_706 : decode cL_law 706 = .ok (.aload_n 2, 1) := by decide +kernel
theorem dL_law_707 : decode cL_law 707 = .ok (.invokevirtual 106, 3) := by decide +kernel
theorem dL_law_710 : decode cL_law 710 = .ok (.istore 6, 2) := by decide +kernel
theorem dL_law_712 : decode cL_law 712 = .ok (.aload_n 2, 1) := by decide +kernel
theorem dL_law_713 : decode cL_law 713 = .ok (.invokevirtual 70, 3) := by decide +kernel
theorem dL_law_716 : decode cL_law 716 = .ok (.iload 5, 2) := by decide +kernel
theorem dL_law_718 : decode cL_law 718 = .ok (.if_icmp .eq 5, 3) := by decide +kernel
theorem dL_law_723 : decode cL_law 723 = .ok (.iload 5, 2) := by decide +kernel
theorem dL_law_725 : decode cL_law 725 = .ok (.ifCond .ne 15, 3) := by decide +kernel
theorem dL_law_728 : decode cL_law 728 = .ok (.aload_n 3, 1) := by decide +kernel
theorem dL_law_729 : decode cL_law 729 = .ok (.iconst 0, 1) := by decide +kernel
theorem dL_law_730 : decode cL_law 730 = .ok (.laload, 1) := by decide +kernel
theorem dL_law_731 : decode cL_law 731 = .ok (.iload 6, 2) := by decide +kernel
theorem dL_law_733 : decode cL_law 733 = .ok (.i2l, 1) := by decide +kernel
theorem dL_law_734 : decode cL_law 734 = .ok (.lcmp, 1) := by decide +kernel
theorem dL_law_735 : decode cL_law 735 = .ok (.ifCond .eq 5, 3) := by decide +kernel
theorem dL_law_740 : decode cL_law 740 = .ok (.goto 145, 3) := by decide +kernel
theorem dL_law_743 : decode cL_law 743 = .ok (.aload_n 1, 1) := by decide +kernel
theorem dL_law_744 : decode cL_law 744 = .ok (.aload_n 3, 1) := by decide +kernel
theorem dL_law_745 : decode cL_law 745 = .ok (.invokestatic 107, 3) := by decide +kernel
theorem dL_law_748 : decode cL_law 748 = .ok (.istore 5, 2) := by decide +kernel
theorem dL_law_750 : decode cL_law 750 = .ok (.aload_n 2, 1) := by decide +kernel
theorem dL_law_751 : decode cL_law 751 = .ok (.invokevirtual 109, 3) := by decide +kernel
theorem dL_law_754 : decode cL_law 754 = .ok (.istore 6, 2) := by decide +kernel
theorem dL_law_756 : decode cL_law 756 = .ok (.aload_n 2, 1) := by decide +kernel
theorem dL_law_757 : decode cL_law 757 = .ok (.invokevirtual 70, 3) := by decide +kernel
theorem dL_law_760 : decode cL_law 760 = .ok (.iload 5, 2) := by decide +kernel
theorem dL_law_762 : decode cL_law 762 = .ok (.if_icmp .eq 5, 3) := by decide +kernel
theorem dL_law_767 : decode cL_law 767 = .ok (.iload 5, 2) := by decide +kernel
theorem dL_law_769 : decode cL_law 769 = .ok (.ifCond .ne 15, 3) := by decide +kernel
theorem dL_law_772 : decode cL_law 772 = .ok (.aload_n 3, 1) := by decide +kernel
theorem dL_law_773 : decode cL_law 773 = .ok (.iconst 0, 1) := by decide +kernel
theorem dL_law_774 : decode cL_law 774 = .ok (.laload, 1) := by decide +kernel
theorem dL_law_775 : decode cL_law 775 = .ok (.iload 6, 2) := by decide +kernel
theorem dL_law_777 : decode cL_law 777 = .ok (.i2l, 1) := by decide +kernel
theorem dL_law_778 : decode cL_law 778 = .ok (.lcmp, 1) := by decide +kernel
theorem dL_law_779 : decode cL_law 779 = .ok (.ifCond .eq 5, 3) := by decide +kernel
theorem dL_law_784 : decode cL_law 784 = .ok (.goto 101, 3) := by decide +kernel
theorem dL_law_787 : decode cL_law 787 = .ok (.aload_n 1, 1) := by decide +kernel
theorem dL_law_788 : decode cL_law 788 = .ok (.aload_n 0, 1) := by decide +kernel
theorem dL_law_789 : decode cL_law 789 = .ok (.iload 4, 2) := by decide +kernel
theorem dL_law_791 : decode cL_law 791 = .ok (.iconst 1, 1) := by decide +kernel
theorem dL_law_792 : decode cL_law 792 = .ok (.iadd, 1) := by decide +kernel
theorem dL_law_793 : decode cL_law 793 = .ok (.iaload, 1) := by decide +kernel
theorem dL_law_794 : decode cL_law 794 = .ok (.aload_n 0, 1) := by decide +kernel
theorem dL_law_795 : decode cL_law 795 = .ok (.iload 4, 2) := by decide +kernel
theorem dL_law_797 : decode cL_law 797 = .ok (.iconst 2, 1) := by decide +kernel
theorem dL_law_798 : decode cL_law 798 = .ok (.iadd, 1) := by decide +kernel
theorem dL_law_799 : decode cL_law 799 = .ok (.iaload, 1) := by decide +kernel
theorem dL_law_800 : decode cL_law 800 = .ok (.invokevirtual 110, 3) := by decide +kernel
theorem dL_law_803 : decode cL_law 803 = .ok (.aload_n 2, 1) := by decide +kernel
theorem dL_law_804 : decode cL_law 804 = .ok (.aload_n 0, 1) := by decide +kernel
theorem dL_law_805 : decode cL_law 805 = .ok (.iload 4, 2) := by decide +kernel
theorem dL_law_807 : decode cL_law 807 = .ok (.iconst 1, 1) := by decide +kernel
theorem dL_law_808 : decode cL_law 808 = .ok (.iadd, 1) := by decide +kernel
theorem dL_law_809 : decode cL_law 809 = .ok (.iaload, 1) := by decide +kernel
theorem dL_law_810 : decode cL_law 810 = .ok (.aload_n 0, 1) := by decide +kernel
theorem dL_law_811 : decode cL_law 811 = .ok (.iload 4, 2) := by decide +kernel
theorem dL_law_813 : decode cL_law 813 = .ok (.iconst 2, 1) := by decide +kernel
theorem dL_law_814 : decode cL_law 814 = .ok (.iadd, 1) := by decide +kernel
theorem dL_law_815 : decode cL_law 815 = .ok (.iaload, 1) := by decide +kernel
theorem dL_law_816 : decode cL_law 816 = .ok (.invokevirtual 113, 3) := by decide +kernel
theorem dL_law_819 : decode cL_law 819 = .ok (.goto 66, 3) := by decide +kernel
theorem dL_law_822 : decode cL_law 822 = .ok (.aload_n 1, 1) := by decide +kernel
theorem dL_law_823 : decode cL_law 823 = .ok (.invokevirtual 114, 3) := by decide +kernel
theorem dL_law_826 : decode cL_law 826 = .ok (.aload_n 2, 1) := by decide +kernel
theorem dL_law_827 : decode cL_law 827 = .ok (.invokevirtual 118, 3) := by decide +kernel
theorem dL_law_830 : decode cL_law 830 = .ok (.if_icmp .eq 55, 3) := by decide +kernel
theorem dL_law_835 : decode cL_law 835 = .ok (.aload_n 1, 1) := by decide +kernel
theorem dL_law_836 : decode cL_law 836 = .ok (.invokevirtual 119, 3) := by decide +kernel
theorem dL_law_839 : decode cL_law 839 = .ok (.aload_n 2, 1) := by decide +kernel
theorem dL_law_840 : decode cL_law 840 = .ok (.invokevirtual 122, 3) := by decide +kernel
theorem dL_law_843 : decode cL_law 843 = .ok (.if_icmp .eq 42, 3) := by decide +kernel
theorem dL_law_848 : decode cL_law 848 = .ok (.aload_n 1, 1) := by decide +kernel
theorem dL_law_849 : decode cL_law 849 = .ok (.aload_n 0, 1) := by decide +kernel
theorem dL_law_850 : decode cL_law 850 = .ok (.iload 4, 2) := by decide +kernel
theorem dL_law_852 : decode cL_law 852 = .ok (.iconst 1, 1) := by decide +kernel
theorem dL_law_853 : decode cL_law 853 = .ok (.iadd, 1) := by decide +kernel
theorem dL_law_854 : decode cL_law 854 = .ok (.iaload, 1) := by decide +kernel
theorem dL_law_855 : decode cL_law 855 = .ok (.aload_n 0, 1) := by decide +kernel
theorem dL_law_856 : decode cL_law 856 = .ok (.iload 4, 2) := by decide +kernel
theorem dL_law_858 : decode cL_law 858 = .ok (.iconst 2, 1) := by decide +kernel
theorem dL_law_859 : decode cL_law 859 = .ok (.iadd, 1) := by decide +kernel
theorem dL_law_860 : decode cL_law 860 = .ok (.iaload, 1) := by decide +kernel
theorem dL_law_861 : decode cL_law 861 = .ok (.invokevirtual 123, 3) := by decide +kernel
theorem dL_law_864 : decode cL_law 864 = .ok (.aload_n 2, 1) := by decide +kernel
theorem dL_law_865 : decode cL_law 865 = .ok (.aload_n 0, 1) := by decide +kernel
theorem dL_law_866 : decode cL_law 866 = .ok (.iload 4, 2) := by decide +kernel
theorem dL_law_868 : decode cL_law 868 = .ok (.iconst 1, 1) := by decide +kernel
theorem dL_law_869 : decode cL_law 869 = .ok (.iadd, 1) := by decide +kernel
theorem dL_law_870 : decode cL_law 870 = .ok (.iaload, 1) := by decide +kernel
theorem dL_law_871 : decode cL_law 871 = .ok (.aload_n 0, 1) := by decide +kernel
theorem dL_law_872 : decode cL_law 872 = .ok (.iload 4, 2) := by decide +kernel
theorem dL_law_874 : decode cL_law 874 = .ok (.iconst 2, 1) := by decide +kernel
theorem dL_law_875 : decode cL_law 875 = .ok (.iadd, 1) := by decide +kernel
theorem dL_law_876 : decode cL_law 876 = .ok (.iaload, 1) := by decide +kernel
theorem dL_law_877 : decode cL_law 877 = .ok (.invokevirtual 126, 3) := by decide +kernel
theorem dL_law_880 : decode cL_law 880 = .ok (.if_icmp .eq 5, 3) := by decide +kernel
theorem dL_law_885 : decode cL_law 885 = .ok (.iinc 4 4, 3) := by decide +kernel
theorem dL_law_888 : decode cL_law 888 = .ok (.goto (-865), 3) := by decide +kernel
theorem dL_law_891 : decode cL_law 891 = .ok (.iconst 1, 1) := by decide +kernel
theorem dL_law_892 : decode cL_law 892 = .ok (.ireturn, 1) := by decide +kernel
/-! THE CLAIM OUT OF ONE WALK OF THE LAW'S BODY. Your part is whole_start (and what it stands on); all else here is the same for every law, but numbers. -/
def R_law : String := "LoggedStoreLaw"
def lw_P (b : Addr) (xs : List Int32) (args : Array Value) (s : State) : Prop := args = #[.ref b] ∧ s.IntsAt b xs ∧ xs.length ≤ 4 ∧ (Jvm.Cond.and given_1 narrow_1).before args s = true
def lw_Q (_ : Array Value) (s : State) (o : Outcome) (t : State) : Prop := o = .returned (some (.int 1)) ∧ Framed s o t [] 600002 7302232
def lw_Z (below : List Frame) (a : Array Value) (s : State) : State → Prop := fun t => ∃ o, t.status = .running ∧ Ended t below o ∧ lw_Q a s o t
/-- the law's own end, with 1 on the stack, nothing written that was there before, its room as the claim has it -/
theorem lw_ret {p : Program} {l : Launch} {e : Env} {s : State} {m : MethodId} {below : List Frame} {meth : Method} {c : Code} {b : Nat} (hx : p.tables.exec = Jvm.exec) (hb : c.code = code) (hr : meth.sig.returnType = ret) (hlocks : meth.locks = false) {pc : Nat} {H : Heap} {ls : Array Slot} (hdg : decode code pc = .ok (.ireturn, 1)) : W p l e room_1 s m #[Value.ref b] below meth c H [] 600002 7302232 (lw_Z below #[Value.ref b] s) (F0 m pc ls [.int 1]) := by
  intro T hT X
  obtain ⟨fs, hret, hrun, hended, hW, hframe⟩ := X.leave (v := some (.int 1)) (hlocks := hlocks) (fun h => by rw [hr] at h; cases h)
  have hmeth' : T.vm.method? m = some meth := X.method'
  refine ⟨T.setFrames fs, ?_, .returned (some (.int 1)), hrun, hended, rfl, ⟨_, rfl⟩, hW, hframe⟩
  jvm_step X.here [X.here.top, hx, hb, hdg, hmeth', hr, ret, narrow_b1]
  (try refine ⟨rfl, ?_⟩); (try refine ⟨rfl, ?_⟩)
  first | (intro acts; rw [hret _ acts rfl rfl rfl]) | rw [hret _ _ rfl rfl rfl]
  exact Steps.refl _
/-- what holds at the law's entry: the machine, the code, the tables' words (any of lw_tbl by 'hts w (by decide +kernel)'), the script of L ints xs at the cell b, what the Statement gives of the start (any of its parts by flat_of_before) -/
def lw_At (p : Program) (s : State) (m : MethodId) (meth : Method) (c : Code) (b L : Nat) (xs : Nat → Int32) : Prop :=
  p.tables.exec = Jvm.exec ∧ c.code = code ∧ meth.sig.returnType = ret ∧ c.maxLocals = 7 ∧ s.vm.findClass R_law = some m.cls ∧ (∀ w ∈ lw_tbl, w.before #[Value.ref b] s = true) ∧ va_X b L xs s s.heap ∧ b < s.heap.size ∧ meth.locks = false ∧ (Jvm.Cond.and given_1 narrow_1).before #[Value.ref b] s = true

theorem W0_eq (j : Nat) : W0 j = MW0 j := by
  unfold W0 MW0 upd
  have e0 : (0 : Int32).toNatClampNeg = 0 := by decide +kernel
  have e1 : (1 : Int32).toNatClampNeg = 1 := by decide +kernel
  have e2 : (2 : Int32).toNatClampNeg = 2 := by decide +kernel
  have e3 : (3 : Int32).toNatClampNeg = 3 := by decide +kernel
  rw [e0, e1, e2, e3]
  by_cases h3 : j = 3
  · simp [h3]
  · by_cases h2 : j = 2
    · simp [h2]
    · by_cases h1 : j = 1
      · simp [h1]
      · simp [h1, h2, h3]
theorem tk_96 (t : Int32) : t < 0 ∨ (¬ t < 0 ∧ ¬ t < 96 ∧ 95 < t) ∨ ∃ j : Nat, j < 96 ∧ t = nI j := tk_n 96 (by decide) (by decide) t
theorem tk_4 (t : Int32) : t < 0 ∨ (¬ t < 0 ∧ ¬ t < 4 ∧ 3 < t) ∨ ∃ j : Nat, j < 4 ∧ t = nI j := tk_n 4 (by decide) (by decide) t
set_option maxHeartbeats 4000000 in
set_option maxRecDepth 100000 in
theorem law_end {p : Program} {e : Env} {s : State} {m : MethodId} {below : List Frame} {meth : Method} {c : Code} (l : Launch) (hl9 : l.stackTraces = false) {b : Nat} {xs : Nat → Int32} (C0 : lw_At p s m meth c b 4 xs) {dC : Nat → ClassId} {dI : Nat → Nat → Nat} {cI cZ cJ cT : ClassId} (hKK : KK dC dI cI cZ cJ cT s) (hX : KS s) (hX2 : KS2 s) {A : Nat → Prop} (hAe : A = fun q => s.heap.size ≤ q) {H : Heap} {locs : List Loc} {cells slots : Nat} (hc : cells ≤ 600002) (hs9 : slots ≤ 7302232) (hS : va_S A s.heap H locs) {ls : Array Slot} (hl : lv_has ls 7 [(4, .int 0), (0, .ref b)]) : W p l e room_1 s m #[Value.ref b] below meth c H locs cells slots (lw_Z below #[Value.ref b] s) (F0 m 885 ls []) := by
  obtain ⟨hx, hb, hr, hml, hown, hts, hXs, hbl, hlocks, hgv⟩ := C0
  have hown : s.vm.findClass "LoggedStoreLaw" = some m.cls := hown
  have hw : ∀ w ∈ wsA, w.before #[Value.ref b] s = true := fun w h => hts w (List.mem_filter.mp h).1
  have hbA : ¬ A b := by rw [hAe]; exact Nat.not_le.mpr hbl
  refine lv_iinc (k := 0) (v := 4) hx hb dL_law_885 hl rfl (by decide +kernel) (by decide) rfl (fun ls hl => ?_)
  have hl : lv_has ls 7 [(4, .int 4), (0, .ref b)] := hl
  refine lv_goto (tgt := 23) hx hb dL_law_888 (by decide) ?_
  refine lv_iload hx hb dL_law_23 (lv_at hl 0 rfl) ?_
  refine lv_aload_n hx hb dL_law_25 rfl (lv_at hl 1 rfl) ?_
  refine va_slen hx hb hXs hbl hbA hS dL_law_26 ?_
  refine lv_topi (nm_r (e' := 4) (by decide +kernel) ?_)
  refine lv_iconst (v := 4) hx hb dL_law_27 (by decide) ?_
  refine lv_isub hx hb dL_law_28 ?_
  refine lv_topi (nm_r (e' := 0) (by decide +kernel) ?_)
  refine lv_icmp_gt (tgt := 891) hx hb dL_law_29 (by decide) (fun _ => ?_) (fun h9 => absurd (by decide) h9)
  refine lv_iconst (v := 1) hx hb dL_law_891 (by decide) ?_
  refine va_forget (fun q h => by have h2 := hS.2.2 q h; rw [hAe] at h2; exact h2) ?_
  refine W.widen (k := 600002) (n := 7302232) hc hs9 ?_
  exact lw_ret hx hb hr hlocks dL_law_892

set_option maxHeartbeats 4000000 in
set_option maxRecDepth 100000 in
theorem law_0 {p : Program} {e : Env} {s : State} {m : MethodId} {below : List Frame} {meth : Method} {c : Code} (l : Launch) (hl9 : l.stackTraces = false) {b : Nat} {xs : Nat → Int32} (C0 : lw_At p s m meth c b 4 xs) {dC : Nat → ClassId} {dI : Nat → Nat → Nat} {cI cZ cJ cT : ClassId} (hKK : KK dC dI cI cZ cJ cT s) (hX : KS s) (hX2 : KS2 s) {A : Nat → Prop} (hAe : A = fun q => s.heap.size ≤ q) {x m0 o9 : Nat} {u v : Nat → Nat} {H : Heap} {locs : List Loc} (hP : va_P (dC, dI) vwC [(x, .inr (3, [.ref (u 0), .ref (u 2), .ref (u 5), .ref (u 6), .int 0, .int 1, .int 0, .int 22])), ((u 0), .inr (0, [.ref (u 1), .int (-1), .int 0, .int 0])), ((u 1), .inl (cI, 384, .inl W0)), ((u 2), .inr (1, [.ref (u 3), .ref (u 4), .int 0])), ((u 3), .inl (cZ, 64, .inl (fun _ => 0))), ((u 4), .inl (cI, 64, .inl (fun _ => 0))), ((u 5), .inl (cI, 64, .inl (fun _ => 0))), ((u 6), .inl (cT, 3, .inr (.inr (.inr (.inr (tF (u 7) (u 12) (u 17))))))), ((u 7), .inr (2, [.ref (u 8), .ref (u 11), .int 0, .int 0, .int 0])), ((u 8), .inr (1, [.ref (u 9), .ref (u 10), .int 0])), ((u 9), .inl (cZ, 64, .inl (fun _ => 0))), ((u 10), .inl (cI, 64, .inl (fun _ => 0))), ((u 11), .inl (cZ, 64, .inl (fun _ => 0))), ((u 12), .inr (2, [.ref (u 13), .ref (u 16), .int 0, .int 0, .int 0])), ((u 13), .inr (1, [.ref (u 14), .ref (u 15), .int 0])), ((u 14), .inl (cZ, 64, .inl (fun _ => 0))), ((u 15), .inl (cI, 64, .inl (fun _ => 0))), ((u 16), .inl (cZ, 64, .inl (fun _ => 0))), ((u 17), .inr (2, [.ref (u 18), .ref (u 21), .int 0, .int 0, .int 0])), ((u 18), .inr (1, [.ref (u 19), .ref (u 20), .int 0])), ((u 19), .inl (cZ, 64, .inl (fun _ => 0))), ((u 20), .inl (cI, 64, .inl (fun _ => 0))), ((u 21), .inl (cZ, 64, .inl (fun _ => 0))), (m0, .inr (4, [.int 0, .ref (v 0), .int 0, .int (-1), .int 0, .ref (v 1), .ref (v 2), .ref (v 3), .int 0, .int 1, .int 0, .int 0, .ref (v 4), .ref (v 5), .ref (v 6), .ref (v 7), .ref (v 8), .ref (v 9)])), ((v 0), .inl (cI, 384, .inl MW0)), ((v 1), .inl (cZ, 64, .inl (fun _ => 0))), ((v 2), .inl (cI, 64, .inl (fun _ => 0))), ((v 3), .inl (cI, 64, .inl (fun _ => 0))), ((v 4), .inl (cZ, 3, .inl (fun _ => 0))), ((v 5), .inl (cI, 3, .inl (fun _ => 0))), ((v 6), .inl (cZ, 192, .inl (fun _ => 0))), ((v 7), .inl (cI, 192, .inl (fun _ => 0))), ((v 8), .inl (cI, 192, .inl (fun _ => 0))), ((v 9), .inl (cI, 192, .inl (fun _ => 0))), (o9, .inl (cJ, 1, .inr (.inl (fun _ => 0))))] H) (hD : va_D A [(x, .inr (3, [.ref (u 0), .ref (u 2), .ref (u 5), .ref (u 6), .int 0, .int 1, .int 0, .int 22])), ((u 0), .inr (0, [.ref (u 1), .int (-1), .int 0, .int 0])), ((u 1), .inl (cI, 384, .inl W0)), ((u 2), .inr (1, [.ref (u 3), .ref (u 4), .int 0])), ((u 3), .inl (cZ, 64, .inl (fun _ => 0))), ((u 4), .inl (cI, 64, .inl (fun _ => 0))), ((u 5), .inl (cI, 64, .inl (fun _ => 0))), ((u 6), .inl (cT, 3, .inr (.inr (.inr (.inr (tF (u 7) (u 12) (u 17))))))), ((u 7), .inr (2, [.ref (u 8), .ref (u 11), .int 0, .int 0, .int 0])), ((u 8), .inr (1, [.ref (u 9), .ref (u 10), .int 0])), ((u 9), .inl (cZ, 64, .inl (fun _ => 0))), ((u 10), .inl (cI, 64, .inl (fun _ => 0))), ((u 11), .inl (cZ, 64, .inl (fun _ => 0))), ((u 12), .inr (2, [.ref (u 13), .ref (u 16), .int 0, .int 0, .int 0])), ((u 13), .inr (1, [.ref (u 14), .ref (u 15), .int 0])), ((u 14), .inl (cZ, 64, .inl (fun _ => 0))), ((u 15), .inl (cI, 64, .inl (fun _ => 0))), ((u 16), .inl (cZ, 64, .inl (fun _ => 0))), ((u 17), .inr (2, [.ref (u 18), .ref (u 21), .int 0, .int 0, .int 0])), ((u 18), .inr (1, [.ref (u 19), .ref (u 20), .int 0])), ((u 19), .inl (cZ, 64, .inl (fun _ => 0))), ((u 20), .inl (cI, 64, .inl (fun _ => 0))), ((u 21), .inl (cZ, 64, .inl (fun _ => 0))), (m0, .inr (4, [.int 0, .ref (v 0), .int 0, .int (-1), .int 0, .ref (v 1), .ref (v 2), .ref (v 3), .int 0, .int 1, .int 0, .int 0, .ref (v 4), .ref (v 5), .ref (v 6), .ref (v 7), .ref (v 8), .ref (v 9)])), ((v 0), .inl (cI, 384, .inl MW0)), ((v 1), .inl (cZ, 64, .inl (fun _ => 0))), ((v 2), .inl (cI, 64, .inl (fun _ => 0))), ((v 3), .inl (cI, 64, .inl (fun _ => 0))), ((v 4), .inl (cZ, 3, .inl (fun _ => 0))), ((v 5), .inl (cI, 3, .inl (fun _ => 0))), ((v 6), .inl (cZ, 192, .inl (fun _ => 0))), ((v 7), .inl (cI, 192, .inl (fun _ => 0))), ((v 8), .inl (cI, 192, .inl (fun _ => 0))), ((v 9), .inl (cI, 192, .inl (fun _ => 0))), (o9, .inl (cJ, 1, .inr (.inl (fun _ => 0))))]) (hS : va_S A s.heap H locs) {ls : Array Slot} (hl : lv_has ls 7 [(4, .int 0), (3, .ref o9), (2, .ref m0), (1, .ref x), (0, .ref b)]) : W p l e room_1 s m #[Value.ref b] below meth c H locs 35 2563 (lw_Z below #[Value.ref b] s) (F0 m 116 ls []) := by
  have C00 := C0
  obtain ⟨hx, hb, hr, hml, hown, hts, hXs, hbl, hlocks, hgv⟩ := C0
  have hown : s.vm.findClass "LoggedStoreLaw" = some m.cls := hown
  have hw : ∀ w ∈ wsA, w.before #[Value.ref b] s = true := fun w h => hts w (List.mem_filter.mp h).1
  have hbA : ¬ A b := by rw [hAe]; exact Nat.not_le.mpr hbl
  have hK := hKK.1
  have hA : ∀ q : Nat, s.heap.size ≤ q → A q := by rw [hAe]; exact fun q h => h
  have hst : ∀ (a : Addr) (cell : Cell), s.heap[a]? = some cell → cell.vm.isStatics = true → H[a]? = some cell := fun a cell h _ => by rw [hS.2.1 a (Array.getElem?_eq_some_iff.mp h).1 (by rw [hAe]; exact Nat.not_le.mpr (Array.getElem?_eq_some_iff.mp h).1)]; exact h
  rcases tk_t (xs 1) with h1 | ⟨h1, h2, h3⟩ | h1 | h1 | h1
  · refine lv_aload_n hx hb dL_law_116 rfl (lv_at hl 3 rfl) ?_
    refine lv_aload_n hx hb dL_law_117 rfl (lv_at hl 4 rfl) ?_
    refine lv_iload hx hb dL_law_118 (lv_at hl 0 rfl) ?_
    refine lv_iconst (v := 1) hx hb dL_law_120 (by decide) ?_
    refine lv_iadd hx hb dL_law_121 ?_
    refine lv_topi (nm_r (e' := 1) (by decide +kernel) ?_)
    refine va_sld hx hb hXs hbl hbA hS (tv_in (by decide +kernel)) dL_law_122 ?_
    refine lv_topi (nm_r (e' := xs 1) (congrArg xs (by decide +kernel : (1 : Int32).toNatClampNeg = 1)) ?_)
    refine lv_aload_n hx hb dL_law_123 rfl (lv_at hl 1 rfl) ?_
    have hPc := hP.sub (ws' := [(x, .inr (3, [.ref (u 0), .ref (u 2), .ref (u 5), .ref (u 6), .int 0, .int 1, .int 0, .int 22])), ((u 0), .inr (0, [.ref (u 1), .int (-1), .int 0, .int 0]))]) [0, 1] rfl
    have hDc := hD.sub (ws' := [(x, .inr (3, [.ref (u 0), .ref (u 2), .ref (u 5), .ref (u 6), .int 0, .int 1, .int 0, .int 22])), ((u 0), .inr (0, [.ref (u 1), .int (-1), .int 0, .int 0]))]) [0, 1] (by decide) rfl
    have hFc := va_free (wc := [(x, .inr (3, [.ref (u 0), .ref (u 2), .ref (u 5), .ref (u 6), .int 0, .int 1, .int 0, .int 22])), ((u 0), .inr (0, [.ref (u 1), .int (-1), .int 0, .int 0]))]) hD hS hA [0, 1] rfl
    refine va_calli (tx_runW (As := [.ref x, .int (xs 1), .ref o9]) (rest := []) ⟨hx, hb, hml, hown, hw⟩ (h_begin_x l dC dI cI cZ cJ cT hl9 x (u 0) (u 1) (u 2) (u 5) (u 6) (xs 1) o9 H.size (Or.inl h1)) (tx_cw 3 hw (gA0 w281) rfl rfl rfl (hw _ w39) (hw _ w279) (hw _ w280) (by decide +kernel) ⟨Nat.le_of_ble_eq_true rfl, Nat.le_of_ble_eq_true rfl⟩) ⟨kb_W, fun U hU hW => ⟨rfl, by rw [hU], by rw [hU]; exact hPc, hKK.moved hW, hX.moved hW (by rw [hU]; exact hst), hDc.weaken (fun _ _ _ _ => trivial)⟩⟩ rfl rfl hl.1 rfl (lv_room (Nat.le_of_ble_eq_true rfl)) dL_law_124 ⟨Nat.le_of_ble_eq_true rfl, Nat.le_of_ble_eq_true rfl⟩) hS (fun q _ h => hFc q h) hFc (fun r1 u2 t H1 locs ht hvm he9 hB hz1 hk1 hS => ?_)
    obtain ⟨hP, hD⟩ := va_join (wr := [((u 1), .inl (cI, 384, .inl W0)), ((u 2), .inr (1, [.ref (u 3), .ref (u 4), .int 0])), ((u 3), .inl (cZ, 64, .inl (fun _ => 0))), ((u 4), .inl (cI, 64, .inl (fun _ => 0))), ((u 5), .inl (cI, 64, .inl (fun _ => 0))), ((u 6), .inl (cT, 3, .inr (.inr (.inr (.inr (tF (u 7) (u 12) (u 17))))))), ((u 7), .inr (2, [.ref (u 8), .ref (u 11), .int 0, .int 0, .int 0])), ((u 8), .inr (1, [.ref (u 9), .ref (u 10), .int 0])), ((u 9), .inl (cZ, 64, .inl (fun _ => 0))), ((u 10), .inl (cI, 64, .inl (fun _ => 0))), ((u 11), .inl (cZ, 64, .inl (fun _ => 0))), ((u 12), .inr (2, [.ref (u 13), .ref (u 16), .int 0, .int 0, .int 0])), ((u 13), .inr (1, [.ref (u 14), .ref (u 15), .int 0])), ((u 14), .inl (cZ, 64, .inl (fun _ => 0))), ((u 15), .inl (cI, 64, .inl (fun _ => 0))), ((u 16), .inl (cZ, 64, .inl (fun _ => 0))), ((u 17), .inr (2, [.ref (u 18), .ref (u 21), .int 0, .int 0, .int 0])), ((u 18), .inr (1, [.ref (u 19), .ref (u 20), .int 0])), ((u 19), .inl (cZ, 64, .inl (fun _ => 0))), ((u 20), .inl (cI, 64, .inl (fun _ => 0))), ((u 21), .inl (cZ, 64, .inl (fun _ => 0))), (m0, .inr (4, [.int 0, .ref (v 0), .int 0, .int (-1), .int 0, .ref (v 1), .ref (v 2), .ref (v 3), .int 0, .int 1, .int 0, .int 0, .ref (v 4), .ref (v 5), .ref (v 6), .ref (v 7), .ref (v 8), .ref (v 9)])), ((v 0), .inl (cI, 384, .inl MW0)), ((v 1), .inl (cZ, 64, .inl (fun _ => 0))), ((v 2), .inl (cI, 64, .inl (fun _ => 0))), ((v 3), .inl (cI, 64, .inl (fun _ => 0))), ((v 4), .inl (cZ, 3, .inl (fun _ => 0))), ((v 5), .inl (cI, 3, .inl (fun _ => 0))), ((v 6), .inl (cZ, 192, .inl (fun _ => 0))), ((v 7), .inl (cI, 192, .inl (fun _ => 0))), ((v 8), .inl (cI, 192, .inl (fun _ => 0))), ((v 9), .inl (cI, 192, .inl (fun _ => 0))), (o9, .inl (cJ, 1, .inr (.inl (fun _ => 0))))]) (w1 := []) hP hD [0, 1] [2, 3, 4, 5, 6, 7, 8, 9, 10, 11, 12, 13, 14, 15, 16, 17, 18, 19, 20, 21, 22, 23, 24, 25, 26, 27, 28, 29, 30, 31, 32, 33, 34] rfl rfl (by decide) (by decide) hk1 hFc tk_P0 tk_D0
    generalize H1 = H at hP hS ⊢
    have hP : va_P (dC, dI) vwC [((u 1), .inl (cI, 384, .inl W0)), ((u 2), .inr (1, [.ref (u 3), .ref (u 4), .int 0])), ((u 3), .inl (cZ, 64, .inl (fun _ => 0))), ((u 4), .inl (cI, 64, .inl (fun _ => 0))), ((u 5), .inl (cI, 64, .inl (fun _ => 0))), ((u 6), .inl (cT, 3, .inr (.inr (.inr (.inr (tF (u 7) (u 12) (u 17))))))), ((u 7), .inr (2, [.ref (u 8), .ref (u 11), .int 0, .int 0, .int 0])), ((u 8), .inr (1, [.ref (u 9), .ref (u 10), .int 0])), ((u 9), .inl (cZ, 64, .inl (fun _ => 0))), ((u 10), .inl (cI, 64, .inl (fun _ => 0))), ((u 11), .inl (cZ, 64, .inl (fun _ => 0))), ((u 12), .inr (2, [.ref (u 13), .ref (u 16), .int 0, .int 0, .int 0])), ((u 13), .inr (1, [.ref (u 14), .ref (u 15), .int 0])), ((u 14), .inl (cZ, 64, .inl (fun _ => 0))), ((u 15), .inl (cI, 64, .inl (fun _ => 0))), ((u 16), .inl (cZ, 64, .inl (fun _ => 0))), ((u 17), .inr (2, [.ref (u 18), .ref (u 21), .int 0, .int 0, .int 0])), ((u 18), .inr (1, [.ref (u 19), .ref (u 20), .int 0])), ((u 19), .inl (cZ, 64, .inl (fun _ => 0))), ((u 20), .inl (cI, 64, .inl (fun _ => 0))), ((u 21), .inl (cZ, 64, .inl (fun _ => 0))), (m0, .inr (4, [.int 0, .ref (v 0), .int 0, .int (-1), .int 0, .ref (v 1), .ref (v 2), .ref (v 3), .int 0, .int 1, .int 0, .int 0, .ref (v 4), .ref (v 5), .ref (v 6), .ref (v 7), .ref (v 8), .ref (v 9)])), ((v 0), .inl (cI, 384, .inl MW0)), ((v 1), .inl (cZ, 64, .inl (fun _ => 0))), ((v 2), .inl (cI, 64, .inl (fun _ => 0))), ((v 3), .inl (cI, 64, .inl (fun _ => 0))), ((v 4), .inl (cZ, 3, .inl (fun _ => 0))), ((v 5), .inl (cI, 3, .inl (fun _ => 0))), ((v 6), .inl (cZ, 192, .inl (fun _ => 0))), ((v 7), .inl (cI, 192, .inl (fun _ => 0))), ((v 8), .inl (cI, 192, .inl (fun _ => 0))), ((v 9), .inl (cI, 192, .inl (fun _ => 0))), (o9, .inl (cJ, 1, .inr (.inl (fun _ => 0))))] H := hP
    have hD : va_D A [((u 1), .inl (cI, 384, .inl W0)), ((u 2), .inr (1, [.ref (u 3), .ref (u 4), .int 0])), ((u 3), .inl (cZ, 64, .inl (fun _ => 0))), ((u 4), .inl (cI, 64, .inl (fun _ => 0))), ((u 5), .inl (cI, 64, .inl (fun _ => 0))), ((u 6), .inl (cT, 3, .inr (.inr (.inr (.inr (tF (u 7) (u 12) (u 17))))))), ((u 7), .inr (2, [.ref (u 8), .ref (u 11), .int 0, .int 0, .int 0])), ((u 8), .inr (1, [.ref (u 9), .ref (u 10), .int 0])), ((u 9), .inl (cZ, 64, .inl (fun _ => 0))), ((u 10), .inl (cI, 64, .inl (fun _ => 0))), ((u 11), .inl (cZ, 64, .inl (fun _ => 0))), ((u 12), .inr (2, [.ref (u 13), .ref (u 16), .int 0, .int 0, .int 0])), ((u 13), .inr (1, [.ref (u 14), .ref (u 15), .int 0])), ((u 14), .inl (cZ, 64, .inl (fun _ => 0))), ((u 15), .inl (cI, 64, .inl (fun _ => 0))), ((u 16), .inl (cZ, 64, .inl (fun _ => 0))), ((u 17), .inr (2, [.ref (u 18), .ref (u 21), .int 0, .int 0, .int 0])), ((u 18), .inr (1, [.ref (u 19), .ref (u 20), .int 0])), ((u 19), .inl (cZ, 64, .inl (fun _ => 0))), ((u 20), .inl (cI, 64, .inl (fun _ => 0))), ((u 21), .inl (cZ, 64, .inl (fun _ => 0))), (m0, .inr (4, [.int 0, .ref (v 0), .int 0, .int (-1), .int 0, .ref (v 1), .ref (v 2), .ref (v 3), .int 0, .int 1, .int 0, .int 0, .ref (v 4), .ref (v 5), .ref (v 6), .ref (v 7), .ref (v 8), .ref (v 9)])), ((v 0), .inl (cI, 384, .inl MW0)), ((v 1), .inl (cZ, 64, .inl (fun _ => 0))), ((v 2), .inl (cI, 64, .inl (fun _ => 0))), ((v 3), .inl (cI, 64, .inl (fun _ => 0))), ((v 4), .inl (cZ, 3, .inl (fun _ => 0))), ((v 5), .inl (cI, 3, .inl (fun _ => 0))), ((v 6), .inl (cZ, 192, .inl (fun _ => 0))), ((v 7), .inl (cI, 192, .inl (fun _ => 0))), ((v 8), .inl (cI, 192, .inl (fun _ => 0))), ((v 9), .inl (cI, 192, .inl (fun _ => 0))), (o9, .inl (cJ, 1, .inr (.inl (fun _ => 0))))] := hD
    obtain rfl : r1 = 2 := he9
    refine lv_istore hx hb dL_law_127 hl (by decide) rfl (fun ls hl => ?_)
    have hl : lv_has ls 7 [(5, .int 2), (4, .int 0), (3, .ref o9), (2, .ref m0), (1, .ref x), (0, .ref b)] := hl
    refine lv_aload_n hx hb dL_law_129 rfl (lv_at hl 3 rfl) ?_
    refine lv_aload_n hx hb dL_law_130 rfl (lv_at hl 5 rfl) ?_
    refine lv_iload hx hb dL_law_131 (lv_at hl 1 rfl) ?_
    refine lv_iconst (v := 1) hx hb dL_law_133 (by decide) ?_
    refine lv_iadd hx hb dL_law_134 ?_
    refine lv_topi (nm_r (e' := 1) (by decide +kernel) ?_)
    refine va_sld hx hb hXs hbl hbA hS (tv_in (by decide +kernel)) dL_law_135 ?_
    refine lv_topi (nm_r (e' := xs 1) (congrArg xs (by decide +kernel : (1 : Int32).toNatClampNeg = 1)) ?_)
    have hPc := hP.sub (ws' := [(m0, .inr (4, [.int 0, .ref (v 0), .int 0, .int (-1), .int 0, .ref (v 1), .ref (v 2), .ref (v 3), .int 0, .int 1, .int 0, .int 0, .ref (v 4), .ref (v 5), .ref (v 6), .ref (v 7), .ref (v 8), .ref (v 9)])), ((v 4), .inl (cZ, 3, .inl (fun _ => 0)))]) [21, 26] rfl
    have hDc := hD.sub (ws' := [(m0, .inr (4, [.int 0, .ref (v 0), .int 0, .int (-1), .int 0, .ref (v 1), .ref (v 2), .ref (v 3), .int 0, .int 1, .int 0, .int 0, .ref (v 4), .ref (v 5), .ref (v 6), .ref (v 7), .ref (v 8), .ref (v 9)])), ((v 4), .inl (cZ, 3, .inl (fun _ => 0)))]) [21, 26] (by decide) rfl
    have hFc := va_free (wc := [(m0, .inr (4, [.int 0, .ref (v 0), .int 0, .int (-1), .int 0, .ref (v 1), .ref (v 2), .ref (v 3), .int 0, .int 1, .int 0, .int 0, .ref (v 4), .ref (v 5), .ref (v 6), .ref (v 7), .ref (v 8), .ref (v 9)])), ((v 4), .inl (cZ, 3, .inl (fun _ => 0)))]) hD hS hA [21, 26] rfl
    refine va_calli (va_runV (C := "LoggedStoreModel") (b := m0) (As := [.int (xs 1)]) (rest := []) ⟨hx, hb, hml, hown, hw⟩ (c_M_begin_x l dC dI cI cZ cJ cT m0 (v 0) (v 1) (v 2) (v 3) (v 4) (v 5) (v 6) (v 7) (v 8) (v 9) (xs 1) H.size (Or.inl h1)) ⟨callB_of 1 hw (gA0 w674) rfl rfl rfl (hw _ w45) (hw _ w671) (by decide +kernel) ⟨Nat.le_of_ble_eq_true rfl, Nat.le_of_ble_eq_true rfl⟩, (hw _ w672), (hw _ w673)⟩ ⟨kb_Q, va_recv (ci := 4) (q0 := 21) hK hP rfl rfl, fun U hU hW => ⟨rfl, by rw [hU], by rw [hU]; exact hPc, hKK.moved hW, hDc.weaken (fun _ _ _ _ => trivial)⟩⟩ rfl rfl hl.1 rfl (lv_room (Nat.le_of_ble_eq_true rfl)) dL_law_136 ⟨Nat.le_of_ble_eq_true rfl, Nat.le_of_ble_eq_true rfl⟩) hS (fun q _ h => hFc q h) hFc (fun r3 u4 t H1 locs ht hvm he9 hB hz1 hk1 hS => ?_)
    obtain ⟨hP1, hD1⟩ := hB
    rw [ht] at hP1
    obtain ⟨hP, hD⟩ := va_join (wr := [((u 1), .inl (cI, 384, .inl W0)), ((u 2), .inr (1, [.ref (u 3), .ref (u 4), .int 0])), ((u 3), .inl (cZ, 64, .inl (fun _ => 0))), ((u 4), .inl (cI, 64, .inl (fun _ => 0))), ((u 5), .inl (cI, 64, .inl (fun _ => 0))), ((u 6), .inl (cT, 3, .inr (.inr (.inr (.inr (tF (u 7) (u 12) (u 17))))))), ((u 7), .inr (2, [.ref (u 8), .ref (u 11), .int 0, .int 0, .int 0])), ((u 8), .inr (1, [.ref (u 9), .ref (u 10), .int 0])), ((u 9), .inl (cZ, 64, .inl (fun _ => 0))), ((u 10), .inl (cI, 64, .inl (fun _ => 0))), ((u 11), .inl (cZ, 64, .inl (fun _ => 0))), ((u 12), .inr (2, [.ref (u 13), .ref (u 16), .int 0, .int 0, .int 0])), ((u 13), .inr (1, [.ref (u 14), .ref (u 15), .int 0])), ((u 14), .inl (cZ, 64, .inl (fun _ => 0))), ((u 15), .inl (cI, 64, .inl (fun _ => 0))), ((u 16), .inl (cZ, 64, .inl (fun _ => 0))), ((u 17), .inr (2, [.ref (u 18), .ref (u 21), .int 0, .int 0, .int 0])), ((u 18), .inr (1, [.ref (u 19), .ref (u 20), .int 0])), ((u 19), .inl (cZ, 64, .inl (fun _ => 0))), ((u 20), .inl (cI, 64, .inl (fun _ => 0))), ((u 21), .inl (cZ, 64, .inl (fun _ => 0))), ((v 0), .inl (cI, 384, .inl MW0)), ((v 1), .inl (cZ, 64, .inl (fun _ => 0))), ((v 2), .inl (cI, 64, .inl (fun _ => 0))), ((v 3), .inl (cI, 64, .inl (fun _ => 0))), ((v 5), .inl (cI, 3, .inl (fun _ => 0))), ((v 6), .inl (cZ, 192, .inl (fun _ => 0))), ((v 7), .inl (cI, 192, .inl (fun _ => 0))), ((v 8), .inl (cI, 192, .inl (fun _ => 0))), ((v 9), .inl (cI, 192, .inl (fun _ => 0))), (o9, .inl (cJ, 1, .inr (.inl (fun _ => 0))))]) (w1 := [(m0, .inr (4, [.int 2, .ref (v 0), .int 0, .int (-1), .int 0, .ref (v 1), .ref (v 2), .ref (v 3), .int 0, .int 1, .int 0, .int 0, .ref (v 4), .ref (v 5), .ref (v 6), .ref (v 7), .ref (v 8), .ref (v 9)]))]) hP hD [21, 26] [0, 1, 2, 3, 4, 5, 6, 7, 8, 9, 10, 11, 12, 13, 14, 15, 16, 17, 18, 19, 20, 22, 23, 24, 25, 27, 28, 29, 30, 31, 32] rfl rfl (by decide) (by decide) hk1 hFc hP1 hD1
    generalize H1 = H at hP hS ⊢
    have hP : va_P (dC, dI) vwC [((u 1), .inl (cI, 384, .inl W0)), ((u 2), .inr (1, [.ref (u 3), .ref (u 4), .int 0])), ((u 3), .inl (cZ, 64, .inl (fun _ => 0))), ((u 4), .inl (cI, 64, .inl (fun _ => 0))), ((u 5), .inl (cI, 64, .inl (fun _ => 0))), ((u 6), .inl (cT, 3, .inr (.inr (.inr (.inr (tF (u 7) (u 12) (u 17))))))), ((u 7), .inr (2, [.ref (u 8), .ref (u 11), .int 0, .int 0, .int 0])), ((u 8), .inr (1, [.ref (u 9), .ref (u 10), .int 0])), ((u 9), .inl (cZ, 64, .inl (fun _ => 0))), ((u 10), .inl (cI, 64, .inl (fun _ => 0))), ((u 11), .inl (cZ, 64, .inl (fun _ => 0))), ((u 12), .inr (2, [.ref (u 13), .ref (u 16), .int 0, .int 0, .int 0])), ((u 13), .inr (1, [.ref (u 14), .ref (u 15), .int 0])), ((u 14), .inl (cZ, 64, .inl (fun _ => 0))), ((u 15), .inl (cI, 64, .inl (fun _ => 0))), ((u 16), .inl (cZ, 64, .inl (fun _ => 0))), ((u 17), .inr (2, [.ref (u 18), .ref (u 21), .int 0, .int 0, .int 0])), ((u 18), .inr (1, [.ref (u 19), .ref (u 20), .int 0])), ((u 19), .inl (cZ, 64, .inl (fun _ => 0))), ((u 20), .inl (cI, 64, .inl (fun _ => 0))), ((u 21), .inl (cZ, 64, .inl (fun _ => 0))), ((v 0), .inl (cI, 384, .inl MW0)), ((v 1), .inl (cZ, 64, .inl (fun _ => 0))), ((v 2), .inl (cI, 64, .inl (fun _ => 0))), ((v 3), .inl (cI, 64, .inl (fun _ => 0))), ((v 5), .inl (cI, 3, .inl (fun _ => 0))), ((v 6), .inl (cZ, 192, .inl (fun _ => 0))), ((v 7), .inl (cI, 192, .inl (fun _ => 0))), ((v 8), .inl (cI, 192, .inl (fun _ => 0))), ((v 9), .inl (cI, 192, .inl (fun _ => 0))), (o9, .inl (cJ, 1, .inr (.inl (fun _ => 0)))), (m0, .inr (4, [.int 2, .ref (v 0), .int 0, .int (-1), .int 0, .ref (v 1), .ref (v 2), .ref (v 3), .int 0, .int 1, .int 0, .int 0, .ref (v 4), .ref (v 5), .ref (v 6), .ref (v 7), .ref (v 8), .ref (v 9)]))] H := hP
    have hD : va_D A [((u 1), .inl (cI, 384, .inl W0)), ((u 2), .inr (1, [.ref (u 3), .ref (u 4), .int 0])), ((u 3), .inl (cZ, 64, .inl (fun _ => 0))), ((u 4), .inl (cI, 64, .inl (fun _ => 0))), ((u 5), .inl (cI, 64, .inl (fun _ => 0))), ((u 6), .inl (cT, 3, .inr (.inr (.inr (.inr (tF (u 7) (u 12) (u 17))))))), ((u 7), .inr (2, [.ref (u 8), .ref (u 11), .int 0, .int 0, .int 0])), ((u 8), .inr (1, [.ref (u 9), .ref (u 10), .int 0])), ((u 9), .inl (cZ, 64, .inl (fun _ => 0))), ((u 10), .inl (cI, 64, .inl (fun _ => 0))), ((u 11), .inl (cZ, 64, .inl (fun _ => 0))), ((u 12), .inr (2, [.ref (u 13), .ref (u 16), .int 0, .int 0, .int 0])), ((u 13), .inr (1, [.ref (u 14), .ref (u 15), .int 0])), ((u 14), .inl (cZ, 64, .inl (fun _ => 0))), ((u 15), .inl (cI, 64, .inl (fun _ => 0))), ((u 16), .inl (cZ, 64, .inl (fun _ => 0))), ((u 17), .inr (2, [.ref (u 18), .ref (u 21), .int 0, .int 0, .int 0])), ((u 18), .inr (1, [.ref (u 19), .ref (u 20), .int 0])), ((u 19), .inl (cZ, 64, .inl (fun _ => 0))), ((u 20), .inl (cI, 64, .inl (fun _ => 0))), ((u 21), .inl (cZ, 64, .inl (fun _ => 0))), ((v 0), .inl (cI, 384, .inl MW0)), ((v 1), .inl (cZ, 64, .inl (fun _ => 0))), ((v 2), .inl (cI, 64, .inl (fun _ => 0))), ((v 3), .inl (cI, 64, .inl (fun _ => 0))), ((v 5), .inl (cI, 3, .inl (fun _ => 0))), ((v 6), .inl (cZ, 192, .inl (fun _ => 0))), ((v 7), .inl (cI, 192, .inl (fun _ => 0))), ((v 8), .inl (cI, 192, .inl (fun _ => 0))), ((v 9), .inl (cI, 192, .inl (fun _ => 0))), (o9, .inl (cJ, 1, .inr (.inl (fun _ => 0)))), (m0, .inr (4, [.int 2, .ref (v 0), .int 0, .int (-1), .int 0, .ref (v 1), .ref (v 2), .ref (v 3), .int 0, .int 1, .int 0, .int 0, .ref (v 4), .ref (v 5), .ref (v 6), .ref (v 7), .ref (v 8), .ref (v 9)]))] := hD
    obtain rfl : r3 = 0 := he9
    refine lv_istore hx hb dL_law_139 hl (by decide) rfl (fun ls hl => ?_)
    have hl : lv_has ls 7 [(6, .int 0), (5, .int 2), (4, .int 0), (3, .ref o9), (2, .ref m0), (1, .ref x), (0, .ref b)] := hl
    refine lv_aload_n hx hb dL_law_141 rfl (lv_at hl 4 rfl) ?_
    have hPc := hP.sub (ws' := [(m0, .inr (4, [.int 2, .ref (v 0), .int 0, .int (-1), .int 0, .ref (v 1), .ref (v 2), .ref (v 3), .int 0, .int 1, .int 0, .int 0, .ref (v 4), .ref (v 5), .ref (v 6), .ref (v 7), .ref (v 8), .ref (v 9)]))]) [31] rfl
    refine vp_callSi (W.runV (C := "LoggedStoreModel") (b := m0) (As := []) (rest := []) ⟨hx, hb, hml, hown, hw⟩ (c_thrown l dC dI cI cZ cJ cT m0 (v 0) (v 1) (v 2) (v 3) (v 4) (v 5) (v 6) (v 7) (v 8) (v 9) 2) ⟨callB_of 0 hw (gA0 w670) rfl rfl rfl (hw _ w45) (hw _ w667) (by decide +kernel) ⟨Nat.le_of_ble_eq_true rfl, Nat.le_of_ble_eq_true rfl⟩, (hw _ w668), (hw _ w669)⟩ ⟨kb_S, va_recv (ci := 4) (q0 := 31) hK hP rfl rfl, fun U hU hW => ⟨rfl, by rw [hU]; exact hPc, hKK.moved hW⟩⟩ rfl rfl hl.1 rfl (lv_room (Nat.le_of_ble_eq_true rfl)) dL_law_142 ⟨Nat.le_of_ble_eq_true rfl, Nat.le_of_ble_eq_true rfl⟩) (fun r5 e6 => ?_)
    obtain rfl : r5 = 2 := e6
    refine lv_iload hx hb dL_law_145 (lv_at hl 1 rfl) ?_
    refine lv_icmp_eq (tgt := 152) hx hb dL_law_147 (by decide) (fun _ => ?_) (fun h9 => absurd (by decide) h9)
    refine lv_iload hx hb dL_law_152 (lv_at hl 1 rfl) ?_
    refine lv_if_ne (tgt := 169) hx hb dL_law_154 (by decide) (fun _ => ?_) (fun h9 => absurd h9 (by decide))
    refine lv_goto (tgt := 885) hx hb dL_law_169 (by decide) ?_
    have hl := lv_sub (l' := [(4, .int 0), (0, .ref b)]) hl [2, 6] rfl
    exact law_end l hl9 C00 hKK hX hX2 hAe (by decide) (by decide) hS hl
  · refine lv_aload_n hx hb dL_law_116 rfl (lv_at hl 3 rfl) ?_
    refine lv_aload_n hx hb dL_law_117 rfl (lv_at hl 4 rfl) ?_
    refine lv_iload hx hb dL_law_118 (lv_at hl 0 rfl) ?_
    refine lv_iconst (v := 1) hx hb dL_law_120 (by decide) ?_
    refine lv_iadd hx hb dL_law_121 ?_
    refine lv_topi (nm_r (e' := 1) (by decide +kernel) ?_)
    refine va_sld hx hb hXs hbl hbA hS (tv_in (by decide +kernel)) dL_law_122 ?_
    refine lv_topi (nm_r (e' := xs 1) (congrArg xs (by decide +kernel : (1 : Int32).toNatClampNeg = 1)) ?_)
    refine lv_aload_n hx hb dL_law_123 rfl (lv_at hl 1 rfl) ?_
    have hPc := hP.sub (ws' := [(x, .inr (3, [.ref (u 0), .ref (u 2), .ref (u 5), .ref (u 6), .int 0, .int 1, .int 0, .int 22])), ((u 0), .inr (0, [.ref (u 1), .int (-1), .int 0, .int 0]))]) [0, 1] rfl
    have hDc := hD.sub (ws' := [(x, .inr (3, [.ref (u 0), .ref (u 2), .ref (u 5), .ref (u 6), .int 0, .int 1, .int 0, .int 22])), ((u 0), .inr (0, [.ref (u 1), .int (-1), .int 0, .int 0]))]) [0, 1] (by decide) rfl
    have hFc := va_free (wc := [(x, .inr (3, [.ref (u 0), .ref (u 2), .ref (u 5), .ref (u 6), .int 0, .int 1, .int 0, .int 22])), ((u 0), .inr (0, [.ref (u 1), .int (-1), .int 0, .int 0]))]) hD hS hA [0, 1] rfl
    refine va_calli (tx_runW (As := [.ref x, .int (xs 1), .ref o9]) (rest := []) ⟨hx, hb, hml, hown, hw⟩ (h_begin_x l dC dI cI cZ cJ cT hl9 x (u 0) (u 1) (u 2) (u 5) (u 6) (xs 1) o9 H.size (Or.inr ⟨h1, h2⟩)) (tx_cw 3 hw (gA0 w281) rfl rfl rfl (hw _ w39) (hw _ w279) (hw _ w280) (by decide +kernel) ⟨Nat.le_of_ble_eq_true rfl, Nat.le_of_ble_eq_true rfl⟩) ⟨kb_W, fun U hU hW => ⟨rfl, by rw [hU], by rw [hU]; exact hPc, hKK.moved hW, hX.moved hW (by rw [hU]; exact hst), hDc.weaken (fun _ _ _ _ => trivial)⟩⟩ rfl rfl hl.1 rfl (lv_room (Nat.le_of_ble_eq_true rfl)) dL_law_124 ⟨Nat.le_of_ble_eq_true rfl, Nat.le_of_ble_eq_true rfl⟩) hS (fun q _ h => hFc q h) hFc (fun r1 u2 t H1 locs ht hvm he9 hB hz1 hk1 hS => ?_)
    obtain ⟨hP, hD⟩ := va_join (wr := [((u 1), .inl (cI, 384, .inl W0)), ((u 2), .inr (1, [.ref (u 3), .ref (u 4), .int 0])), ((u 3), .inl (cZ, 64, .inl (fun _ => 0))), ((u 4), .inl (cI, 64, .inl (fun _ => 0))), ((u 5), .inl (cI, 64, .inl (fun _ => 0))), ((u 6), .inl (cT, 3, .inr (.inr (.inr (.inr (tF (u 7) (u 12) (u 17))))))), ((u 7), .inr (2, [.ref (u 8), .ref (u 11), .int 0, .int 0, .int 0])), ((u 8), .inr (1, [.ref (u 9), .ref (u 10), .int 0])), ((u 9), .inl (cZ, 64, .inl (fun _ => 0))), ((u 10), .inl (cI, 64, .inl (fun _ => 0))), ((u 11), .inl (cZ, 64, .inl (fun _ => 0))), ((u 12), .inr (2, [.ref (u 13), .ref (u 16), .int 0, .int 0, .int 0])), ((u 13), .inr (1, [.ref (u 14), .ref (u 15), .int 0])), ((u 14), .inl (cZ, 64, .inl (fun _ => 0))), ((u 15), .inl (cI, 64, .inl (fun _ => 0))), ((u 16), .inl (cZ, 64, .inl (fun _ => 0))), ((u 17), .inr (2, [.ref (u 18), .ref (u 21), .int 0, .int 0, .int 0])), ((u 18), .inr (1, [.ref (u 19), .ref (u 20), .int 0])), ((u 19), .inl (cZ, 64, .inl (fun _ => 0))), ((u 20), .inl (cI, 64, .inl (fun _ => 0))), ((u 21), .inl (cZ, 64, .inl (fun _ => 0))), (m0, .inr (4, [.int 0, .ref (v 0), .int 0, .int (-1), .int 0, .ref (v 1), .ref (v 2), .ref (v 3), .int 0, .int 1, .int 0, .int 0, .ref (v 4), .ref (v 5), .ref (v 6), .ref (v 7), .ref (v 8), .ref (v 9)])), ((v 0), .inl (cI, 384, .inl MW0)), ((v 1), .inl (cZ, 64, .inl (fun _ => 0))), ((v 2), .inl (cI, 64, .inl (fun _ => 0))), ((v 3), .inl (cI, 64, .inl (fun _ => 0))), ((v 4), .inl (cZ, 3, .inl (fun _ => 0))), ((v 5), .inl (cI, 3, .inl (fun _ => 0))), ((v 6), .inl (cZ, 192, .inl (fun _ => 0))), ((v 7), .inl (cI, 192, .inl (fun _ => 0))), ((v 8), .inl (cI, 192, .inl (fun _ => 0))), ((v 9), .inl (cI, 192, .inl (fun _ => 0))), (o9, .inl (cJ, 1, .inr (.inl (fun _ => 0))))]) (w1 := []) hP hD [0, 1] [2, 3, 4, 5, 6, 7, 8, 9, 10, 11, 12, 13, 14, 15, 16, 17, 18, 19, 20, 21, 22, 23, 24, 25, 26, 27, 28, 29, 30, 31, 32, 33, 34] rfl rfl (by decide) (by decide) hk1 hFc tk_P0 tk_D0
    generalize H1 = H at hP hS ⊢
    have hP : va_P (dC, dI) vwC [((u 1), .inl (cI, 384, .inl W0)), ((u 2), .inr (1, [.ref (u 3), .ref (u 4), .int 0])), ((u 3), .inl (cZ, 64, .inl (fun _ => 0))), ((u 4), .inl (cI, 64, .inl (fun _ => 0))), ((u 5), .inl (cI, 64, .inl (fun _ => 0))), ((u 6), .inl (cT, 3, .inr (.inr (.inr (.inr (tF (u 7) (u 12) (u 17))))))), ((u 7), .inr (2, [.ref (u 8), .ref (u 11), .int 0, .int 0, .int 0])), ((u 8), .inr (1, [.ref (u 9), .ref (u 10), .int 0])), ((u 9), .inl (cZ, 64, .inl (fun _ => 0))), ((u 10), .inl (cI, 64, .inl (fun _ => 0))), ((u 11), .inl (cZ, 64, .inl (fun _ => 0))), ((u 12), .inr (2, [.ref (u 13), .ref (u 16), .int 0, .int 0, .int 0])), ((u 13), .inr (1, [.ref (u 14), .ref (u 15), .int 0])), ((u 14), .inl (cZ, 64, .inl (fun _ => 0))), ((u 15), .inl (cI, 64, .inl (fun _ => 0))), ((u 16), .inl (cZ, 64, .inl (fun _ => 0))), ((u 17), .inr (2, [.ref (u 18), .ref (u 21), .int 0, .int 0, .int 0])), ((u 18), .inr (1, [.ref (u 19), .ref (u 20), .int 0])), ((u 19), .inl (cZ, 64, .inl (fun _ => 0))), ((u 20), .inl (cI, 64, .inl (fun _ => 0))), ((u 21), .inl (cZ, 64, .inl (fun _ => 0))), (m0, .inr (4, [.int 0, .ref (v 0), .int 0, .int (-1), .int 0, .ref (v 1), .ref (v 2), .ref (v 3), .int 0, .int 1, .int 0, .int 0, .ref (v 4), .ref (v 5), .ref (v 6), .ref (v 7), .ref (v 8), .ref (v 9)])), ((v 0), .inl (cI, 384, .inl MW0)), ((v 1), .inl (cZ, 64, .inl (fun _ => 0))), ((v 2), .inl (cI, 64, .inl (fun _ => 0))), ((v 3), .inl (cI, 64, .inl (fun _ => 0))), ((v 4), .inl (cZ, 3, .inl (fun _ => 0))), ((v 5), .inl (cI, 3, .inl (fun _ => 0))), ((v 6), .inl (cZ, 192, .inl (fun _ => 0))), ((v 7), .inl (cI, 192, .inl (fun _ => 0))), ((v 8), .inl (cI, 192, .inl (fun _ => 0))), ((v 9), .inl (cI, 192, .inl (fun _ => 0))), (o9, .inl (cJ, 1, .inr (.inl (fun _ => 0))))] H := hP
    have hD : va_D A [((u 1), .inl (cI, 384, .inl W0)), ((u 2), .inr (1, [.ref (u 3), .ref (u 4), .int 0])), ((u 3), .inl (cZ, 64, .inl (fun _ => 0))), ((u 4), .inl (cI, 64, .inl (fun _ => 0))), ((u 5), .inl (cI, 64, .inl (fun _ => 0))), ((u 6), .inl (cT, 3, .inr (.inr (.inr (.inr (tF (u 7) (u 12) (u 17))))))), ((u 7), .inr (2, [.ref (u 8), .ref (u 11), .int 0, .int 0, .int 0])), ((u 8), .inr (1, [.ref (u 9), .ref (u 10), .int 0])), ((u 9), .inl (cZ, 64, .inl (fun _ => 0))), ((u 10), .inl (cI, 64, .inl (fun _ => 0))), ((u 11), .inl (cZ, 64, .inl (fun _ => 0))), ((u 12), .inr (2, [.ref (u 13), .ref (u 16), .int 0, .int 0, .int 0])), ((u 13), .inr (1, [.ref (u 14), .ref (u 15), .int 0])), ((u 14), .inl (cZ, 64, .inl (fun _ => 0))), ((u 15), .inl (cI, 64, .inl (fun _ => 0))), ((u 16), .inl (cZ, 64, .inl (fun _ => 0))), ((u 17), .inr (2, [.ref (u 18), .ref (u 21), .int 0, .int 0, .int 0])), ((u 18), .inr (1, [.ref (u 19), .ref (u 20), .int 0])), ((u 19), .inl (cZ, 64, .inl (fun _ => 0))), ((u 20), .inl (cI, 64, .inl (fun _ => 0))), ((u 21), .inl (cZ, 64, .inl (fun _ => 0))), (m0, .inr (4, [.int 0, .ref (v 0), .int 0, .int (-1), .int 0, .ref (v 1), .ref (v 2), .ref (v 3), .int 0, .int 1, .int 0, .int 0, .ref (v 4), .ref (v 5), .ref (v 6), .ref (v 7), .ref (v 8), .ref (v 9)])), ((v 0), .inl (cI, 384, .inl MW0)), ((v 1), .inl (cZ, 64, .inl (fun _ => 0))), ((v 2), .inl (cI, 64, .inl (fun _ => 0))), ((v 3), .inl (cI, 64, .inl (fun _ => 0))), ((v 4), .inl (cZ, 3, .inl (fun _ => 0))), ((v 5), .inl (cI, 3, .inl (fun _ => 0))), ((v 6), .inl (cZ, 192, .inl (fun _ => 0))), ((v 7), .inl (cI, 192, .inl (fun _ => 0))), ((v 8), .inl (cI, 192, .inl (fun _ => 0))), ((v 9), .inl (cI, 192, .inl (fun _ => 0))), (o9, .inl (cJ, 1, .inr (.inl (fun _ => 0))))] := hD
    obtain rfl : r1 = 2 := he9
    refine lv_istore hx hb dL_law_127 hl (by decide) rfl (fun ls hl => ?_)
    have hl : lv_has ls 7 [(5, .int 2), (4, .int 0), (3, .ref o9), (2, .ref m0), (1, .ref x), (0, .ref b)] := hl
    refine lv_aload_n hx hb dL_law_129 rfl (lv_at hl 3 rfl) ?_
    refine lv_aload_n hx hb dL_law_130 rfl (lv_at hl 5 rfl) ?_
    refine lv_iload hx hb dL_law_131 (lv_at hl 1 rfl) ?_
    refine lv_iconst (v := 1) hx hb dL_law_133 (by decide) ?_
    refine lv_iadd hx hb dL_law_134 ?_
    refine lv_topi (nm_r (e' := 1) (by decide +kernel) ?_)
    refine va_sld hx hb hXs hbl hbA hS (tv_in (by decide +kernel)) dL_law_135 ?_
    refine lv_topi (nm_r (e' := xs 1) (congrArg xs (by decide +kernel : (1 : Int32).toNatClampNeg = 1)) ?_)
    have hPc := hP.sub (ws' := [(m0, .inr (4, [.int 0, .ref (v 0), .int 0, .int (-1), .int 0, .ref (v 1), .ref (v 2), .ref (v 3), .int 0, .int 1, .int 0, .int 0, .ref (v 4), .ref (v 5), .ref (v 6), .ref (v 7), .ref (v 8), .ref (v 9)])), ((v 4), .inl (cZ, 3, .inl (fun _ => 0)))]) [21, 26] rfl
    have hDc := hD.sub (ws' := [(m0, .inr (4, [.int 0, .ref (v 0), .int 0, .int (-1), .int 0, .ref (v 1), .ref (v 2), .ref (v 3), .int 0, .int 1, .int 0, .int 0, .ref (v 4), .ref (v 5), .ref (v 6), .ref (v 7), .ref (v 8), .ref (v 9)])), ((v 4), .inl (cZ, 3, .inl (fun _ => 0)))]) [21, 26] (by decide) rfl
    have hFc := va_free (wc := [(m0, .inr (4, [.int 0, .ref (v 0), .int 0, .int (-1), .int 0, .ref (v 1), .ref (v 2), .ref (v 3), .int 0, .int 1, .int 0, .int 0, .ref (v 4), .ref (v 5), .ref (v 6), .ref (v 7), .ref (v 8), .ref (v 9)])), ((v 4), .inl (cZ, 3, .inl (fun _ => 0)))]) hD hS hA [21, 26] rfl
    refine va_calli (va_runV (C := "LoggedStoreModel") (b := m0) (As := [.int (xs 1)]) (rest := []) ⟨hx, hb, hml, hown, hw⟩ (c_M_begin_x l dC dI cI cZ cJ cT m0 (v 0) (v 1) (v 2) (v 3) (v 4) (v 5) (v 6) (v 7) (v 8) (v 9) (xs 1) H.size (Or.inr ⟨h1, h3⟩)) ⟨callB_of 1 hw (gA0 w674) rfl rfl rfl (hw _ w45) (hw _ w671) (by decide +kernel) ⟨Nat.le_of_ble_eq_true rfl, Nat.le_of_ble_eq_true rfl⟩, (hw _ w672), (hw _ w673)⟩ ⟨kb_Q, va_recv (ci := 4) (q0 := 21) hK hP rfl rfl, fun U hU hW => ⟨rfl, by rw [hU], by rw [hU]; exact hPc, hKK.moved hW, hDc.weaken (fun _ _ _ _ => trivial)⟩⟩ rfl rfl hl.1 rfl (lv_room (Nat.le_of_ble_eq_true rfl)) dL_law_136 ⟨Nat.le_of_ble_eq_true rfl, Nat.le_of_ble_eq_true rfl⟩) hS (fun q _ h => hFc q h) hFc (fun r3 u4 t H1 locs ht hvm he9 hB hz1 hk1 hS => ?_)
    obtain ⟨hP1, hD1⟩ := hB
    rw [ht] at hP1
    obtain ⟨hP, hD⟩ := va_join (wr := [((u 1), .inl (cI, 384, .inl W0)), ((u 2), .inr (1, [.ref (u 3), .ref (u 4), .int 0])), ((u 3), .inl (cZ, 64, .inl (fun _ => 0))), ((u 4), .inl (cI, 64, .inl (fun _ => 0))), ((u 5), .inl (cI, 64, .inl (fun _ => 0))), ((u 6), .inl (cT, 3, .inr (.inr (.inr (.inr (tF (u 7) (u 12) (u 17))))))), ((u 7), .inr (2, [.ref (u 8), .ref (u 11), .int 0, .int 0, .int 0])), ((u 8), .inr (1, [.ref (u 9), .ref (u 10), .int 0])), ((u 9), .inl (cZ, 64, .inl (fun _ => 0))), ((u 10), .inl (cI, 64, .inl (fun _ => 0))), ((u 11), .inl (cZ, 64, .inl (fun _ => 0))), ((u 12), .inr (2, [.ref (u 13), .ref (u 16), .int 0, .int 0, .int 0])), ((u 13), .inr (1, [.ref (u 14), .ref (u 15), .int 0])), ((u 14), .inl (cZ, 64, .inl (fun _ => 0))), ((u 15), .inl (cI, 64, .inl (fun _ => 0))), ((u 16), .inl (cZ, 64, .inl (fun _ => 0))), ((u 17), .inr (2, [.ref (u 18), .ref (u 21), .int 0, .int 0, .int 0])), ((u 18), .inr (1, [.ref (u 19), .ref (u 20), .int 0])), ((u 19), .inl (cZ, 64, .inl (fun _ => 0))), ((u 20), .inl (cI, 64, .inl (fun _ => 0))), ((u 21), .inl (cZ, 64, .inl (fun _ => 0))), ((v 0), .inl (cI, 384, .inl MW0)), ((v 1), .inl (cZ, 64, .inl (fun _ => 0))), ((v 2), .inl (cI, 64, .inl (fun _ => 0))), ((v 3), .inl (cI, 64, .inl (fun _ => 0))), ((v 5), .inl (cI, 3, .inl (fun _ => 0))), ((v 6), .inl (cZ, 192, .inl (fun _ => 0))), ((v 7), .inl (cI, 192, .inl (fun _ => 0))), ((v 8), .inl (cI, 192, .inl (fun _ => 0))), ((v 9), .inl (cI, 192, .inl (fun _ => 0))), (o9, .inl (cJ, 1, .inr (.inl (fun _ => 0))))]) (w1 := [(m0, .inr (4, [.int 2, .ref (v 0), .int 0, .int (-1), .int 0, .ref (v 1), .ref (v 2), .ref (v 3), .int 0, .int 1, .int 0, .int 0, .ref (v 4), .ref (v 5), .ref (v 6), .ref (v 7), .ref (v 8), .ref (v 9)]))]) hP hD [21, 26] [0, 1, 2, 3, 4, 5, 6, 7, 8, 9, 10, 11, 12, 13, 14, 15, 16, 17, 18, 19, 20, 22, 23, 24, 25, 27, 28, 29, 30, 31, 32] rfl rfl (by decide) (by decide) hk1 hFc hP1 hD1
    generalize H1 = H at hP hS ⊢
    have hP : va_P (dC, dI) vwC [((u 1), .inl (cI, 384, .inl W0)), ((u 2), .inr (1, [.ref (u 3), .ref (u 4), .int 0])), ((u 3), .inl (cZ, 64, .inl (fun _ => 0))), ((u 4), .inl (cI, 64, .inl (fun _ => 0))), ((u 5), .inl (cI, 64, .inl (fun _ => 0))), ((u 6), .inl (cT, 3, .inr (.inr (.inr (.inr (tF (u 7) (u 12) (u 17))))))), ((u 7), .inr (2, [.ref (u 8), .ref (u 11), .int 0, .int 0, .int 0])), ((u 8), .inr (1, [.ref (u 9), .ref (u 10), .int 0])), ((u 9), .inl (cZ, 64, .inl (fun _ => 0))), ((u 10), .inl (cI, 64, .inl (fun _ => 0))), ((u 11), .inl (cZ, 64, .inl (fun _ => 0))), ((u 12), .inr (2, [.ref (u 13), .ref (u 16), .int 0, .int 0, .int 0])), ((u 13), .inr (1, [.ref (u 14), .ref (u 15), .int 0])), ((u 14), .inl (cZ, 64, .inl (fun _ => 0))), ((u 15), .inl (cI, 64, .inl (fun _ => 0))), ((u 16), .inl (cZ, 64, .inl (fun _ => 0))), ((u 17), .inr (2, [.ref (u 18), .ref (u 21), .int 0, .int 0, .int 0])), ((u 18), .inr (1, [.ref (u 19), .ref (u 20), .int 0])), ((u 19), .inl (cZ, 64, .inl (fun _ => 0))), ((u 20), .inl (cI, 64, .inl (fun _ => 0))), ((u 21), .inl (cZ, 64, .inl (fun _ => 0))), ((v 0), .inl (cI, 384, .inl MW0)), ((v 1), .inl (cZ, 64, .inl (fun _ => 0))), ((v 2), .inl (cI, 64, .inl (fun _ => 0))), ((v 3), .inl (cI, 64, .inl (fun _ => 0))), ((v 5), .inl (cI, 3, .inl (fun _ => 0))), ((v 6), .inl (cZ, 192, .inl (fun _ => 0))), ((v 7), .inl (cI, 192, .inl (fun _ => 0))), ((v 8), .inl (cI, 192, .inl (fun _ => 0))), ((v 9), .inl (cI, 192, .inl (fun _ => 0))), (o9, .inl (cJ, 1, .inr (.inl (fun _ => 0)))), (m0, .inr (4, [.int 2, .ref (v 0), .int 0, .int (-1), .int 0, .ref (v 1), .ref (v 2), .ref (v 3), .int 0, .int 1, .int 0, .int 0, .ref (v 4), .ref (v 5), .ref (v 6), .ref (v 7), .ref (v 8), .ref (v 9)]))] H := hP
    have hD : va_D A [((u 1), .inl (cI, 384, .inl W0)), ((u 2), .inr (1, [.ref (u 3), .ref (u 4), .int 0])), ((u 3), .inl (cZ, 64, .inl (fun _ => 0))), ((u 4), .inl (cI, 64, .inl (fun _ => 0))), ((u 5), .inl (cI, 64, .inl (fun _ => 0))), ((u 6), .inl (cT, 3, .inr (.inr (.inr (.inr (tF (u 7) (u 12) (u 17))))))), ((u 7), .inr (2, [.ref (u 8), .ref (u 11), .int 0, .int 0, .int 0])), ((u 8), .inr (1, [.ref (u 9), .ref (u 10), .int 0])), ((u 9), .inl (cZ, 64, .inl (fun _ => 0))), ((u 10), .inl (cI, 64, .inl (fun _ => 0))), ((u 11), .inl (cZ, 64, .inl (fun _ => 0))), ((u 12), .inr (2, [.ref (u 13), .ref (u 16), .int 0, .int 0, .int 0])), ((u 13), .inr (1, [.ref (u 14), .ref (u 15), .int 0])), ((u 14), .inl (cZ, 64, .inl (fun _ => 0))), ((u 15), .inl (cI, 64, .inl (fun _ => 0))), ((u 16), .inl (cZ, 64, .inl (fun _ => 0))), ((u 17), .inr (2, [.ref (u 18), .ref (u 21), .int 0, .int 0, .int 0])), ((u 18), .inr (1, [.ref (u 19), .ref (u 20), .int 0])), ((u 19), .inl (cZ, 64, .inl (fun _ => 0))), ((u 20), .inl (cI, 64, .inl (fun _ => 0))), ((u 21), .inl (cZ, 64, .inl (fun _ => 0))), ((v 0), .inl (cI, 384, .inl MW0)), ((v 1), .inl (cZ, 64, .inl (fun _ => 0))), ((v 2), .inl (cI, 64, .inl (fun _ => 0))), ((v 3), .inl (cI, 64, .inl (fun _ => 0))), ((v 5), .inl (cI, 3, .inl (fun _ => 0))), ((v 6), .inl (cZ, 192, .inl (fun _ => 0))), ((v 7), .inl (cI, 192, .inl (fun _ => 0))), ((v 8), .inl (cI, 192, .inl (fun _ => 0))), ((v 9), .inl (cI, 192, .inl (fun _ => 0))), (o9, .inl (cJ, 1, .inr (.inl (fun _ => 0)))), (m0, .inr (4, [.int 2, .ref (v 0), .int 0, .int (-1), .int 0, .ref (v 1), .ref (v 2), .ref (v 3), .int 0, .int 1, .int 0, .int 0, .ref (v 4), .ref (v 5), .ref (v 6), .ref (v 7), .ref (v 8), .ref (v 9)]))] := hD
    obtain rfl : r3 = 0 := he9
    refine lv_istore hx hb dL_law_139 hl (by decide) rfl (fun ls hl => ?_)
    have hl : lv_has ls 7 [(6, .int 0), (5, .int 2), (4, .int 0), (3, .ref o9), (2, .ref m0), (1, .ref x), (0, .ref b)] := hl
    refine lv_aload_n hx hb dL_law_141 rfl (lv_at hl 4 rfl) ?_
    have hPc := hP.sub (ws' := [(m0, .inr (4, [.int 2, .ref (v 0), .int 0, .int (-1), .int 0, .ref (v 1), .ref (v 2), .ref (v 3), .int 0, .int 1, .int 0, .int 0, .ref (v 4), .ref (v 5), .ref (v 6), .ref (v 7), .ref (v 8), .ref (v 9)]))]) [31] rfl
    refine vp_callSi (W.runV (C := "LoggedStoreModel") (b := m0) (As := []) (rest := []) ⟨hx, hb, hml, hown, hw⟩ (c_thrown l dC dI cI cZ cJ cT m0 (v 0) (v 1) (v 2) (v 3) (v 4) (v 5) (v 6) (v 7) (v 8) (v 9) 2) ⟨callB_of 0 hw (gA0 w670) rfl rfl rfl (hw _ w45) (hw _ w667) (by decide +kernel) ⟨Nat.le_of_ble_eq_true rfl, Nat.le_of_ble_eq_true rfl⟩, (hw _ w668), (hw _ w669)⟩ ⟨kb_S, va_recv (ci := 4) (q0 := 31) hK hP rfl rfl, fun U hU hW => ⟨rfl, by rw [hU]; exact hPc, hKK.moved hW⟩⟩ rfl rfl hl.1 rfl (lv_room (Nat.le_of_ble_eq_true rfl)) dL_law_142 ⟨Nat.le_of_ble_eq_true rfl, Nat.le_of_ble_eq_true rfl⟩) (fun r5 e6 => ?_)
    obtain rfl : r5 = 2 := e6
    refine lv_iload hx hb dL_law_145 (lv_at hl 1 rfl) ?_
    refine lv_icmp_eq (tgt := 152) hx hb dL_law_147 (by decide) (fun _ => ?_) (fun h9 => absurd (by decide) h9)
    refine lv_iload hx hb dL_law_152 (lv_at hl 1 rfl) ?_
    refine lv_if_ne (tgt := 169) hx hb dL_law_154 (by decide) (fun _ => ?_) (fun h9 => absurd h9 (by decide))
    refine lv_goto (tgt := 885) hx hb dL_law_169 (by decide) ?_
    have hl := lv_sub (l' := [(4, .int 0), (0, .ref b)]) hl [2, 6] rfl
    exact law_end l hl9 C00 hKK hX hX2 hAe (by decide) (by decide) hS hl
  · refine lv_aload_n hx hb dL_law_116 rfl (lv_at hl 3 rfl) ?_
    refine lv_aload_n hx hb dL_law_117 rfl (lv_at hl 4 rfl) ?_
    refine lv_iload hx hb dL_law_118 (lv_at hl 0 rfl) ?_
    refine lv_iconst (v := 1) hx hb dL_law_120 (by decide) ?_
    refine lv_iadd hx hb dL_law_121 ?_
    refine lv_topi (nm_r (e' := 1) (by decide +kernel) ?_)
    refine va_sld hx hb hXs hbl hbA hS (tv_in (by decide +kernel)) dL_law_122 ?_
    refine lv_topi (nm_r (e' := 0) ((congrArg xs (by decide +kernel : (1 : Int32).toNatClampNeg = 1)).trans (h1)) ?_)
    refine lv_aload_n hx hb dL_law_123 rfl (lv_at hl 1 rfl) ?_
    have hPc := hP.sub (ws' := [(x, .inr (3, [.ref (u 0), .ref (u 2), .ref (u 5), .ref (u 6), .int 0, .int 1, .int 0, .int 22])), ((u 0), .inr (0, [.ref (u 1), .int (-1), .int 0, .int 0])), ((u 2), .inr (1, [.ref (u 3), .ref (u 4), .int 0])), ((u 3), .inl (cZ, 64, .inl (fun _ => 0))), ((u 4), .inl (cI, 64, .inl (fun _ => 0))), ((u 6), .inl (cT, 3, .inr (.inr (.inr (.inr (tF (u 7) (u 12) (u 17))))))), ((u 7), .inr (2, [.ref (u 8), .ref (u 11), .int 0, .int 0, .int 0])), ((u 8), .inr (1, [.ref (u 9), .ref (u 10), .int 0])), ((u 9), .inl (cZ, 64, .inl (fun _ => 0))), ((u 10), .inl (cI, 64, .inl (fun _ => 0))), ((u 11), .inl (cZ, 64, .inl (fun _ => 0))), (o9, .inl (cJ, 1, .inr (.inl (fun _ => 0))))]) [0, 1, 3, 4, 5, 7, 8, 9, 10, 11, 12, 34] rfl
    have hDc := hD.sub (ws' := [(x, .inr (3, [.ref (u 0), .ref (u 2), .ref (u 5), .ref (u 6), .int 0, .int 1, .int 0, .int 22])), ((u 0), .inr (0, [.ref (u 1), .int (-1), .int 0, .int 0])), ((u 2), .inr (1, [.ref (u 3), .ref (u 4), .int 0])), ((u 3), .inl (cZ, 64, .inl (fun _ => 0))), ((u 4), .inl (cI, 64, .inl (fun _ => 0))), ((u 6), .inl (cT, 3, .inr (.inr (.inr (.inr (tF (u 7) (u 12) (u 17))))))), ((u 7), .inr (2, [.ref (u 8), .ref (u 11), .int 0, .int 0, .int 0])), ((u 8), .inr (1, [.ref (u 9), .ref (u 10), .int 0])), ((u 9), .inl (cZ, 64, .inl (fun _ => 0))), ((u 10), .inl (cI, 64, .inl (fun _ => 0))), ((u 11), .inl (cZ, 64, .inl (fun _ => 0))), (o9, .inl (cJ, 1, .inr (.inl (fun _ => 0))))]) [0, 1, 3, 4, 5, 7, 8, 9, 10, 11, 12, 34] (by decide) rfl
    have hFc := va_free (wc := [(x, .inr (3, [.ref (u 0), .ref (u 2), .ref (u 5), .ref (u 6), .int 0, .int 1, .int 0, .int 22])), ((u 0), .inr (0, [.ref (u 1), .int (-1), .int 0, .int 0])), ((u 2), .inr (1, [.ref (u 3), .ref (u 4), .int 0])), ((u 3), .inl (cZ, 64, .inl (fun _ => 0))), ((u 4), .inl (cI, 64, .inl (fun _ => 0))), ((u 6), .inl (cT, 3, .inr (.inr (.inr (.inr (tF (u 7) (u 12) (u 17))))))), ((u 7), .inr (2, [.ref (u 8), .ref (u 11), .int 0, .int 0, .int 0])), ((u 8), .inr (1, [.ref (u 9), .ref (u 10), .int 0])), ((u 9), .inl (cZ, 64, .inl (fun _ => 0))), ((u 10), .inl (cI, 64, .inl (fun _ => 0))), ((u 11), .inl (cZ, 64, .inl (fun _ => 0))), (o9, .inl (cJ, 1, .inr (.inl (fun _ => 0))))]) hD hS hA [0, 1, 3, 4, 5, 7, 8, 9, 10, 11, 12, 34] rfl
    refine va_calli (tx_runW (As := [.ref x, .int 0, .ref o9]) (rest := []) ⟨hx, hb, hml, hown, hw⟩ (h_begin_0 l dC dI cI cZ cJ cT x (u 0) (u 1) (u 2) (u 3) (u 4) (u 5) (u 6) (u 7) (u 8) (u 9) (u 10) (u 11) (u 12) (u 13) (u 14) (u 15) (u 16) (u 17) (u 18) (u 19) (u 20) (u 21) o9 H.size) (tx_cw 3 hw (gA0 w281) rfl rfl rfl (hw _ w39) (hw _ w279) (hw _ w280) (by decide +kernel) ⟨Nat.le_of_ble_eq_true rfl, Nat.le_of_ble_eq_true rfl⟩) ⟨kb_Q, fun U hU hW => ⟨rfl, by rw [hU], by rw [hU]; exact hPc, hKK.moved hW, hDc.weaken (fun _ _ _ _ => trivial)⟩⟩ rfl rfl hl.1 rfl (lv_room (Nat.le_of_ble_eq_true rfl)) dL_law_124 ⟨Nat.le_of_ble_eq_true rfl, Nat.le_of_ble_eq_true rfl⟩) hS (fun q _ h => hFc q h) hFc (fun r1 u2 t H1 locs ht hvm he9 hB hz1 hk1 hS => ?_)
    obtain ⟨hP1, hD1⟩ := hB
    rw [ht] at hP1
    obtain ⟨hP, hD⟩ := va_join (wr := [((u 1), .inl (cI, 384, .inl W0)), ((u 5), .inl (cI, 64, .inl (fun _ => 0))), ((u 12), .inr (2, [.ref (u 13), .ref (u 16), .int 0, .int 0, .int 0])), ((u 13), .inr (1, [.ref (u 14), .ref (u 15), .int 0])), ((u 14), .inl (cZ, 64, .inl (fun _ => 0))), ((u 15), .inl (cI, 64, .inl (fun _ => 0))), ((u 16), .inl (cZ, 64, .inl (fun _ => 0))), ((u 17), .inr (2, [.ref (u 18), .ref (u 21), .int 0, .int 0, .int 0])), ((u 18), .inr (1, [.ref (u 19), .ref (u 20), .int 0])), ((u 19), .inl (cZ, 64, .inl (fun _ => 0))), ((u 20), .inl (cI, 64, .inl (fun _ => 0))), ((u 21), .inl (cZ, 64, .inl (fun _ => 0))), (m0, .inr (4, [.int 0, .ref (v 0), .int 0, .int (-1), .int 0, .ref (v 1), .ref (v 2), .ref (v 3), .int 0, .int 1, .int 0, .int 0, .ref (v 4), .ref (v 5), .ref (v 6), .ref (v 7), .ref (v 8), .ref (v 9)])), ((v 0), .inl (cI, 384, .inl MW0)), ((v 1), .inl (cZ, 64, .inl (fun _ => 0))), ((v 2), .inl (cI, 64, .inl (fun _ => 0))), ((v 3), .inl (cI, 64, .inl (fun _ => 0))), ((v 4), .inl (cZ, 3, .inl (fun _ => 0))), ((v 5), .inl (cI, 3, .inl (fun _ => 0))), ((v 6), .inl (cZ, 192, .inl (fun _ => 0))), ((v 7), .inl (cI, 192, .inl (fun _ => 0))), ((v 8), .inl (cI, 192, .inl (fun _ => 0))), ((v 9), .inl (cI, 192, .inl (fun _ => 0)))]) (w1 := [(o9, .inl (cJ, 1, .inr (.inl O0)))]) hP hD [0, 1, 3, 4, 5, 7, 8, 9, 10, 11, 12, 34] [2, 6, 13, 14, 15, 16, 17, 18, 19, 20, 21, 22, 23, 24, 25, 26, 27, 28, 29, 30, 31, 32, 33] rfl rfl (by decide) (by decide) hk1 hFc hP1 hD1
    generalize H1 = H at hP hS ⊢
    have hP : va_P (dC, dI) vwC [((u 1), .inl (cI, 384, .inl W0)), ((u 5), .inl (cI, 64, .inl (fun _ => 0))), ((u 12), .inr (2, [.ref (u 13), .ref (u 16), .int 0, .int 0, .int 0])), ((u 13), .inr (1, [.ref (u 14), .ref (u 15), .int 0])), ((u 14), .inl (cZ, 64, .inl (fun _ => 0))), ((u 15), .inl (cI, 64, .inl (fun _ => 0))), ((u 16), .inl (cZ, 64, .inl (fun _ => 0))), ((u 17), .inr (2, [.ref (u 18), .ref (u 21), .int 0, .int 0, .int 0])), ((u 18), .inr (1, [.ref (u 19), .ref (u 20), .int 0])), ((u 19), .inl (cZ, 64, .inl (fun _ => 0))), ((u 20), .inl (cI, 64, .inl (fun _ => 0))), ((u 21), .inl (cZ, 64, .inl (fun _ => 0))), (m0, .inr (4, [.int 0, .ref (v 0), .int 0, .int (-1), .int 0, .ref (v 1), .ref (v 2), .ref (v 3), .int 0, .int 1, .int 0, .int 0, .ref (v 4), .ref (v 5), .ref (v 6), .ref (v 7), .ref (v 8), .ref (v 9)])), ((v 0), .inl (cI, 384, .inl MW0)), ((v 1), .inl (cZ, 64, .inl (fun _ => 0))), ((v 2), .inl (cI, 64, .inl (fun _ => 0))), ((v 3), .inl (cI, 64, .inl (fun _ => 0))), ((v 4), .inl (cZ, 3, .inl (fun _ => 0))), ((v 5), .inl (cI, 3, .inl (fun _ => 0))), ((v 6), .inl (cZ, 192, .inl (fun _ => 0))), ((v 7), .inl (cI, 192, .inl (fun _ => 0))), ((v 8), .inl (cI, 192, .inl (fun _ => 0))), ((v 9), .inl (cI, 192, .inl (fun _ => 0))), (o9, .inl (cJ, 1, .inr (.inl O0)))] H := hP
    have hD : va_D A [((u 1), .inl (cI, 384, .inl W0)), ((u 5), .inl (cI, 64, .inl (fun _ => 0))), ((u 12), .inr (2, [.ref (u 13), .ref (u 16), .int 0, .int 0, .int 0])), ((u 13), .inr (1, [.ref (u 14), .ref (u 15), .int 0])), ((u 14), .inl (cZ, 64, .inl (fun _ => 0))), ((u 15), .inl (cI, 64, .inl (fun _ => 0))), ((u 16), .inl (cZ, 64, .inl (fun _ => 0))), ((u 17), .inr (2, [.ref (u 18), .ref (u 21), .int 0, .int 0, .int 0])), ((u 18), .inr (1, [.ref (u 19), .ref (u 20), .int 0])), ((u 19), .inl (cZ, 64, .inl (fun _ => 0))), ((u 20), .inl (cI, 64, .inl (fun _ => 0))), ((u 21), .inl (cZ, 64, .inl (fun _ => 0))), (m0, .inr (4, [.int 0, .ref (v 0), .int 0, .int (-1), .int 0, .ref (v 1), .ref (v 2), .ref (v 3), .int 0, .int 1, .int 0, .int 0, .ref (v 4), .ref (v 5), .ref (v 6), .ref (v 7), .ref (v 8), .ref (v 9)])), ((v 0), .inl (cI, 384, .inl MW0)), ((v 1), .inl (cZ, 64, .inl (fun _ => 0))), ((v 2), .inl (cI, 64, .inl (fun _ => 0))), ((v 3), .inl (cI, 64, .inl (fun _ => 0))), ((v 4), .inl (cZ, 3, .inl (fun _ => 0))), ((v 5), .inl (cI, 3, .inl (fun _ => 0))), ((v 6), .inl (cZ, 192, .inl (fun _ => 0))), ((v 7), .inl (cI, 192, .inl (fun _ => 0))), ((v 8), .inl (cI, 192, .inl (fun _ => 0))), ((v 9), .inl (cI, 192, .inl (fun _ => 0))), (o9, .inl (cJ, 1, .inr (.inl O0)))] := hD
    obtain rfl : r1 = 0 := he9
    refine lv_istore hx hb dL_law_127 hl (by decide) rfl (fun ls hl => ?_)
    have hl : lv_has ls 7 [(5, .int 0), (4, .int 0), (3, .ref o9), (2, .ref m0), (1, .ref x), (0, .ref b)] := hl
    refine lv_aload_n hx hb dL_law_129 rfl (lv_at hl 3 rfl) ?_
    refine lv_aload_n hx hb dL_law_130 rfl (lv_at hl 5 rfl) ?_
    refine lv_iload hx hb dL_law_131 (lv_at hl 1 rfl) ?_
    refine lv_iconst (v := 1) hx hb dL_law_133 (by decide) ?_
    refine lv_iadd hx hb dL_law_134 ?_
    refine lv_topi (nm_r (e' := 1) (by decide +kernel) ?_)
    refine va_sld hx hb hXs hbl hbA hS (tv_in (by decide +kernel)) dL_law_135 ?_
    refine lv_topi (nm_r (e' := 0) ((congrArg xs (by decide +kernel : (1 : Int32).toNatClampNeg = 1)).trans (h1)) ?_)
    have hPc := hP.sub (ws' := [(m0, .inr (4, [.int 0, .ref (v 0), .int 0, .int (-1), .int 0, .ref (v 1), .ref (v 2), .ref (v 3), .int 0, .int 1, .int 0, .int 0, .ref (v 4), .ref (v 5), .ref (v 6), .ref (v 7), .ref (v 8), .ref (v 9)])), ((v 4), .inl (cZ, 3, .inl (fun _ => 0))), ((v 5), .inl (cI, 3, .inl (fun _ => 0))), ((v 6), .inl (cZ, 192, .inl (fun _ => 0))), ((v 1), .inl (cZ, 64, .inl (fun _ => 0))), ((v 7), .inl (cI, 192, .inl (fun _ => 0))), ((v 2), .inl (cI, 64, .inl (fun _ => 0))), ((v 8), .inl (cI, 192, .inl (fun _ => 0)))]) [12, 17, 18, 19, 14, 20, 15, 21] rfl
    have hDc := hD.sub (ws' := [(m0, .inr (4, [.int 0, .ref (v 0), .int 0, .int (-1), .int 0, .ref (v 1), .ref (v 2), .ref (v 3), .int 0, .int 1, .int 0, .int 0, .ref (v 4), .ref (v 5), .ref (v 6), .ref (v 7), .ref (v 8), .ref (v 9)])), ((v 4), .inl (cZ, 3, .inl (fun _ => 0))), ((v 5), .inl (cI, 3, .inl (fun _ => 0))), ((v 6), .inl (cZ, 192, .inl (fun _ => 0))), ((v 1), .inl (cZ, 64, .inl (fun _ => 0))), ((v 7), .inl (cI, 192, .inl (fun _ => 0))), ((v 2), .inl (cI, 64, .inl (fun _ => 0))), ((v 8), .inl (cI, 192, .inl (fun _ => 0)))]) [12, 17, 18, 19, 14, 20, 15, 21] (by decide) rfl
    have hFc := va_free (wc := [(m0, .inr (4, [.int 0, .ref (v 0), .int 0, .int (-1), .int 0, .ref (v 1), .ref (v 2), .ref (v 3), .int 0, .int 1, .int 0, .int 0, .ref (v 4), .ref (v 5), .ref (v 6), .ref (v 7), .ref (v 8), .ref (v 9)])), ((v 4), .inl (cZ, 3, .inl (fun _ => 0))), ((v 5), .inl (cI, 3, .inl (fun _ => 0))), ((v 6), .inl (cZ, 192, .inl (fun _ => 0))), ((v 1), .inl (cZ, 64, .inl (fun _ => 0))), ((v 7), .inl (cI, 192, .inl (fun _ => 0))), ((v 2), .inl (cI, 64, .inl (fun _ => 0))), ((v 8), .inl (cI, 192, .inl (fun _ => 0)))]) hD hS hA [12, 17, 18, 19, 14, 20, 15, 21] rfl
    refine va_calli (va_runV (C := "LoggedStoreModel") (b := m0) (As := [.int 0]) (rest := []) ⟨hx, hb, hml, hown, hw⟩ (c_M_begin_0 l dC dI cI cZ cJ cT m0 (v 0) (v 1) (v 2) (v 3) (v 4) (v 5) (v 6) (v 7) (v 8) (v 9) H.size) ⟨callB_of 1 hw (gA0 w674) rfl rfl rfl (hw _ w45) (hw _ w671) (by decide +kernel) ⟨Nat.le_of_ble_eq_true rfl, Nat.le_of_ble_eq_true rfl⟩, (hw _ w672), (hw _ w673)⟩ ⟨kb_Q, va_recv (ci := 4) (q0 := 12) hK hP rfl rfl, fun U hU hW => ⟨rfl, by rw [hU], by rw [hU]; exact hPc, hKK.moved hW, hDc.weaken (fun _ _ _ _ => trivial)⟩⟩ rfl rfl hl.1 rfl (lv_room (Nat.le_of_ble_eq_true rfl)) dL_law_136 ⟨Nat.le_of_ble_eq_true rfl, Nat.le_of_ble_eq_true rfl⟩) hS (fun q _ h => hFc q h) hFc (fun r3 u4 t H1 locs ht hvm he9 hB hz1 hk1 hS => ?_)
    obtain ⟨hP1, hD1⟩ := hB
    rw [ht] at hP1
    obtain ⟨hP, hD⟩ := va_join (wr := [((u 1), .inl (cI, 384, .inl W0)), ((u 5), .inl (cI, 64, .inl (fun _ => 0))), ((u 12), .inr (2, [.ref (u 13), .ref (u 16), .int 0, .int 0, .int 0])), ((u 13), .inr (1, [.ref (u 14), .ref (u 15), .int 0])), ((u 14), .inl (cZ, 64, .inl (fun _ => 0))), ((u 15), .inl (cI, 64, .inl (fun _ => 0))), ((u 16), .inl (cZ, 64, .inl (fun _ => 0))), ((u 17), .inr (2, [.ref (u 18), .ref (u 21), .int 0, .int 0, .int 0])), ((u 18), .inr (1, [.ref (u 19), .ref (u 20), .int 0])), ((u 19), .inl (cZ, 64, .inl (fun _ => 0))), ((u 20), .inl (cI, 64, .inl (fun _ => 0))), ((u 21), .inl (cZ, 64, .inl (fun _ => 0))), ((v 0), .inl (cI, 384, .inl MW0)), ((v 3), .inl (cI, 64, .inl (fun _ => 0))), ((v 9), .inl (cI, 192, .inl (fun _ => 0))), (o9, .inl (cJ, 1, .inr (.inl O0)))]) (w1 := [(m0, .inr (4, [.int 0, .ref (v 0), .int 0, .int (-1), .int 0, .ref (v 1), .ref (v 2), .ref (v 3), .int 0, .int 1, .int 0, .int 0, .ref (v 4), .ref (v 5), .ref (v 6), .ref (v 7), .ref (v 8), .ref (v 9)]))]) hP hD [12, 17, 18, 19, 14, 20, 15, 21] [0, 1, 2, 3, 4, 5, 6, 7, 8, 9, 10, 11, 13, 16, 22, 23] rfl rfl (by decide) (by decide) hk1 hFc hP1 hD1
    generalize H1 = H at hP hS ⊢
    have hP : va_P (dC, dI) vwC [((u 1), .inl (cI, 384, .inl W0)), ((u 5), .inl (cI, 64, .inl (fun _ => 0))), ((u 12), .inr (2, [.ref (u 13), .ref (u 16), .int 0, .int 0, .int 0])), ((u 13), .inr (1, [.ref (u 14), .ref (u 15), .int 0])), ((u 14), .inl (cZ, 64, .inl (fun _ => 0))), ((u 15), .inl (cI, 64, .inl (fun _ => 0))), ((u 16), .inl (cZ, 64, .inl (fun _ => 0))), ((u 17), .inr (2, [.ref (u 18), .ref (u 21), .int 0, .int 0, .int 0])), ((u 18), .inr (1, [.ref (u 19), .ref (u 20), .int 0])), ((u 19), .inl (cZ, 64, .inl (fun _ => 0))), ((u 20), .inl (cI, 64, .inl (fun _ => 0))), ((u 21), .inl (cZ, 64, .inl (fun _ => 0))), ((v 0), .inl (cI, 384, .inl MW0)), ((v 3), .inl (cI, 64, .inl (fun _ => 0))), ((v 9), .inl (cI, 192, .inl (fun _ => 0))), (o9, .inl (cJ, 1, .inr (.inl O0))), (m0, .inr (4, [.int 0, .ref (v 0), .int 0, .int (-1), .int 0, .ref (v 1), .ref (v 2), .ref (v 3), .int 0, .int 1, .int 0, .int 0, .ref (v 4), .ref (v 5), .ref (v 6), .ref (v 7), .ref (v 8), .ref (v 9)]))] H := hP
    have hD : va_D A [((u 1), .inl (cI, 384, .inl W0)), ((u 5), .inl (cI, 64, .inl (fun _ => 0))), ((u 12), .inr (2, [.ref (u 13), .ref (u 16), .int 0, .int 0, .int 0])), ((u 13), .inr (1, [.ref (u 14), .ref (u 15), .int 0])), ((u 14), .inl (cZ, 64, .inl (fun _ => 0))), ((u 15), .inl (cI, 64, .inl (fun _ => 0))), ((u 16), .inl (cZ, 64, .inl (fun _ => 0))), ((u 17), .inr (2, [.ref (u 18), .ref (u 21), .int 0, .int 0, .int 0])), ((u 18), .inr (1, [.ref (u 19), .ref (u 20), .int 0])), ((u 19), .inl (cZ, 64, .inl (fun _ => 0))), ((u 20), .inl (cI, 64, .inl (fun _ => 0))), ((u 21), .inl (cZ, 64, .inl (fun _ => 0))), ((v 0), .inl (cI, 384, .inl MW0)), ((v 3), .inl (cI, 64, .inl (fun _ => 0))), ((v 9), .inl (cI, 192, .inl (fun _ => 0))), (o9, .inl (cJ, 1, .inr (.inl O0))), (m0, .inr (4, [.int 0, .ref (v 0), .int 0, .int (-1), .int 0, .ref (v 1), .ref (v 2), .ref (v 3), .int 0, .int 1, .int 0, .int 0, .ref (v 4), .ref (v 5), .ref (v 6), .ref (v 7), .ref (v 8), .ref (v 9)]))] := hD
    obtain rfl : r3 = 0 := he9
    refine lv_istore hx hb dL_law_139 hl (by decide) rfl (fun ls hl => ?_)
    have hl : lv_has ls 7 [(6, .int 0), (5, .int 0), (4, .int 0), (3, .ref o9), (2, .ref m0), (1, .ref x), (0, .ref b)] := hl
    refine lv_aload_n hx hb dL_law_141 rfl (lv_at hl 4 rfl) ?_
    have hPc := hP.sub (ws' := [(m0, .inr (4, [.int 0, .ref (v 0), .int 0, .int (-1), .int 0, .ref (v 1), .ref (v 2), .ref (v 3), .int 0, .int 1, .int 0, .int 0, .ref (v 4), .ref (v 5), .ref (v 6), .ref (v 7), .ref (v 8), .ref (v 9)]))]) [16] rfl
    refine vp_callSi (W.runV (C := "LoggedStoreModel") (b := m0) (As := []) (rest := []) ⟨hx, hb, hml, hown, hw⟩ (c_thrown l dC dI cI cZ cJ cT m0 (v 0) (v 1) (v 2) (v 3) (v 4) (v 5) (v 6) (v 7) (v 8) (v 9) 0) ⟨callB_of 0 hw (gA0 w670) rfl rfl rfl (hw _ w45) (hw _ w667) (by decide +kernel) ⟨Nat.le_of_ble_eq_true rfl, Nat.le_of_ble_eq_true rfl⟩, (hw _ w668), (hw _ w669)⟩ ⟨kb_S, va_recv (ci := 4) (q0 := 16) hK hP rfl rfl, fun U hU hW => ⟨rfl, by rw [hU]; exact hPc, hKK.moved hW⟩⟩ rfl rfl hl.1 rfl (lv_room (Nat.le_of_ble_eq_true rfl)) dL_law_142 ⟨Nat.le_of_ble_eq_true rfl, Nat.le_of_ble_eq_true rfl⟩) (fun r5 e6 => ?_)
    obtain rfl : r5 = 0 := e6
    refine lv_iload hx hb dL_law_145 (lv_at hl 1 rfl) ?_
    refine lv_icmp_eq (tgt := 152) hx hb dL_law_147 (by decide) (fun _ => ?_) (fun h9 => absurd (by decide) h9)
    refine lv_iload hx hb dL_law_152 (lv_at hl 1 rfl) ?_
    refine lv_if_ne (tgt := 169) hx hb dL_law_154 (by decide) (fun h9 => absurd (by decide) h9) (fun _ => ?_)
    refine lv_aload_n hx hb dL_law_157 rfl (lv_at hl 3 rfl) ?_
    refine lv_iconst (v := 0) hx hb dL_law_158 (by decide) ?_
    refine va_lald hx hb hK hP 15 2 rfl rfl (tv_in (by decide +kernel)) dL_law_159 ?_
    refine lv_topl (nm_r (e' := 0) (by decide +kernel) ?_)
    refine lv_iload hx hb dL_law_160 (lv_at hl 0 rfl) ?_
    refine lv_i2l (v := 0) hx hb dL_law_162 (by decide +kernel) ?_
    refine W.lcmp hx hb dL_law_163 ?_
    refine lv_topi (nm_r (e' := 0) (by decide +kernel) ?_)
    refine lv_if_eq (tgt := 169) hx hb dL_law_164 (by decide) (fun _ => ?_) (fun h9 => absurd (by decide) h9)
    refine lv_goto (tgt := 885) hx hb dL_law_169 (by decide) ?_
    have hl := lv_sub (l' := [(4, .int 0), (0, .ref b)]) hl [2, 6] rfl
    exact law_end l hl9 C00 hKK hX hX2 hAe (by decide) (by decide) hS hl
  · refine lv_aload_n hx hb dL_law_116 rfl (lv_at hl 3 rfl) ?_
    refine lv_aload_n hx hb dL_law_117 rfl (lv_at hl 4 rfl) ?_
    refine lv_iload hx hb dL_law_118 (lv_at hl 0 rfl) ?_
    refine lv_iconst (v := 1) hx hb dL_law_120 (by decide) ?_
    refine lv_iadd hx hb dL_law_121 ?_
    refine lv_topi (nm_r (e' := 1) (by decide +kernel) ?_)
    refine va_sld hx hb hXs hbl hbA hS (tv_in (by decide +kernel)) dL_law_122 ?_
    refine lv_topi (nm_r (e' := 1) ((congrArg xs (by decide +kernel : (1 : Int32).toNatClampNeg = 1)).trans (h1)) ?_)
    refine lv_aload_n hx hb dL_law_123 rfl (lv_at hl 1 rfl) ?_
    have hPc := hP.sub (ws' := [(x, .inr (3, [.ref (u 0), .ref (u 2), .ref (u 5), .ref (u 6), .int 0, .int 1, .int 0, .int 22])), ((u 0), .inr (0, [.ref (u 1), .int (-1), .int 0, .int 0])), ((u 2), .inr (1, [.ref (u 3), .ref (u 4), .int 0])), ((u 3), .inl (cZ, 64, .inl (fun _ => 0))), ((u 4), .inl (cI, 64, .inl (fun _ => 0))), ((u 6), .inl (cT, 3, .inr (.inr (.inr (.inr (tF (u 7) (u 12) (u 17))))))), ((u 12), .inr (2, [.ref (u 13), .ref (u 16), .int 0, .int 0, .int 0])), ((u 13), .inr (1, [.ref (u 14), .ref (u 15), .int 0])), ((u 14), .inl (cZ, 64, .inl (fun _ => 0))), ((u 15), .inl (cI, 64, .inl (fun _ => 0))), ((u 16), .inl (cZ, 64, .inl (fun _ => 0))), (o9, .inl (cJ, 1, .inr (.inl (fun _ => 0))))]) [0, 1, 3, 4, 5, 7, 13, 14, 15, 16, 17, 34] rfl
    have hDc := hD.sub (ws' := [(x, .inr (3, [.ref (u 0), .ref (u 2), .ref (u 5), .ref (u 6), .int 0, .int 1, .int 0, .int 22])), ((u 0), .inr (0, [.ref (u 1), .int (-1), .int 0, .int 0])), ((u 2), .inr (1, [.ref (u 3), .ref (u 4), .int 0])), ((u 3), .inl (cZ, 64, .inl (fun _ => 0))), ((u 4), .inl (cI, 64, .inl (fun _ => 0))), ((u 6), .inl (cT, 3, .inr (.inr (.inr (.inr (tF (u 7) (u 12) (u 17))))))), ((u 12), .inr (2, [.ref (u 13), .ref (u 16), .int 0, .int 0, .int 0])), ((u 13), .inr (1, [.ref (u 14), .ref (u 15), .int 0])), ((u 14), .inl (cZ, 64, .inl (fun _ => 0))), ((u 15), .inl (cI, 64, .inl (fun _ => 0))), ((u 16), .inl (cZ, 64, .inl (fun _ => 0))), (o9, .inl (cJ, 1, .inr (.inl (fun _ => 0))))]) [0, 1, 3, 4, 5, 7, 13, 14, 15, 16, 17, 34] (by decide) rfl
    have hFc := va_free (wc := [(x, .inr (3, [.ref (u 0), .ref (u 2), .ref (u 5), .ref (u 6), .int 0, .int 1, .int 0, .int 22])), ((u 0), .inr (0, [.ref (u 1), .int (-1), .int 0, .int 0])), ((u 2), .inr (1, [.ref (u 3), .ref (u 4), .int 0])), ((u 3), .inl (cZ, 64, .inl (fun _ => 0))), ((u 4), .inl (cI, 64, .inl (fun _ => 0))), ((u 6), .inl (cT, 3, .inr (.inr (.inr (.inr (tF (u 7) (u 12) (u 17))))))), ((u 12), .inr (2, [.ref (u 13), .ref (u 16), .int 0, .int 0, .int 0])), ((u 13), .inr (1, [.ref (u 14), .ref (u 15), .int 0])), ((u 14), .inl (cZ, 64, .inl (fun _ => 0))), ((u 15), .inl (cI, 64, .inl (fun _ => 0))), ((u 16), .inl (cZ, 64, .inl (fun _ => 0))), (o9, .inl (cJ, 1, .inr (.inl (fun _ => 0))))]) hD hS hA [0, 1, 3, 4, 5, 7, 13, 14, 15, 16, 17, 34] rfl
    refine va_calli (tx_runW (As := [.ref x, .int 1, .ref o9]) (rest := []) ⟨hx, hb, hml, hown, hw⟩ (h_begin_1 l dC dI cI cZ cJ cT x (u 0) (u 1) (u 2) (u 3) (u 4) (u 5) (u 6) (u 7) (u 8) (u 9) (u 10) (u 11) (u 12) (u 13) (u 14) (u 15) (u 16) (u 17) (u 18) (u 19) (u 20) (u 21) o9 H.size) (tx_cw 3 hw (gA0 w281) rfl rfl rfl (hw _ w39) (hw _ w279) (hw _ w280) (by decide +kernel) ⟨Nat.le_of_ble_eq_true rfl, Nat.le_of_ble_eq_true rfl⟩) ⟨kb_Q, fun U hU hW => ⟨rfl, by rw [hU], by rw [hU]; exact hPc, hKK.moved hW, hDc.weaken (fun _ _ _ _ => trivial)⟩⟩ rfl rfl hl.1 rfl (lv_room (Nat.le_of_ble_eq_true rfl)) dL_law_124 ⟨Nat.le_of_ble_eq_true rfl, Nat.le_of_ble_eq_true rfl⟩) hS (fun q _ h => hFc q h) hFc (fun r1 u2 t H1 locs ht hvm he9 hB hz1 hk1 hS => ?_)
    obtain ⟨hP1, hD1⟩ := hB
    rw [ht] at hP1
    obtain ⟨hP, hD⟩ := va_join (wr := [((u 1), .inl (cI, 384, .inl W0)), ((u 5), .inl (cI, 64, .inl (fun _ => 0))), ((u 7), .inr (2, [.ref (u 8), .ref (u 11), .int 0, .int 0, .int 0])), ((u 8), .inr (1, [.ref (u 9), .ref (u 10), .int 0])), ((u 9), .inl (cZ, 64, .inl (fun _ => 0))), ((u 10), .inl (cI, 64, .inl (fun _ => 0))), ((u 11), .inl (cZ, 64, .inl (fun _ => 0))), ((u 17), .inr (2, [.ref (u 18), .ref (u 21), .int 0, .int 0, .int 0])), ((u 18), .inr (1, [.ref (u 19), .ref (u 20), .int 0])), ((u 19), .inl (cZ, 64, .inl (fun _ => 0))), ((u 20), .inl (cI, 64, .inl (fun _ => 0))), ((u 21), .inl (cZ, 64, .inl (fun _ => 0))), (m0, .inr (4, [.int 0, .ref (v 0), .int 0, .int (-1), .int 0, .ref (v 1), .ref (v 2), .ref (v 3), .int 0, .int 1, .int 0, .int 0, .ref (v 4), .ref (v 5), .ref (v 6), .ref (v 7), .ref (v 8), .ref (v 9)])), ((v 0), .inl (cI, 384, .inl MW0)), ((v 1), .inl (cZ, 64, .inl (fun _ => 0))), ((v 2), .inl (cI, 64, .inl (fun _ => 0))), ((v 3), .inl (cI, 64, .inl (fun _ => 0))), ((v 4), .inl (cZ, 3, .inl (fun _ => 0))), ((v 5), .inl (cI, 3, .inl (fun _ => 0))), ((v 6), .inl (cZ, 192, .inl (fun _ => 0))), ((v 7), .inl (cI, 192, .inl (fun _ => 0))), ((v 8), .inl (cI, 192, .inl (fun _ => 0))), ((v 9), .inl (cI, 192, .inl (fun _ => 0)))]) (w1 := [(o9, .inl (cJ, 1, .inr (.inl O0)))]) hP hD [0, 1, 3, 4, 5, 7, 13, 14, 15, 16, 17, 34] [2, 6, 8, 9, 10, 11, 12, 18, 19, 20, 21, 22, 23, 24, 25, 26, 27, 28, 29, 30, 31, 32, 33] rfl rfl (by decide) (by decide) hk1 hFc hP1 hD1
    generalize H1 = H at hP hS ⊢
    have hP : va_P (dC, dI) vwC [((u 1), .inl (cI, 384, .inl W0)), ((u 5), .inl (cI, 64, .inl (fun _ => 0))), ((u 7), .inr (2, [.ref (u 8), .ref (u 11), .int 0, .int 0, .int 0])), ((u 8), .inr (1, [.ref (u 9), .ref (u 10), .int 0])), ((u 9), .inl (cZ, 64, .inl (fun _ => 0))), ((u 10), .inl (cI, 64, .inl (fun _ => 0))), ((u 11), .inl (cZ, 64, .inl (fun _ => 0))), ((u 17), .inr (2, [.ref (u 18), .ref (u 21), .int 0, .int 0, .int 0])), ((u 18), .inr (1, [.ref (u 19), .ref (u 20), .int 0])), ((u 19), .inl (cZ, 64, .inl (fun _ => 0))), ((u 20), .inl (cI, 64, .inl (fun _ => 0))), ((u 21), .inl (cZ, 64, .inl (fun _ => 0))), (m0, .inr (4, [.int 0, .ref (v 0), .int 0, .int (-1), .int 0, .ref (v 1), .ref (v 2), .ref (v 3), .int 0, .int 1, .int 0, .int 0, .ref (v 4), .ref (v 5), .ref (v 6), .ref (v 7), .ref (v 8), .ref (v 9)])), ((v 0), .inl (cI, 384, .inl MW0)), ((v 1), .inl (cZ, 64, .inl (fun _ => 0))), ((v 2), .inl (cI, 64, .inl (fun _ => 0))), ((v 3), .inl (cI, 64, .inl (fun _ => 0))), ((v 4), .inl (cZ, 3, .inl (fun _ => 0))), ((v 5), .inl (cI, 3, .inl (fun _ => 0))), ((v 6), .inl (cZ, 192, .inl (fun _ => 0))), ((v 7), .inl (cI, 192, .inl (fun _ => 0))), ((v 8), .inl (cI, 192, .inl (fun _ => 0))), ((v 9), .inl (cI, 192, .inl (fun _ => 0))), (o9, .inl (cJ, 1, .inr (.inl O0)))] H := hP
    have hD : va_D A [((u 1), .inl (cI, 384, .inl W0)), ((u 5), .inl (cI, 64, .inl (fun _ => 0))), ((u 7), .inr (2, [.ref (u 8), .ref (u 11), .int 0, .int 0, .int 0])), ((u 8), .inr (1, [.ref (u 9), .ref (u 10), .int 0])), ((u 9), .inl (cZ, 64, .inl (fun _ => 0))), ((u 10), .inl (cI, 64, .inl (fun _ => 0))), ((u 11), .inl (cZ, 64, .inl (fun _ => 0))), ((u 17), .inr (2, [.ref (u 18), .ref (u 21), .int 0, .int 0, .int 0])), ((u 18), .inr (1, [.ref (u 19), .ref (u 20), .int 0])), ((u 19), .inl (cZ, 64, .inl (fun _ => 0))), ((u 20), .inl (cI, 64, .inl (fun _ => 0))), ((u 21), .inl (cZ, 64, .inl (fun _ => 0))), (m0, .inr (4, [.int 0, .ref (v 0), .int 0, .int (-1), .int 0, .ref (v 1), .ref (v 2), .ref (v 3), .int 0, .int 1, .int 0, .int 0, .ref (v 4), .ref (v 5), .ref (v 6), .ref (v 7), .ref (v 8), .ref (v 9)])), ((v 0), .inl (cI, 384, .inl MW0)), ((v 1), .inl (cZ, 64, .inl (fun _ => 0))), ((v 2), .inl (cI, 64, .inl (fun _ => 0))), ((v 3), .inl (cI, 64, .inl (fun _ => 0))), ((v 4), .inl (cZ, 3, .inl (fun _ => 0))), ((v 5), .inl (cI, 3, .inl (fun _ => 0))), ((v 6), .inl (cZ, 192, .inl (fun _ => 0))), ((v 7), .inl (cI, 192, .inl (fun _ => 0))), ((v 8), .inl (cI, 192, .inl (fun _ => 0))), ((v 9), .inl (cI, 192, .inl (fun _ => 0))), (o9, .inl (cJ, 1, .inr (.inl O0)))] := hD
    obtain rfl : r1 = 0 := he9
    refine lv_istore hx hb dL_law_127 hl (by decide) rfl (fun ls hl => ?_)
    have hl : lv_has ls 7 [(5, .int 0), (4, .int 0), (3, .ref o9), (2, .ref m0), (1, .ref x), (0, .ref b)] := hl
    refine lv_aload_n hx hb dL_law_129 rfl (lv_at hl 3 rfl) ?_
    refine lv_aload_n hx hb dL_law_130 rfl (lv_at hl 5 rfl) ?_
    refine lv_iload hx hb dL_law_131 (lv_at hl 1 rfl) ?_
    refine lv_iconst (v := 1) hx hb dL_law_133 (by decide) ?_
    refine lv_iadd hx hb dL_law_134 ?_
    refine lv_topi (nm_r (e' := 1) (by decide +kernel) ?_)
    refine va_sld hx hb hXs hbl hbA hS (tv_in (by decide +kernel)) dL_law_135 ?_
    refine lv_topi (nm_r (e' := 1) ((congrArg xs (by decide +kernel : (1 : Int32).toNatClampNeg = 1)).trans (h1)) ?_)
    have hPc := hP.sub (ws' := [(m0, .inr (4, [.int 0, .ref (v 0), .int 0, .int (-1), .int 0, .ref (v 1), .ref (v 2), .ref (v 3), .int 0, .int 1, .int 0, .int 0, .ref (v 4), .ref (v 5), .ref (v 6), .ref (v 7), .ref (v 8), .ref (v 9)])), ((v 4), .inl (cZ, 3, .inl (fun _ => 0))), ((v 5), .inl (cI, 3, .inl (fun _ => 0))), ((v 6), .inl (cZ, 192, .inl (fun _ => 0))), ((v 1), .inl (cZ, 64, .inl (fun _ => 0))), ((v 7), .inl (cI, 192, .inl (fun _ => 0))), ((v 2), .inl (cI, 64, .inl (fun _ => 0))), ((v 8), .inl (cI, 192, .inl (fun _ => 0)))]) [12, 17, 18, 19, 14, 20, 15, 21] rfl
    have hDc := hD.sub (ws' := [(m0, .inr (4, [.int 0, .ref (v 0), .int 0, .int (-1), .int 0, .ref (v 1), .ref (v 2), .ref (v 3), .int 0, .int 1, .int 0, .int 0, .ref (v 4), .ref (v 5), .ref (v 6), .ref (v 7), .ref (v 8), .ref (v 9)])), ((v 4), .inl (cZ, 3, .inl (fun _ => 0))), ((v 5), .inl (cI, 3, .inl (fun _ => 0))), ((v 6), .inl (cZ, 192, .inl (fun _ => 0))), ((v 1), .inl (cZ, 64, .inl (fun _ => 0))), ((v 7), .inl (cI, 192, .inl (fun _ => 0))), ((v 2), .inl (cI, 64, .inl (fun _ => 0))), ((v 8), .inl (cI, 192, .inl (fun _ => 0)))]) [12, 17, 18, 19, 14, 20, 15, 21] (by decide) rfl
    have hFc := va_free (wc := [(m0, .inr (4, [.int 0, .ref (v 0), .int 0, .int (-1), .int 0, .ref (v 1), .ref (v 2), .ref (v 3), .int 0, .int 1, .int 0, .int 0, .ref (v 4), .ref (v 5), .ref (v 6), .ref (v 7), .ref (v 8), .ref (v 9)])), ((v 4), .inl (cZ, 3, .inl (fun _ => 0))), ((v 5), .inl (cI, 3, .inl (fun _ => 0))), ((v 6), .inl (cZ, 192, .inl (fun _ => 0))), ((v 1), .inl (cZ, 64, .inl (fun _ => 0))), ((v 7), .inl (cI, 192, .inl (fun _ => 0))), ((v 2), .inl (cI, 64, .inl (fun _ => 0))), ((v 8), .inl (cI, 192, .inl (fun _ => 0)))]) hD hS hA [12, 17, 18, 19, 14, 20, 15, 21] rfl
    refine va_calli (va_runV (C := "LoggedStoreModel") (b := m0) (As := [.int 1]) (rest := []) ⟨hx, hb, hml, hown, hw⟩ (c_M_begin_1 l dC dI cI cZ cJ cT m0 (v 0) (v 1) (v 2) (v 3) (v 4) (v 5) (v 6) (v 7) (v 8) (v 9) H.size) ⟨callB_of 1 hw (gA0 w674) rfl rfl rfl (hw _ w45) (hw _ w671) (by decide +kernel) ⟨Nat.le_of_ble_eq_true rfl, Nat.le_of_ble_eq_true rfl⟩, (hw _ w672), (hw _ w673)⟩ ⟨kb_Q, va_recv (ci := 4) (q0 := 12) hK hP rfl rfl, fun U hU hW => ⟨rfl, by rw [hU], by rw [hU]; exact hPc, hKK.moved hW, hDc.weaken (fun _ _ _ _ => trivial)⟩⟩ rfl rfl hl.1 rfl (lv_room (Nat.le_of_ble_eq_true rfl)) dL_law_136 ⟨Nat.le_of_ble_eq_true rfl, Nat.le_of_ble_eq_true rfl⟩) hS (fun q _ h => hFc q h) hFc (fun r3 u4 t H1 locs ht hvm he9 hB hz1 hk1 hS => ?_)
    obtain ⟨hP1, hD1⟩ := hB
    rw [ht] at hP1
    obtain ⟨hP, hD⟩ := va_join (wr := [((u 1), .inl (cI, 384, .inl W0)), ((u 5), .inl (cI, 64, .inl (fun _ => 0))), ((u 7), .inr (2, [.ref (u 8), .ref (u 11), .int 0, .int 0, .int 0])), ((u 8), .inr (1, [.ref (u 9), .ref (u 10), .int 0])), ((u 9), .inl (cZ, 64, .inl (fun _ => 0))), ((u 10), .inl (cI, 64, .inl (fun _ => 0))), ((u 11), .inl (cZ, 64, .inl (fun _ => 0))), ((u 17), .inr (2, [.ref (u 18), .ref (u 21), .int 0, .int 0, .int 0])), ((u 18), .inr (1, [.ref (u 19), .ref (u 20), .int 0])), ((u 19), .inl (cZ, 64, .inl (fun _ => 0))), ((u 20), .inl (cI, 64, .inl (fun _ => 0))), ((u 21), .inl (cZ, 64, .inl (fun _ => 0))), ((v 0), .inl (cI, 384, .inl MW0)), ((v 3), .inl (cI, 64, .inl (fun _ => 0))), ((v 9), .inl (cI, 192, .inl (fun _ => 0))), (o9, .inl (cJ, 1, .inr (.inl O0)))]) (w1 := [(m0, .inr (4, [.int 0, .ref (v 0), .int 0, .int (-1), .int 0, .ref (v 1), .ref (v 2), .ref (v 3), .int 0, .int 1, .int 0, .int 0, .ref (v 4), .ref (v 5), .ref (v 6), .ref (v 7), .ref (v 8), .ref (v 9)]))]) hP hD [12, 17, 18, 19, 14, 20, 15, 21] [0, 1, 2, 3, 4, 5, 6, 7, 8, 9, 10, 11, 13, 16, 22, 23] rfl rfl (by decide) (by decide) hk1 hFc hP1 hD1
    generalize H1 = H at hP hS ⊢
    have hP : va_P (dC, dI) vwC [((u 1), .inl (cI, 384, .inl W0)), ((u 5), .inl (cI, 64, .inl (fun _ => 0))), ((u 7), .inr (2, [.ref (u 8), .ref (u 11), .int 0, .int 0, .int 0])), ((u 8), .inr (1, [.ref (u 9), .ref (u 10), .int 0])), ((u 9), .inl (cZ, 64, .inl (fun _ => 0))), ((u 10), .inl (cI, 64, .inl (fun _ => 0))), ((u 11), .inl (cZ, 64, .inl (fun _ => 0))), ((u 17), .inr (2, [.ref (u 18), .ref (u 21), .int 0, .int 0, .int 0])), ((u 18), .inr (1, [.ref (u 19), .ref (u 20), .int 0])), ((u 19), .inl (cZ, 64, .inl (fun _ => 0))), ((u 20), .inl (cI, 64, .inl (fun _ => 0))), ((u 21), .inl (cZ, 64, .inl (fun _ => 0))), ((v 0), .inl (cI, 384, .inl MW0)), ((v 3), .inl (cI, 64, .inl (fun _ => 0))), ((v 9), .inl (cI, 192, .inl (fun _ => 0))), (o9, .inl (cJ, 1, .inr (.inl O0))), (m0, .inr (4, [.int 0, .ref (v 0), .int 0, .int (-1), .int 0, .ref (v 1), .ref (v 2), .ref (v 3), .int 0, .int 1, .int 0, .int 0, .ref (v 4), .ref (v 5), .ref (v 6), .ref (v 7), .ref (v 8), .ref (v 9)]))] H := hP
    have hD : va_D A [((u 1), .inl (cI, 384, .inl W0)), ((u 5), .inl (cI, 64, .inl (fun _ => 0))), ((u 7), .inr (2, [.ref (u 8), .ref (u 11), .int 0, .int 0, .int 0])), ((u 8), .inr (1, [.ref (u 9), .ref (u 10), .int 0])), ((u 9), .inl (cZ, 64, .inl (fun _ => 0))), ((u 10), .inl (cI, 64, .inl (fun _ => 0))), ((u 11), .inl (cZ, 64, .inl (fun _ => 0))), ((u 17), .inr (2, [.ref (u 18), .ref (u 21), .int 0, .int 0, .int 0])), ((u 18), .inr (1, [.ref (u 19), .ref (u 20), .int 0])), ((u 19), .inl (cZ, 64, .inl (fun _ => 0))), ((u 20), .inl (cI, 64, .inl (fun _ => 0))), ((u 21), .inl (cZ, 64, .inl (fun _ => 0))), ((v 0), .inl (cI, 384, .inl MW0)), ((v 3), .inl (cI, 64, .inl (fun _ => 0))), ((v 9), .inl (cI, 192, .inl (fun _ => 0))), (o9, .inl (cJ, 1, .inr (.inl O0))), (m0, .inr (4, [.int 0, .ref (v 0), .int 0, .int (-1), .int 0, .ref (v 1), .ref (v 2), .ref (v 3), .int 0, .int 1, .int 0, .int 0, .ref (v 4), .ref (v 5), .ref (v 6), .ref (v 7), .ref (v 8), .ref (v 9)]))] := hD
    obtain rfl : r3 = 0 := he9
    refine lv_istore hx hb dL_law_139 hl (by decide) rfl (fun ls hl => ?_)
    have hl : lv_has ls 7 [(6, .int 0), (5, .int 0), (4, .int 0), (3, .ref o9), (2, .ref m0), (1, .ref x), (0, .ref b)] := hl
    refine lv_aload_n hx hb dL_law_141 rfl (lv_at hl 4 rfl) ?_
    have hPc := hP.sub (ws' := [(m0, .inr (4, [.int 0, .ref (v 0), .int 0, .int (-1), .int 0, .ref (v 1), .ref (v 2), .ref (v 3), .int 0, .int 1, .int 0, .int 0, .ref (v 4), .ref (v 5), .ref (v 6), .ref (v 7), .ref (v 8), .ref (v 9)]))]) [16] rfl
    refine vp_callSi (W.runV (C := "LoggedStoreModel") (b := m0) (As := []) (rest := []) ⟨hx, hb, hml, hown, hw⟩ (c_thrown l dC dI cI cZ cJ cT m0 (v 0) (v 1) (v 2) (v 3) (v 4) (v 5) (v 6) (v 7) (v 8) (v 9) 0) ⟨callB_of 0 hw (gA0 w670) rfl rfl rfl (hw _ w45) (hw _ w667) (by decide +kernel) ⟨Nat.le_of_ble_eq_true rfl, Nat.le_of_ble_eq_true rfl⟩, (hw _ w668), (hw _ w669)⟩ ⟨kb_S, va_recv (ci := 4) (q0 := 16) hK hP rfl rfl, fun U hU hW => ⟨rfl, by rw [hU]; exact hPc, hKK.moved hW⟩⟩ rfl rfl hl.1 rfl (lv_room (Nat.le_of_ble_eq_true rfl)) dL_law_142 ⟨Nat.le_of_ble_eq_true rfl, Nat.le_of_ble_eq_true rfl⟩) (fun r5 e6 => ?_)
    obtain rfl : r5 = 0 := e6
    refine lv_iload hx hb dL_law_145 (lv_at hl 1 rfl) ?_
    refine lv_icmp_eq (tgt := 152) hx hb dL_law_147 (by decide) (fun _ => ?_) (fun h9 => absurd (by decide) h9)
    refine lv_iload hx hb dL_law_152 (lv_at hl 1 rfl) ?_
    refine lv_if_ne (tgt := 169) hx hb dL_law_154 (by decide) (fun h9 => absurd (by decide) h9) (fun _ => ?_)
    refine lv_aload_n hx hb dL_law_157 rfl (lv_at hl 3 rfl) ?_
    refine lv_iconst (v := 0) hx hb dL_law_158 (by decide) ?_
    refine va_lald hx hb hK hP 15 2 rfl rfl (tv_in (by decide +kernel)) dL_law_159 ?_
    refine lv_topl (nm_r (e' := 0) (by decide +kernel) ?_)
    refine lv_iload hx hb dL_law_160 (lv_at hl 0 rfl) ?_
    refine lv_i2l (v := 0) hx hb dL_law_162 (by decide +kernel) ?_
    refine W.lcmp hx hb dL_law_163 ?_
    refine lv_topi (nm_r (e' := 0) (by decide +kernel) ?_)
    refine lv_if_eq (tgt := 169) hx hb dL_law_164 (by decide) (fun _ => ?_) (fun h9 => absurd (by decide) h9)
    refine lv_goto (tgt := 885) hx hb dL_law_169 (by decide) ?_
    have hl := lv_sub (l' := [(4, .int 0), (0, .ref b)]) hl [2, 6] rfl
    exact law_end l hl9 C00 hKK hX hX2 hAe (by decide) (by decide) hS hl
  · refine lv_aload_n hx hb dL_law_116 rfl (lv_at hl 3 rfl) ?_
    refine lv_aload_n hx hb dL_law_117 rfl (lv_at hl 4 rfl) ?_
    refine lv_iload hx hb dL_law_118 (lv_at hl 0 rfl) ?_
    refine lv_iconst (v := 1) hx hb dL_law_120 (by decide) ?_
    refine lv_iadd hx hb dL_law_121 ?_
    refine lv_topi (nm_r (e' := 1) (by decide +kernel) ?_)
    refine va_sld hx hb hXs hbl hbA hS (tv_in (by decide +kernel)) dL_law_122 ?_
    refine lv_topi (nm_r (e' := 2) ((congrArg xs (by decide +kernel : (1 : Int32).toNatClampNeg = 1)).trans (h1)) ?_)
    refine lv_aload_n hx hb dL_law_123 rfl (lv_at hl 1 rfl) ?_
    have hPc := hP.sub (ws' := [(x, .inr (3, [.ref (u 0), .ref (u 2), .ref (u 5), .ref (u 6), .int 0, .int 1, .int 0, .int 22])), ((u 0), .inr (0, [.ref (u 1), .int (-1), .int 0, .int 0])), ((u 2), .inr (1, [.ref (u 3), .ref (u 4), .int 0])), ((u 3), .inl (cZ, 64, .inl (fun _ => 0))), ((u 4), .inl (cI, 64, .inl (fun _ => 0))), ((u 6), .inl (cT, 3, .inr (.inr (.inr (.inr (tF (u 7) (u 12) (u 17))))))), ((u 17), .inr (2, [.ref (u 18), .ref (u 21), .int 0, .int 0, .int 0])), ((u 18), .inr (1, [.ref (u 19), .ref (u 20), .int 0])), ((u 19), .inl (cZ, 64, .inl (fun _ => 0))), ((u 20), .inl (cI, 64, .inl (fun _ => 0))), ((u 21), .inl (cZ, 64, .inl (fun _ => 0))), (o9, .inl (cJ, 1, .inr (.inl (fun _ => 0))))]) [0, 1, 3, 4, 5, 7, 18, 19, 20, 21, 22, 34] rfl
    have hDc := hD.sub (ws' := [(x, .inr (3, [.ref (u 0), .ref (u 2), .ref (u 5), .ref (u 6), .int 0, .int 1, .int 0, .int 22])), ((u 0), .inr (0, [.ref (u 1), .int (-1), .int 0, .int 0])), ((u 2), .inr (1, [.ref (u 3), .ref (u 4), .int 0])), ((u 3), .inl (cZ, 64, .inl (fun _ => 0))), ((u 4), .inl (cI, 64, .inl (fun _ => 0))), ((u 6), .inl (cT, 3, .inr (.inr (.inr (.inr (tF (u 7) (u 12) (u 17))))))), ((u 17), .inr (2, [.ref (u 18), .ref (u 21), .int 0, .int 0, .int 0])), ((u 18), .inr (1, [.ref (u 19), .ref (u 20), .int 0])), ((u 19), .inl (cZ, 64, .inl (fun _ => 0))), ((u 20), .inl (cI, 64, .inl (fun _ => 0))), ((u 21), .inl (cZ, 64, .inl (fun _ => 0))), (o9, .inl (cJ, 1, .inr (.inl (fun _ => 0))))]) [0, 1, 3, 4, 5, 7, 18, 19, 20, 21, 22, 34] (by decide) rfl
    have hFc := va_free (wc := [(x, .inr (3, [.ref (u 0), .ref (u 2), .ref (u 5), .ref (u 6), .int 0, .int 1, .int 0, .int 22])), ((u 0), .inr (0, [.ref (u 1), .int (-1), .int 0, .int 0])), ((u 2), .inr (1, [.ref (u 3), .ref (u 4), .int 0])), ((u 3), .inl (cZ, 64, .inl (fun _ => 0))), ((u 4), .inl (cI, 64, .inl (fun _ => 0))), ((u 6), .inl (cT, 3, .inr (.inr (.inr (.inr (tF (u 7) (u 12) (u 17))))))), ((u 17), .inr (2, [.ref (u 18), .ref (u 21), .int 0, .int 0, .int 0])), ((u 18), .inr (1, [.ref (u 19), .ref (u 20), .int 0])), ((u 19), .inl (cZ, 64, .inl (fun _ => 0))), ((u 20), .inl (cI, 64, .inl (fun _ => 0))), ((u 21), .inl (cZ, 64, .inl (fun _ => 0))), (o9, .inl (cJ, 1, .inr (.inl (fun _ => 0))))]) hD hS hA [0, 1, 3, 4, 5, 7, 18, 19, 20, 21, 22, 34] rfl
    refine va_calli (tx_runW (As := [.ref x, .int 2, .ref o9]) (rest := []) ⟨hx, hb, hml, hown, hw⟩ (h_begin_2 l dC dI cI cZ cJ cT x (u 0) (u 1) (u 2) (u 3) (u 4) (u 5) (u 6) (u 7) (u 8) (u 9) (u 10) (u 11) (u 12) (u 13) (u 14) (u 15) (u 16) (u 17) (u 18) (u 19) (u 20) (u 21) o9 H.size) (tx_cw 3 hw (gA0 w281) rfl rfl rfl (hw _ w39) (hw _ w279) (hw _ w280) (by decide +kernel) ⟨Nat.le_of_ble_eq_true rfl, Nat.le_of_ble_eq_true rfl⟩) ⟨kb_Q, fun U hU hW => ⟨rfl, by rw [hU], by rw [hU]; exact hPc, hKK.moved hW, hDc.weaken (fun _ _ _ _ => trivial)⟩⟩ rfl rfl hl.1 rfl (lv_room (Nat.le_of_ble_eq_true rfl)) dL_law_124 ⟨Nat.le_of_ble_eq_true rfl, Nat.le_of_ble_eq_true rfl⟩) hS (fun q _ h => hFc q h) hFc (fun r1 u2 t H1 locs ht hvm he9 hB hz1 hk1 hS => ?_)
    obtain ⟨hP1, hD1⟩ := hB
    rw [ht] at hP1
    obtain ⟨hP, hD⟩ := va_join (wr := [((u 1), .inl (cI, 384, .inl W0)), ((u 5), .inl (cI, 64, .inl (fun _ => 0))), ((u 7), .inr (2, [.ref (u 8), .ref (u 11), .int 0, .int 0, .int 0])), ((u 8), .inr (1, [.ref (u 9), .ref (u 10), .int 0])), ((u 9), .inl (cZ, 64, .inl (fun _ => 0))), ((u 10), .inl (cI, 64, .inl (fun _ => 0))), ((u 11), .inl (cZ, 64, .inl (fun _ => 0))), ((u 12), .inr (2, [.ref (u 13), .ref (u 16), .int 0, .int 0, .int 0])), ((u 13), .inr (1, [.ref (u 14), .ref (u 15), .int 0])), ((u 14), .inl (cZ, 64, .inl (fun _ => 0))), ((u 15), .inl (cI, 64, .inl (fun _ => 0))), ((u 16), .inl (cZ, 64, .inl (fun _ => 0))), (m0, .inr (4, [.int 0, .ref (v 0), .int 0, .int (-1), .int 0, .ref (v 1), .ref (v 2), .ref (v 3), .int 0, .int 1, .int 0, .int 0, .ref (v 4), .ref (v 5), .ref (v 6), .ref (v 7), .ref (v 8), .ref (v 9)])), ((v 0), .inl (cI, 384, .inl MW0)), ((v 1), .inl (cZ, 64, .inl (fun _ => 0))), ((v 2), .inl (cI, 64, .inl (fun _ => 0))), ((v 3), .inl (cI, 64, .inl (fun _ => 0))), ((v 4), .inl (cZ, 3, .inl (fun _ => 0))), ((v 5), .inl (cI, 3, .inl (fun _ => 0))), ((v 6), .inl (cZ, 192, .inl (fun _ => 0))), ((v 7), .inl (cI, 192, .inl (fun _ => 0))), ((v 8), .inl (cI, 192, .inl (fun _ => 0))), ((v 9), .inl (cI, 192, .inl (fun _ => 0)))]) (w1 := [(o9, .inl (cJ, 1, .inr (.inl O0)))]) hP hD [0, 1, 3, 4, 5, 7, 18, 19, 20, 21, 22, 34] [2, 6, 8, 9, 10, 11, 12, 13, 14, 15, 16, 17, 23, 24, 25, 26, 27, 28, 29, 30, 31, 32, 33] rfl rfl (by decide) (by decide) hk1 hFc hP1 hD1
    generalize H1 = H at hP hS ⊢
    have hP : va_P (dC, dI) vwC [((u 1), .inl (cI, 384, .inl W0)), ((u 5), .inl (cI, 64, .inl (fun _ => 0))), ((u 7), .inr (2, [.ref (u 8), .ref (u 11), .int 0, .int 0, .int 0])), ((u 8), .inr (1, [.ref (u 9), .ref (u 10), .int 0])), ((u 9), .inl (cZ, 64, .inl (fun _ => 0))), ((u 10), .inl (cI, 64, .inl (fun _ => 0))), ((u 11), .inl (cZ, 64, .inl (fun _ => 0))), ((u 12), .inr (2, [.ref (u 13), .ref (u 16), .int 0, .int 0, .int 0])), ((u 13), .inr (1, [.ref (u 14), .ref (u 15), .int 0])), ((u 14), .inl (cZ, 64, .inl (fun _ => 0))), ((u 15), .inl (cI, 64, .inl (fun _ => 0))), ((u 16), .inl (cZ, 64, .inl (fun _ => 0))), (m0, .inr (4, [.int 0, .ref (v 0), .int 0, .int (-1), .int 0, .ref (v 1), .ref (v 2), .ref (v 3), .int 0, .int 1, .int 0, .int 0, .ref (v 4), .ref (v 5), .ref (v 6), .ref (v 7), .ref (v 8), .ref (v 9)])), ((v 0), .inl (cI, 384, .inl MW0)), ((v 1), .inl (cZ, 64, .inl (fun _ => 0))), ((v 2), .inl (cI, 64, .inl (fun _ => 0))), ((v 3), .inl (cI, 64, .inl (fun _ => 0))), ((v 4), .inl (cZ, 3, .inl (fun _ => 0))), ((v 5), .inl (cI, 3, .inl (fun _ => 0))), ((v 6), .inl (cZ, 192, .inl (fun _ => 0))), ((v 7), .inl (cI, 192, .inl (fun _ => 0))), ((v 8), .inl (cI, 192, .inl (fun _ => 0))), ((v 9), .inl (cI, 192, .inl (fun _ => 0))), (o9, .inl (cJ, 1, .inr (.inl O0)))] H := hP
    have hD : va_D A [((u 1), .inl (cI, 384, .inl W0)), ((u 5), .inl (cI, 64, .inl (fun _ => 0))), ((u 7), .inr (2, [.ref (u 8), .ref (u 11), .int 0, .int 0, .int 0])), ((u 8), .inr (1, [.ref (u 9), .ref (u 10), .int 0])), ((u 9), .inl (cZ, 64, .inl (fun _ => 0))), ((u 10), .inl (cI, 64, .inl (fun _ => 0))), ((u 11), .inl (cZ, 64, .inl (fun _ => 0))), ((u 12), .inr (2, [.ref (u 13), .ref (u 16), .int 0, .int 0, .int 0])), ((u 13), .inr (1, [.ref (u 14), .ref (u 15), .int 0])), ((u 14), .inl (cZ, 64, .inl (fun _ => 0))), ((u 15), .inl (cI, 64, .inl (fun _ => 0))), ((u 16), .inl (cZ, 64, .inl (fun _ => 0))), (m0, .inr (4, [.int 0, .ref (v 0), .int 0, .int (-1), .int 0, .ref (v 1), .ref (v 2), .ref (v 3), .int 0, .int 1, .int 0, .int 0, .ref (v 4), .ref (v 5), .ref (v 6), .ref (v 7), .ref (v 8), .ref (v 9)])), ((v 0), .inl (cI, 384, .inl MW0)), ((v 1), .inl (cZ, 64, .inl (fun _ => 0))), ((v 2), .inl (cI, 64, .inl (fun _ => 0))), ((v 3), .inl (cI, 64, .inl (fun _ => 0))), ((v 4), .inl (cZ, 3, .inl (fun _ => 0))), ((v 5), .inl (cI, 3, .inl (fun _ => 0))), ((v 6), .inl (cZ, 192, .inl (fun _ => 0))), ((v 7), .inl (cI, 192, .inl (fun _ => 0))), ((v 8), .inl (cI, 192, .inl (fun _ => 0))), ((v 9), .inl (cI, 192, .inl (fun _ => 0))), (o9, .inl (cJ, 1, .inr (.inl O0)))] := hD
    obtain rfl : r1 = 0 := he9
    refine lv_istore hx hb dL_law_127 hl (by decide) rfl (fun ls hl => ?_)
    have hl : lv_has ls 7 [(5, .int 0), (4, .int 0), (3, .ref o9), (2, .ref m0), (1, .ref x), (0, .ref b)] := hl
    refine lv_aload_n hx hb dL_law_129 rfl (lv_at hl 3 rfl) ?_
    refine lv_aload_n hx hb dL_law_130 rfl (lv_at hl 5 rfl) ?_
    refine lv_iload hx hb dL_law_131 (lv_at hl 1 rfl) ?_
    refine lv_iconst (v := 1) hx hb dL_law_133 (by decide) ?_
    refine lv_iadd hx hb dL_law_134 ?_
    refine lv_topi (nm_r (e' := 1) (by decide +kernel) ?_)
    refine va_sld hx hb hXs hbl hbA hS (tv_in (by decide +kernel)) dL_law_135 ?_
    refine lv_topi (nm_r (e' := 2) ((congrArg xs (by decide +kernel : (1 : Int32).toNatClampNeg = 1)).trans (h1)) ?_)
    have hPc := hP.sub (ws' := [(m0, .inr (4, [.int 0, .ref (v 0), .int 0, .int (-1), .int 0, .ref (v 1), .ref (v 2), .ref (v 3), .int 0, .int 1, .int 0, .int 0, .ref (v 4), .ref (v 5), .ref (v 6), .ref (v 7), .ref (v 8), .ref (v 9)])), ((v 4), .inl (cZ, 3, .inl (fun _ => 0))), ((v 5), .inl (cI, 3, .inl (fun _ => 0))), ((v 6), .inl (cZ, 192, .inl (fun _ => 0))), ((v 1), .inl (cZ, 64, .inl (fun _ => 0))), ((v 7), .inl (cI, 192, .inl (fun _ => 0))), ((v 2), .inl (cI, 64, .inl (fun _ => 0))), ((v 8), .inl (cI, 192, .inl (fun _ => 0)))]) [12, 17, 18, 19, 14, 20, 15, 21] rfl
    have hDc := hD.sub (ws' := [(m0, .inr (4, [.int 0, .ref (v 0), .int 0, .int (-1), .int 0, .ref (v 1), .ref (v 2), .ref (v 3), .int 0, .int 1, .int 0, .int 0, .ref (v 4), .ref (v 5), .ref (v 6), .ref (v 7), .ref (v 8), .ref (v 9)])), ((v 4), .inl (cZ, 3, .inl (fun _ => 0))), ((v 5), .inl (cI, 3, .inl (fun _ => 0))), ((v 6), .inl (cZ, 192, .inl (fun _ => 0))), ((v 1), .inl (cZ, 64, .inl (fun _ => 0))), ((v 7), .inl (cI, 192, .inl (fun _ => 0))), ((v 2), .inl (cI, 64, .inl (fun _ => 0))), ((v 8), .inl (cI, 192, .inl (fun _ => 0)))]) [12, 17, 18, 19, 14, 20, 15, 21] (by decide) rfl
    have hFc := va_free (wc := [(m0, .inr (4, [.int 0, .ref (v 0), .int 0, .int (-1), .int 0, .ref (v 1), .ref (v 2), .ref (v 3), .int 0, .int 1, .int 0, .int 0, .ref (v 4), .ref (v 5), .ref (v 6), .ref (v 7), .ref (v 8), .ref (v 9)])), ((v 4), .inl (cZ, 3, .inl (fun _ => 0))), ((v 5), .inl (cI, 3, .inl (fun _ => 0))), ((v 6), .inl (cZ, 192, .inl (fun _ => 0))), ((v 1), .inl (cZ, 64, .inl (fun _ => 0))), ((v 7), .inl (cI, 192, .inl (fun _ => 0))), ((v 2), .inl (cI, 64, .inl (fun _ => 0))), ((v 8), .inl (cI, 192, .inl (fun _ => 0)))]) hD hS hA [12, 17, 18, 19, 14, 20, 15, 21] rfl
    refine va_calli (va_runV (C := "LoggedStoreModel") (b := m0) (As := [.int 2]) (rest := []) ⟨hx, hb, hml, hown, hw⟩ (c_M_begin_2 l dC dI cI cZ cJ cT m0 (v 0) (v 1) (v 2) (v 3) (v 4) (v 5) (v 6) (v 7) (v 8) (v 9) H.size) ⟨callB_of 1 hw (gA0 w674) rfl rfl rfl (hw _ w45) (hw _ w671) (by decide +kernel) ⟨Nat.le_of_ble_eq_true rfl, Nat.le_of_ble_eq_true rfl⟩, (hw _ w672), (hw _ w673)⟩ ⟨kb_Q, va_recv (ci := 4) (q0 := 12) hK hP rfl rfl, fun U hU hW => ⟨rfl, by rw [hU], by rw [hU]; exact hPc, hKK.moved hW, hDc.weaken (fun _ _ _ _ => trivial)⟩⟩ rfl rfl hl.1 rfl (lv_room (Nat.le_of_ble_eq_true rfl)) dL_law_136 ⟨Nat.le_of_ble_eq_true rfl, Nat.le_of_ble_eq_true rfl⟩) hS (fun q _ h => hFc q h) hFc (fun r3 u4 t H1 locs ht hvm he9 hB hz1 hk1 hS => ?_)
    obtain ⟨hP1, hD1⟩ := hB
    rw [ht] at hP1
    obtain ⟨hP, hD⟩ := va_join (wr := [((u 1), .inl (cI, 384, .inl W0)), ((u 5), .inl (cI, 64, .inl (fun _ => 0))), ((u 7), .inr (2, [.ref (u 8), .ref (u 11), .int 0, .int 0, .int 0])), ((u 8), .inr (1, [.ref (u 9), .ref (u 10), .int 0])), ((u 9), .inl (cZ, 64, .inl (fun _ => 0))), ((u 10), .inl (cI, 64, .inl (fun _ => 0))), ((u 11), .inl (cZ, 64, .inl (fun _ => 0))), ((u 12), .inr (2, [.ref (u 13), .ref (u 16), .int 0, .int 0, .int 0])), ((u 13), .inr (1, [.ref (u 14), .ref (u 15), .int 0])), ((u 14), .inl (cZ, 64, .inl (fun _ => 0))), ((u 15), .inl (cI, 64, .inl (fun _ => 0))), ((u 16), .inl (cZ, 64, .inl (fun _ => 0))), ((v 0), .inl (cI, 384, .inl MW0)), ((v 3), .inl (cI, 64, .inl (fun _ => 0))), ((v 9), .inl (cI, 192, .inl (fun _ => 0))), (o9, .inl (cJ, 1, .inr (.inl O0)))]) (w1 := [(m0, .inr (4, [.int 0, .ref (v 0), .int 0, .int (-1), .int 0, .ref (v 1), .ref (v 2), .ref (v 3), .int 0, .int 1, .int 0, .int 0, .ref (v 4), .ref (v 5), .ref (v 6), .ref (v 7), .ref (v 8), .ref (v 9)]))]) hP hD [12, 17, 18, 19, 14, 20, 15, 21] [0, 1, 2, 3, 4, 5, 6, 7, 8, 9, 10, 11, 13, 16, 22, 23] rfl rfl (by decide) (by decide) hk1 hFc hP1 hD1
    generalize H1 = H at hP hS ⊢
    have hP : va_P (dC, dI) vwC [((u 1), .inl (cI, 384, .inl W0)), ((u 5), .inl (cI, 64, .inl (fun _ => 0))), ((u 7), .inr (2, [.ref (u 8), .ref (u 11), .int 0, .int 0, .int 0])), ((u 8), .inr (1, [.ref (u 9), .ref (u 10), .int 0])), ((u 9), .inl (cZ, 64, .inl (fun _ => 0))), ((u 10), .inl (cI, 64, .inl (fun _ => 0))), ((u 11), .inl (cZ, 64, .inl (fun _ => 0))), ((u 12), .inr (2, [.ref (u 13), .ref (u 16), .int 0, .int 0, .int 0])), ((u 13), .inr (1, [.ref (u 14), .ref (u 15), .int 0])), ((u 14), .inl (cZ, 64, .inl (fun _ => 0))), ((u 15), .inl (cI, 64, .inl (fun _ => 0))), ((u 16), .inl (cZ, 64, .inl (fun _ => 0))), ((v 0), .inl (cI, 384, .inl MW0)), ((v 3), .inl (cI, 64, .inl (fun _ => 0))), ((v 9), .inl (cI, 192, .inl (fun _ => 0))), (o9, .inl (cJ, 1, .inr (.inl O0))), (m0, .inr (4, [.int 0, .ref (v 0), .int 0, .int (-1), .int 0, .ref (v 1), .ref (v 2), .ref (v 3), .int 0, .int 1, .int 0, .int 0, .ref (v 4), .ref (v 5), .ref (v 6), .ref (v 7), .ref (v 8), .ref (v 9)]))] H := hP
    have hD : va_D A [((u 1), .inl (cI, 384, .inl W0)), ((u 5), .inl (cI, 64, .inl (fun _ => 0))), ((u 7), .inr (2, [.ref (u 8), .ref (u 11), .int 0, .int 0, .int 0])), ((u 8), .inr (1, [.ref (u 9), .ref (u 10), .int 0])), ((u 9), .inl (cZ, 64, .inl (fun _ => 0))), ((u 10), .inl (cI, 64, .inl (fun _ => 0))), ((u 11), .inl (cZ, 64, .inl (fun _ => 0))), ((u 12), .inr (2, [.ref (u 13), .ref (u 16), .int 0, .int 0, .int 0])), ((u 13), .inr (1, [.ref (u 14), .ref (u 15), .int 0])), ((u 14), .inl (cZ, 64, .inl (fun _ => 0))), ((u 15), .inl (cI, 64, .inl (fun _ => 0))), ((u 16), .inl (cZ, 64, .inl (fun _ => 0))), ((v 0), .inl (cI, 384, .inl MW0)), ((v 3), .inl (cI, 64, .inl (fun _ => 0))), ((v 9), .inl (cI, 192, .inl (fun _ => 0))), (o9, .inl (cJ, 1, .inr (.inl O0))), (m0, .inr (4, [.int 0, .ref (v 0), .int 0, .int (-1), .int 0, .ref (v 1), .ref (v 2), .ref (v 3), .int 0, .int 1, .int 0, .int 0, .ref (v 4), .ref (v 5), .ref (v 6), .ref (v 7), .ref (v 8), .ref (v 9)]))] := hD
    obtain rfl : r3 = 0 := he9
    refine lv_istore hx hb dL_law_139 hl (by decide) rfl (fun ls hl => ?_)
    have hl : lv_has ls 7 [(6, .int 0), (5, .int 0), (4, .int 0), (3, .ref o9), (2, .ref m0), (1, .ref x), (0, .ref b)] := hl
    refine lv_aload_n hx hb dL_law_141 rfl (lv_at hl 4 rfl) ?_
    have hPc := hP.sub (ws' := [(m0, .inr (4, [.int 0, .ref (v 0), .int 0, .int (-1), .int 0, .ref (v 1), .ref (v 2), .ref (v 3), .int 0, .int 1, .int 0, .int 0, .ref (v 4), .ref (v 5), .ref (v 6), .ref (v 7), .ref (v 8), .ref (v 9)]))]) [16] rfl
    refine vp_callSi (W.runV (C := "LoggedStoreModel") (b := m0) (As := []) (rest := []) ⟨hx, hb, hml, hown, hw⟩ (c_thrown l dC dI cI cZ cJ cT m0 (v 0) (v 1) (v 2) (v 3) (v 4) (v 5) (v 6) (v 7) (v 8) (v 9) 0) ⟨callB_of 0 hw (gA0 w670) rfl rfl rfl (hw _ w45) (hw _ w667) (by decide +kernel) ⟨Nat.le_of_ble_eq_true rfl, Nat.le_of_ble_eq_true rfl⟩, (hw _ w668), (hw _ w669)⟩ ⟨kb_S, va_recv (ci := 4) (q0 := 16) hK hP rfl rfl, fun U hU hW => ⟨rfl, by rw [hU]; exact hPc, hKK.moved hW⟩⟩ rfl rfl hl.1 rfl (lv_room (Nat.le_of_ble_eq_true rfl)) dL_law_142 ⟨Nat.le_of_ble_eq_true rfl, Nat.le_of_ble_eq_true rfl⟩) (fun r5 e6 => ?_)
    obtain rfl : r5 = 0 := e6
    refine lv_iload hx hb dL_law_145 (lv_at hl 1 rfl) ?_
    refine lv_icmp_eq (tgt := 152) hx hb dL_law_147 (by decide) (fun _ => ?_) (fun h9 => absurd (by decide) h9)
    refine lv_iload hx hb dL_law_152 (lv_at hl 1 rfl) ?_
    refine lv_if_ne (tgt := 169) hx hb dL_law_154 (by decide) (fun h9 => absurd (by decide) h9) (fun _ => ?_)
    refine lv_aload_n hx hb dL_law_157 rfl (lv_at hl 3 rfl) ?_
    refine lv_iconst (v := 0) hx hb dL_law_158 (by decide) ?_
    refine va_lald hx hb hK hP 15 2 rfl rfl (tv_in (by decide +kernel)) dL_law_159 ?_
    refine lv_topl (nm_r (e' := 0) (by decide +kernel) ?_)
    refine lv_iload hx hb dL_law_160 (lv_at hl 0 rfl) ?_
    refine lv_i2l (v := 0) hx hb dL_law_162 (by decide +kernel) ?_
    refine W.lcmp hx hb dL_law_163 ?_
    refine lv_topi (nm_r (e' := 0) (by decide +kernel) ?_)
    refine lv_if_eq (tgt := 169) hx hb dL_law_164 (by decide) (fun _ => ?_) (fun h9 => absurd (by decide) h9)
    refine lv_goto (tgt := 885) hx hb dL_law_169 (by decide) ?_
    have hl := lv_sub (l' := [(4, .int 0), (0, .ref b)]) hl [2, 6] rfl
    exact law_end l hl9 C00 hKK hX hX2 hAe (by decide) (by decide) hS hl

set_option maxHeartbeats 4000000 in
set_option maxRecDepth 100000 in
theorem law_1 {p : Program} {e : Env} {s : State} {m : MethodId} {below : List Frame} {meth : Method} {c : Code} (l : Launch) (hl9 : l.stackTraces = false) {b : Nat} {xs : Nat → Int32} (C0 : lw_At p s m meth c b 4 xs) {dC : Nat → ClassId} {dI : Nat → Nat → Nat} {cI cZ cJ cT : ClassId} (hKK : KK dC dI cI cZ cJ cT s) (hX : KS s) (hX2 : KS2 s) {A : Nat → Prop} (hAe : A = fun q => s.heap.size ≤ q) {x m0 o9 : Nat} {u v : Nat → Nat} {H : Heap} {locs : List Loc} (hP : va_P (dC, dI) vwC [(x, .inr (3, [.ref (u 0), .ref (u 2), .ref (u 5), .ref (u 6), .int 0, .int 1, .int 0, .int 22])), ((u 0), .inr (0, [.ref (u 1), .int (-1), .int 0, .int 0])), ((u 1), .inl (cI, 384, .inl W0)), ((u 2), .inr (1, [.ref (u 3), .ref (u 4), .int 0])), ((u 3), .inl (cZ, 64, .inl (fun _ => 0))), ((u 4), .inl (cI, 64, .inl (fun _ => 0))), ((u 5), .inl (cI, 64, .inl (fun _ => 0))), ((u 6), .inl (cT, 3, .inr (.inr (.inr (.inr (tF (u 7) (u 12) (u 17))))))), ((u 7), .inr (2, [.ref (u 8), .ref (u 11), .int 0, .int 0, .int 0])), ((u 8), .inr (1, [.ref (u 9), .ref (u 10), .int 0])), ((u 9), .inl (cZ, 64, .inl (fun _ => 0))), ((u 10), .inl (cI, 64, .inl (fun _ => 0))), ((u 11), .inl (cZ, 64, .inl (fun _ => 0))), ((u 12), .inr (2, [.ref (u 13), .ref (u 16), .int 0, .int 0, .int 0])), ((u 13), .inr (1, [.ref (u 14), .ref (u 15), .int 0])), ((u 14), .inl (cZ, 64, .inl (fun _ => 0))), ((u 15), .inl (cI, 64, .inl (fun _ => 0))), ((u 16), .inl (cZ, 64, .inl (fun _ => 0))), ((u 17), .inr (2, [.ref (u 18), .ref (u 21), .int 0, .int 0, .int 0])), ((u 18), .inr (1, [.ref (u 19), .ref (u 20), .int 0])), ((u 19), .inl (cZ, 64, .inl (fun _ => 0))), ((u 20), .inl (cI, 64, .inl (fun _ => 0))), ((u 21), .inl (cZ, 64, .inl (fun _ => 0))), (m0, .inr (4, [.int 0, .ref (v 0), .int 0, .int (-1), .int 0, .ref (v 1), .ref (v 2), .ref (v 3), .int 0, .int 1, .int 0, .int 0, .ref (v 4), .ref (v 5), .ref (v 6), .ref (v 7), .ref (v 8), .ref (v 9)])), ((v 0), .inl (cI, 384, .inl MW0)), ((v 1), .inl (cZ, 64, .inl (fun _ => 0))), ((v 2), .inl (cI, 64, .inl (fun _ => 0))), ((v 3), .inl (cI, 64, .inl (fun _ => 0))), ((v 4), .inl (cZ, 3, .inl (fun _ => 0))), ((v 5), .inl (cI, 3, .inl (fun _ => 0))), ((v 6), .inl (cZ, 192, .inl (fun _ => 0))), ((v 7), .inl (cI, 192, .inl (fun _ => 0))), ((v 8), .inl (cI, 192, .inl (fun _ => 0))), ((v 9), .inl (cI, 192, .inl (fun _ => 0))), (o9, .inl (cJ, 1, .inr (.inl (fun _ => 0))))] H) (hD : va_D A [(x, .inr (3, [.ref (u 0), .ref (u 2), .ref (u 5), .ref (u 6), .int 0, .int 1, .int 0, .int 22])), ((u 0), .inr (0, [.ref (u 1), .int (-1), .int 0, .int 0])), ((u 1), .inl (cI, 384, .inl W0)), ((u 2), .inr (1, [.ref (u 3), .ref (u 4), .int 0])), ((u 3), .inl (cZ, 64, .inl (fun _ => 0))), ((u 4), .inl (cI, 64, .inl (fun _ => 0))), ((u 5), .inl (cI, 64, .inl (fun _ => 0))), ((u 6), .inl (cT, 3, .inr (.inr (.inr (.inr (tF (u 7) (u 12) (u 17))))))), ((u 7), .inr (2, [.ref (u 8), .ref (u 11), .int 0, .int 0, .int 0])), ((u 8), .inr (1, [.ref (u 9), .ref (u 10), .int 0])), ((u 9), .inl (cZ, 64, .inl (fun _ => 0))), ((u 10), .inl (cI, 64, .inl (fun _ => 0))), ((u 11), .inl (cZ, 64, .inl (fun _ => 0))), ((u 12), .inr (2, [.ref (u 13), .ref (u 16), .int 0, .int 0, .int 0])), ((u 13), .inr (1, [.ref (u 14), .ref (u 15), .int 0])), ((u 14), .inl (cZ, 64, .inl (fun _ => 0))), ((u 15), .inl (cI, 64, .inl (fun _ => 0))), ((u 16), .inl (cZ, 64, .inl (fun _ => 0))), ((u 17), .inr (2, [.ref (u 18), .ref (u 21), .int 0, .int 0, .int 0])), ((u 18), .inr (1, [.ref (u 19), .ref (u 20), .int 0])), ((u 19), .inl (cZ, 64, .inl (fun _ => 0))), ((u 20), .inl (cI, 64, .inl (fun _ => 0))), ((u 21), .inl (cZ, 64, .inl (fun _ => 0))), (m0, .inr (4, [.int 0, .ref (v 0), .int 0, .int (-1), .int 0, .ref (v 1), .ref (v 2), .ref (v 3), .int 0, .int 1, .int 0, .int 0, .ref (v 4), .ref (v 5), .ref (v 6), .ref (v 7), .ref (v 8), .ref (v 9)])), ((v 0), .inl (cI, 384, .inl MW0)), ((v 1), .inl (cZ, 64, .inl (fun _ => 0))), ((v 2), .inl (cI, 64, .inl (fun _ => 0))), ((v 3), .inl (cI, 64, .inl (fun _ => 0))), ((v 4), .inl (cZ, 3, .inl (fun _ => 0))), ((v 5), .inl (cI, 3, .inl (fun _ => 0))), ((v 6), .inl (cZ, 192, .inl (fun _ => 0))), ((v 7), .inl (cI, 192, .inl (fun _ => 0))), ((v 8), .inl (cI, 192, .inl (fun _ => 0))), ((v 9), .inl (cI, 192, .inl (fun _ => 0))), (o9, .inl (cJ, 1, .inr (.inl (fun _ => 0))))]) (hS : va_S A s.heap H locs) {ls : Array Slot} (hl : lv_has ls 7 [(4, .int 0), (3, .ref o9), (2, .ref m0), (1, .ref x), (0, .ref b)]) : W p l e room_1 s m #[Value.ref b] below meth c H locs 35 2563 (lw_Z below #[Value.ref b] s) (F0 m 172 ls []) := by
  have C00 := C0
  obtain ⟨hx, hb, hr, hml, hown, hts, hXs, hbl, hlocks, hgv⟩ := C0
  have hown : s.vm.findClass "LoggedStoreLaw" = some m.cls := hown
  have hw : ∀ w ∈ wsA, w.before #[Value.ref b] s = true := fun w h => hts w (List.mem_filter.mp h).1
  have hbA : ¬ A b := by rw [hAe]; exact Nat.not_le.mpr hbl
  have hK := hKK.1
  have hA : ∀ q : Nat, s.heap.size ≤ q → A q := by rw [hAe]; exact fun q h => h
  have hst : ∀ (a : Addr) (cell : Cell), s.heap[a]? = some cell → cell.vm.isStatics = true → H[a]? = some cell := fun a cell h _ => by rw [hS.2.1 a (Array.getElem?_eq_some_iff.mp h).1 (by rw [hAe]; exact Nat.not_le.mpr (Array.getElem?_eq_some_iff.mp h).1)]; exact h
  refine lv_aload_n hx hb dL_law_172 rfl (lv_at hl 3 rfl) ?_
  refine lv_aload_n hx hb dL_law_173 rfl (lv_at hl 4 rfl) ?_
  refine lv_iload hx hb dL_law_174 (lv_at hl 0 rfl) ?_
  refine lv_iconst (v := 1) hx hb dL_law_176 (by decide) ?_
  refine lv_iadd hx hb dL_law_177 ?_
  refine lv_topi (nm_r (e' := 1) (by decide +kernel) ?_)
  refine va_sld hx hb hXs hbl hbA hS (tv_in (by decide +kernel)) dL_law_178 ?_
  refine lv_topi (nm_r (e' := xs 1) (congrArg xs (by decide +kernel : (1 : Int32).toNatClampNeg = 1)) ?_)
  refine lv_aload_n hx hb dL_law_179 rfl (lv_at hl 4 rfl) ?_
  refine lv_iload hx hb dL_law_180 (lv_at hl 0 rfl) ?_
  refine lv_iconst (v := 2) hx hb dL_law_182 (by decide) ?_
  refine lv_iadd hx hb dL_law_183 ?_
  refine lv_topi (nm_r (e' := 2) (by decide +kernel) ?_)
  refine va_sld hx hb hXs hbl hbA hS (tv_in (by decide +kernel)) dL_law_184 ?_
  refine lv_topi (nm_r (e' := xs 2) (congrArg xs (by decide +kernel : (2 : Int32).toNatClampNeg = 2)) ?_)
  refine lv_aload_n hx hb dL_law_185 rfl (lv_at hl 1 rfl) ?_
  have hPc := hP.sub (ws' := [(x, .inr (3, [.ref (u 0), .ref (u 2), .ref (u 5), .ref (u 6), .int 0, .int 1, .int 0, .int 22])), ((u 6), .inl (cT, 3, .inr (.inr (.inr (.inr (tF (u 7) (u 12) (u 17))))))), ((u 7), .inr (2, [.ref (u 8), .ref (u 11), .int 0, .int 0, .int 0])), ((u 12), .inr (2, [.ref (u 13), .ref (u 16), .int 0, .int 0, .int 0])), ((u 17), .inr (2, [.ref (u 18), .ref (u 21), .int 0, .int 0, .int 0])), ((u 0), .inr (0, [.ref (u 1), .int (-1), .int 0, .int 0]))]) [0, 7, 8, 13, 18, 1] rfl
  have hDc := hD.sub (ws' := [(x, .inr (3, [.ref (u 0), .ref (u 2), .ref (u 5), .ref (u 6), .int 0, .int 1, .int 0, .int 22])), ((u 6), .inl (cT, 3, .inr (.inr (.inr (.inr (tF (u 7) (u 12) (u 17))))))), ((u 7), .inr (2, [.ref (u 8), .ref (u 11), .int 0, .int 0, .int 0])), ((u 12), .inr (2, [.ref (u 13), .ref (u 16), .int 0, .int 0, .int 0])), ((u 17), .inr (2, [.ref (u 18), .ref (u 21), .int 0, .int 0, .int 0])), ((u 0), .inr (0, [.ref (u 1), .int (-1), .int 0, .int 0]))]) [0, 7, 8, 13, 18, 1] (by decide) rfl
  have hFc := va_free (wc := [(x, .inr (3, [.ref (u 0), .ref (u 2), .ref (u 5), .ref (u 6), .int 0, .int 1, .int 0, .int 22])), ((u 6), .inl (cT, 3, .inr (.inr (.inr (.inr (tF (u 7) (u 12) (u 17))))))), ((u 7), .inr (2, [.ref (u 8), .ref (u 11), .int 0, .int 0, .int 0])), ((u 12), .inr (2, [.ref (u 13), .ref (u 16), .int 0, .int 0, .int 0])), ((u 17), .inr (2, [.ref (u 18), .ref (u 21), .int 0, .int 0, .int 0])), ((u 0), .inr (0, [.ref (u 1), .int (-1), .int 0, .int 0]))]) hD hS hA [0, 7, 8, 13, 18, 1] rfl
  refine va_calli (tx_runW (As := [.ref x, .int (xs 1), .int (xs 2), .ref o9]) (rest := []) ⟨hx, hb, hml, hown, hw⟩ (h_get_x l dC dI cI cZ cJ cT hl9 x (u 0) (u 1) (u 2) (u 5) (u 6) (u 7) (u 8) (u 11) (u 12) (u 13) (u 16) (u 17) (u 18) (u 21) (xs 1) (xs 2) o9 H.size) (tx_cw 4 hw (gA0 w408) rfl rfl rfl (hw _ w39) (hw _ w406) (hw _ w407) (by decide +kernel) ⟨Nat.le_of_ble_eq_true rfl, Nat.le_of_ble_eq_true rfl⟩) ⟨kb_W, fun U hU hW => ⟨rfl, by rw [hU], by rw [hU]; exact hPc, hKK.moved hW, hX.moved hW (by rw [hU]; exact hst), hDc.weaken (fun _ _ _ _ => trivial)⟩⟩ rfl rfl hl.1 rfl (lv_room (Nat.le_of_ble_eq_true rfl)) dL_law_186 ⟨Nat.le_of_ble_eq_true rfl, Nat.le_of_ble_eq_true rfl⟩) hS (fun q _ h => hFc q h) hFc (fun r1 u2 t H1 locs ht hvm he9 hB hz1 hk1 hS => ?_)
  obtain ⟨hP, hD⟩ := va_join (wr := [((u 1), .inl (cI, 384, .inl W0)), ((u 2), .inr (1, [.ref (u 3), .ref (u 4), .int 0])), ((u 3), .inl (cZ, 64, .inl (fun _ => 0))), ((u 4), .inl (cI, 64, .inl (fun _ => 0))), ((u 5), .inl (cI, 64, .inl (fun _ => 0))), ((u 8), .inr (1, [.ref (u 9), .ref (u 10), .int 0])), ((u 9), .inl (cZ, 64, .inl (fun _ => 0))), ((u 10), .inl (cI, 64, .inl (fun _ => 0))), ((u 11), .inl (cZ, 64, .inl (fun _ => 0))), ((u 13), .inr (1, [.ref (u 14), .ref (u 15), .int 0])), ((u 14), .inl (cZ, 64, .inl (fun _ => 0))), ((u 15), .inl (cI, 64, .inl (fun _ => 0))), ((u 16), .inl (cZ, 64, .inl (fun _ => 0))), ((u 18), .inr (1, [.ref (u 19), .ref (u 20), .int 0])), ((u 19), .inl (cZ, 64, .inl (fun _ => 0))), ((u 20), .inl (cI, 64, .inl (fun _ => 0))), ((u 21), .inl (cZ, 64, .inl (fun _ => 0))), (m0, .inr (4, [.int 0, .ref (v 0), .int 0, .int (-1), .int 0, .ref (v 1), .ref (v 2), .ref (v 3), .int 0, .int 1, .int 0, .int 0, .ref (v 4), .ref (v 5), .ref (v 6), .ref (v 7), .ref (v 8), .ref (v 9)])), ((v 0), .inl (cI, 384, .inl MW0)), ((v 1), .inl (cZ, 64, .inl (fun _ => 0))), ((v 2), .inl (cI, 64, .inl (fun _ => 0))), ((v 3), .inl (cI, 64, .inl (fun _ => 0))), ((v 4), .inl (cZ, 3, .inl (fun _ => 0))), ((v 5), .inl (cI, 3, .inl (fun _ => 0))), ((v 6), .inl (cZ, 192, .inl (fun _ => 0))), ((v 7), .inl (cI, 192, .inl (fun _ => 0))), ((v 8), .inl (cI, 192, .inl (fun _ => 0))), ((v 9), .inl (cI, 192, .inl (fun _ => 0))), (o9, .inl (cJ, 1, .inr (.inl (fun _ => 0))))]) (w1 := []) hP hD [0, 7, 8, 13, 18, 1] [2, 3, 4, 5, 6, 9, 10, 11, 12, 14, 15, 16, 17, 19, 20, 21, 22, 23, 24, 25, 26, 27, 28, 29, 30, 31, 32, 33, 34] rfl rfl (by decide) (by decide) hk1 hFc tk_P0 tk_D0
  generalize H1 = H at hP hS ⊢
  have hP : va_P (dC, dI) vwC [((u 1), .inl (cI, 384, .inl W0)), ((u 2), .inr (1, [.ref (u 3), .ref (u 4), .int 0])), ((u 3), .inl (cZ, 64, .inl (fun _ => 0))), ((u 4), .inl (cI, 64, .inl (fun _ => 0))), ((u 5), .inl (cI, 64, .inl (fun _ => 0))), ((u 8), .inr (1, [.ref (u 9), .ref (u 10), .int 0])), ((u 9), .inl (cZ, 64, .inl (fun _ => 0))), ((u 10), .inl (cI, 64, .inl (fun _ => 0))), ((u 11), .inl (cZ, 64, .inl (fun _ => 0))), ((u 13), .inr (1, [.ref (u 14), .ref (u 15), .int 0])), ((u 14), .inl (cZ, 64, .inl (fun _ => 0))), ((u 15), .inl (cI, 64, .inl (fun _ => 0))), ((u 16), .inl (cZ, 64, .inl (fun _ => 0))), ((u 18), .inr (1, [.ref (u 19), .ref (u 20), .int 0])), ((u 19), .inl (cZ, 64, .inl (fun _ => 0))), ((u 20), .inl (cI, 64, .inl (fun _ => 0))), ((u 21), .inl (cZ, 64, .inl (fun _ => 0))), (m0, .inr (4, [.int 0, .ref (v 0), .int 0, .int (-1), .int 0, .ref (v 1), .ref (v 2), .ref (v 3), .int 0, .int 1, .int 0, .int 0, .ref (v 4), .ref (v 5), .ref (v 6), .ref (v 7), .ref (v 8), .ref (v 9)])), ((v 0), .inl (cI, 384, .inl MW0)), ((v 1), .inl (cZ, 64, .inl (fun _ => 0))), ((v 2), .inl (cI, 64, .inl (fun _ => 0))), ((v 3), .inl (cI, 64, .inl (fun _ => 0))), ((v 4), .inl (cZ, 3, .inl (fun _ => 0))), ((v 5), .inl (cI, 3, .inl (fun _ => 0))), ((v 6), .inl (cZ, 192, .inl (fun _ => 0))), ((v 7), .inl (cI, 192, .inl (fun _ => 0))), ((v 8), .inl (cI, 192, .inl (fun _ => 0))), ((v 9), .inl (cI, 192, .inl (fun _ => 0))), (o9, .inl (cJ, 1, .inr (.inl (fun _ => 0))))] H := hP
  have hD : va_D A [((u 1), .inl (cI, 384, .inl W0)), ((u 2), .inr (1, [.ref (u 3), .ref (u 4), .int 0])), ((u 3), .inl (cZ, 64, .inl (fun _ => 0))), ((u 4), .inl (cI, 64, .inl (fun _ => 0))), ((u 5), .inl (cI, 64, .inl (fun _ => 0))), ((u 8), .inr (1, [.ref (u 9), .ref (u 10), .int 0])), ((u 9), .inl (cZ, 64, .inl (fun _ => 0))), ((u 10), .inl (cI, 64, .inl (fun _ => 0))), ((u 11), .inl (cZ, 64, .inl (fun _ => 0))), ((u 13), .inr (1, [.ref (u 14), .ref (u 15), .int 0])), ((u 14), .inl (cZ, 64, .inl (fun _ => 0))), ((u 15), .inl (cI, 64, .inl (fun _ => 0))), ((u 16), .inl (cZ, 64, .inl (fun _ => 0))), ((u 18), .inr (1, [.ref (u 19), .ref (u 20), .int 0])), ((u 19), .inl (cZ, 64, .inl (fun _ => 0))), ((u 20), .inl (cI, 64, .inl (fun _ => 0))), ((u 21), .inl (cZ, 64, .inl (fun _ => 0))), (m0, .inr (4, [.int 0, .ref (v 0), .int 0, .int (-1), .int 0, .ref (v 1), .ref (v 2), .ref (v 3), .int 0, .int 1, .int 0, .int 0, .ref (v 4), .ref (v 5), .ref (v 6), .ref (v 7), .ref (v 8), .ref (v 9)])), ((v 0), .inl (cI, 384, .inl MW0)), ((v 1), .inl (cZ, 64, .inl (fun _ => 0))), ((v 2), .inl (cI, 64, .inl (fun _ => 0))), ((v 3), .inl (cI, 64, .inl (fun _ => 0))), ((v 4), .inl (cZ, 3, .inl (fun _ => 0))), ((v 5), .inl (cI, 3, .inl (fun _ => 0))), ((v 6), .inl (cZ, 192, .inl (fun _ => 0))), ((v 7), .inl (cI, 192, .inl (fun _ => 0))), ((v 8), .inl (cI, 192, .inl (fun _ => 0))), ((v 9), .inl (cI, 192, .inl (fun _ => 0))), (o9, .inl (cJ, 1, .inr (.inl (fun _ => 0))))] := hD
  obtain rfl : r1 = 2 := he9
  refine lv_istore hx hb dL_law_189 hl (by decide) rfl (fun ls hl => ?_)
  have hl : lv_has ls 7 [(5, .int 2), (4, .int 0), (3, .ref o9), (2, .ref m0), (1, .ref x), (0, .ref b)] := hl
  refine lv_aload_n hx hb dL_law_191 rfl (lv_at hl 3 rfl) ?_
  refine lv_aload_n hx hb dL_law_192 rfl (lv_at hl 5 rfl) ?_
  refine lv_iload hx hb dL_law_193 (lv_at hl 1 rfl) ?_
  refine lv_iconst (v := 1) hx hb dL_law_195 (by decide) ?_
  refine lv_iadd hx hb dL_law_196 ?_
  refine lv_topi (nm_r (e' := 1) (by decide +kernel) ?_)
  refine va_sld hx hb hXs hbl hbA hS (tv_in (by decide +kernel)) dL_law_197 ?_
  refine lv_topi (nm_r (e' := xs 1) (congrArg xs (by decide +kernel : (1 : Int32).toNatClampNeg = 1)) ?_)
  refine lv_aload_n hx hb dL_law_198 rfl (lv_at hl 5 rfl) ?_
  refine lv_iload hx hb dL_law_199 (lv_at hl 1 rfl) ?_
  refine lv_iconst (v := 2) hx hb dL_law_201 (by decide) ?_
  refine lv_iadd hx hb dL_law_202 ?_
  refine lv_topi (nm_r (e' := 2) (by decide +kernel) ?_)
  refine va_sld hx hb hXs hbl hbA hS (tv_in (by decide +kernel)) dL_law_203 ?_
  refine lv_topi (nm_r (e' := xs 2) (congrArg xs (by decide +kernel : (2 : Int32).toNatClampNeg = 2)) ?_)
  have hPc := hP.sub (ws' := [(m0, .inr (4, [.int 0, .ref (v 0), .int 0, .int (-1), .int 0, .ref (v 1), .ref (v 2), .ref (v 3), .int 0, .int 1, .int 0, .int 0, .ref (v 4), .ref (v 5), .ref (v 6), .ref (v 7), .ref (v 8), .ref (v 9)])), ((v 4), .inl (cZ, 3, .inl (fun _ => 0)))]) [17, 22] rfl
  have hDc := hD.sub (ws' := [(m0, .inr (4, [.int 0, .ref (v 0), .int 0, .int (-1), .int 0, .ref (v 1), .ref (v 2), .ref (v 3), .int 0, .int 1, .int 0, .int 0, .ref (v 4), .ref (v 5), .ref (v 6), .ref (v 7), .ref (v 8), .ref (v 9)])), ((v 4), .inl (cZ, 3, .inl (fun _ => 0)))]) [17, 22] (by decide) rfl
  have hFc := va_free (wc := [(m0, .inr (4, [.int 0, .ref (v 0), .int 0, .int (-1), .int 0, .ref (v 1), .ref (v 2), .ref (v 3), .int 0, .int 1, .int 0, .int 0, .ref (v 4), .ref (v 5), .ref (v 6), .ref (v 7), .ref (v 8), .ref (v 9)])), ((v 4), .inl (cZ, 3, .inl (fun _ => 0)))]) hD hS hA [17, 22] rfl
  refine va_calli (va_runV (C := "LoggedStoreModel") (b := m0) (As := [.int (xs 1), .int (xs 2)]) (rest := []) ⟨hx, hb, hml, hown, hw⟩ (c_M_get l dC dI cI cZ cJ cT m0 (v 0) (v 1) (v 2) (v 3) (v 4) (v 5) (v 6) (v 7) (v 8) (v 9) (xs 1) (xs 2) H.size) ⟨callB_of 2 hw (gA0 w681) rfl rfl rfl (hw _ w45) (hw _ w678) (by decide +kernel) ⟨Nat.le_of_ble_eq_true rfl, Nat.le_of_ble_eq_true rfl⟩, (hw _ w679), (hw _ w680)⟩ ⟨kb_Q, va_recv (ci := 4) (q0 := 17) hK hP rfl rfl, fun U hU hW => ⟨rfl, by rw [hU], by rw [hU]; exact hPc, hKK.moved hW, hDc.weaken (fun _ _ _ _ => trivial)⟩⟩ rfl rfl hl.1 rfl (lv_room (Nat.le_of_ble_eq_true rfl)) dL_law_204 ⟨Nat.le_of_ble_eq_true rfl, Nat.le_of_ble_eq_true rfl⟩) hS (fun q _ h => hFc q h) hFc (fun r3 u4 t H1 locs ht hvm he9 hB hz1 hk1 hS => ?_)
  obtain ⟨hP1, hD1⟩ := hB
  rw [ht] at hP1
  obtain ⟨hP, hD⟩ := va_join (wr := [((u 1), .inl (cI, 384, .inl W0)), ((u 2), .inr (1, [.ref (u 3), .ref (u 4), .int 0])), ((u 3), .inl (cZ, 64, .inl (fun _ => 0))), ((u 4), .inl (cI, 64, .inl (fun _ => 0))), ((u 5), .inl (cI, 64, .inl (fun _ => 0))), ((u 8), .inr (1, [.ref (u 9), .ref (u 10), .int 0])), ((u 9), .inl (cZ, 64, .inl (fun _ => 0))), ((u 10), .inl (cI, 64, .inl (fun _ => 0))), ((u 11), .inl (cZ, 64, .inl (fun _ => 0))), ((u 13), .inr (1, [.ref (u 14), .ref (u 15), .int 0])), ((u 14), .inl (cZ, 64, .inl (fun _ => 0))), ((u 15), .inl (cI, 64, .inl (fun _ => 0))), ((u 16), .inl (cZ, 64, .inl (fun _ => 0))), ((u 18), .inr (1, [.ref (u 19), .ref (u 20), .int 0])), ((u 19), .inl (cZ, 64, .inl (fun _ => 0))), ((u 20), .inl (cI, 64, .inl (fun _ => 0))), ((u 21), .inl (cZ, 64, .inl (fun _ => 0))), ((v 0), .inl (cI, 384, .inl MW0)), ((v 1), .inl (cZ, 64, .inl (fun _ => 0))), ((v 2), .inl (cI, 64, .inl (fun _ => 0))), ((v 3), .inl (cI, 64, .inl (fun _ => 0))), ((v 5), .inl (cI, 3, .inl (fun _ => 0))), ((v 6), .inl (cZ, 192, .inl (fun _ => 0))), ((v 7), .inl (cI, 192, .inl (fun _ => 0))), ((v 8), .inl (cI, 192, .inl (fun _ => 0))), ((v 9), .inl (cI, 192, .inl (fun _ => 0))), (o9, .inl (cJ, 1, .inr (.inl (fun _ => 0))))]) (w1 := [(m0, .inr (4, [.int 2, .ref (v 0), .int 0, .int (-1), .int 0, .ref (v 1), .ref (v 2), .ref (v 3), .int 0, .int 1, .int 0, .int 0, .ref (v 4), .ref (v 5), .ref (v 6), .ref (v 7), .ref (v 8), .ref (v 9)]))]) hP hD [17, 22] [0, 1, 2, 3, 4, 5, 6, 7, 8, 9, 10, 11, 12, 13, 14, 15, 16, 18, 19, 20, 21, 23, 24, 25, 26, 27, 28] rfl rfl (by decide) (by decide) hk1 hFc hP1 hD1
  generalize H1 = H at hP hS ⊢
  have hP : va_P (dC, dI) vwC [((u 1), .inl (cI, 384, .inl W0)), ((u 2), .inr (1, [.ref (u 3), .ref (u 4), .int 0])), ((u 3), .inl (cZ, 64, .inl (fun _ => 0))), ((u 4), .inl (cI, 64, .inl (fun _ => 0))), ((u 5), .inl (cI, 64, .inl (fun _ => 0))), ((u 8), .inr (1, [.ref (u 9), .ref (u 10), .int 0])), ((u 9), .inl (cZ, 64, .inl (fun _ => 0))), ((u 10), .inl (cI, 64, .inl (fun _ => 0))), ((u 11), .inl (cZ, 64, .inl (fun _ => 0))), ((u 13), .inr (1, [.ref (u 14), .ref (u 15), .int 0])), ((u 14), .inl (cZ, 64, .inl (fun _ => 0))), ((u 15), .inl (cI, 64, .inl (fun _ => 0))), ((u 16), .inl (cZ, 64, .inl (fun _ => 0))), ((u 18), .inr (1, [.ref (u 19), .ref (u 20), .int 0])), ((u 19), .inl (cZ, 64, .inl (fun _ => 0))), ((u 20), .inl (cI, 64, .inl (fun _ => 0))), ((u 21), .inl (cZ, 64, .inl (fun _ => 0))), ((v 0), .inl (cI, 384, .inl MW0)), ((v 1), .inl (cZ, 64, .inl (fun _ => 0))), ((v 2), .inl (cI, 64, .inl (fun _ => 0))), ((v 3), .inl (cI, 64, .inl (fun _ => 0))), ((v 5), .inl (cI, 3, .inl (fun _ => 0))), ((v 6), .inl (cZ, 192, .inl (fun _ => 0))), ((v 7), .inl (cI, 192, .inl (fun _ => 0))), ((v 8), .inl (cI, 192, .inl (fun _ => 0))), ((v 9), .inl (cI, 192, .inl (fun _ => 0))), (o9, .inl (cJ, 1, .inr (.inl (fun _ => 0)))), (m0, .inr (4, [.int 2, .ref (v 0), .int 0, .int (-1), .int 0, .ref (v 1), .ref (v 2), .ref (v 3), .int 0, .int 1, .int 0, .int 0, .ref (v 4), .ref (v 5), .ref (v 6), .ref (v 7), .ref (v 8), .ref (v 9)]))] H := hP
  have hD : va_D A [((u 1), .inl (cI, 384, .inl W0)), ((u 2), .inr (1, [.ref (u 3), .ref (u 4), .int 0])), ((u 3), .inl (cZ, 64, .inl (fun _ => 0))), ((u 4), .inl (cI, 64, .inl (fun _ => 0))), ((u 5), .inl (cI, 64, .inl (fun _ => 0))), ((u 8), .inr (1, [.ref (u 9), .ref (u 10), .int 0])), ((u 9), .inl (cZ, 64, .inl (fun _ => 0))), ((u 10), .inl (cI, 64, .inl (fun _ => 0))), ((u 11), .inl (cZ, 64, .inl (fun _ => 0))), ((u 13), .inr (1, [.ref (u 14), .ref (u 15), .int 0])), ((u 14), .inl (cZ, 64, .inl (fun _ => 0))), ((u 15), .inl (cI, 64, .inl (fun _ => 0))), ((u 16), .inl (cZ, 64, .inl (fun _ => 0))), ((u 18), .inr (1, [.ref (u 19), .ref (u 20), .int 0])), ((u 19), .inl (cZ, 64, .inl (fun _ => 0))), ((u 20), .inl (cI, 64, .inl (fun _ => 0))), ((u 21), .inl (cZ, 64, .inl (fun _ => 0))), ((v 0), .inl (cI, 384, .inl MW0)), ((v 1), .inl (cZ, 64, .inl (fun _ => 0))), ((v 2), .inl (cI, 64, .inl (fun _ => 0))), ((v 3), .inl (cI, 64, .inl (fun _ => 0))), ((v 5), .inl (cI, 3, .inl (fun _ => 0))), ((v 6), .inl (cZ, 192, .inl (fun _ => 0))), ((v 7), .inl (cI, 192, .inl (fun _ => 0))), ((v 8), .inl (cI, 192, .inl (fun _ => 0))), ((v 9), .inl (cI, 192, .inl (fun _ => 0))), (o9, .inl (cJ, 1, .inr (.inl (fun _ => 0)))), (m0, .inr (4, [.int 2, .ref (v 0), .int 0, .int (-1), .int 0, .ref (v 1), .ref (v 2), .ref (v 3), .int 0, .int 1, .int 0, .int 0, .ref (v 4), .ref (v 5), .ref (v 6), .ref (v 7), .ref (v 8), .ref (v 9)]))] := hD
  obtain rfl : r3 = 0 := he9
  refine lv_istore hx hb dL_law_207 hl (by decide) rfl (fun ls hl => ?_)
  have hl : lv_has ls 7 [(6, .int 0), (5, .int 2), (4, .int 0), (3, .ref o9), (2, .ref m0), (1, .ref x), (0, .ref b)] := hl
  refine lv_aload_n hx hb dL_law_209 rfl (lv_at hl 4 rfl) ?_
  have hPc := hP.sub (ws' := [(m0, .inr (4, [.int 2, .ref (v 0), .int 0, .int (-1), .int 0, .ref (v 1), .ref (v 2), .ref (v 3), .int 0, .int 1, .int 0, .int 0, .ref (v 4), .ref (v 5), .ref (v 6), .ref (v 7), .ref (v 8), .ref (v 9)]))]) [27] rfl
  refine vp_callSi (W.runV (C := "LoggedStoreModel") (b := m0) (As := []) (rest := []) ⟨hx, hb, hml, hown, hw⟩ (c_thrown l dC dI cI cZ cJ cT m0 (v 0) (v 1) (v 2) (v 3) (v 4) (v 5) (v 6) (v 7) (v 8) (v 9) 2) ⟨callB_of 0 hw (gA0 w670) rfl rfl rfl (hw _ w45) (hw _ w667) (by decide +kernel) ⟨Nat.le_of_ble_eq_true rfl, Nat.le_of_ble_eq_true rfl⟩, (hw _ w668), (hw _ w669)⟩ ⟨kb_S, va_recv (ci := 4) (q0 := 27) hK hP rfl rfl, fun U hU hW => ⟨rfl, by rw [hU]; exact hPc, hKK.moved hW⟩⟩ rfl rfl hl.1 rfl (lv_room (Nat.le_of_ble_eq_true rfl)) dL_law_210 ⟨Nat.le_of_ble_eq_true rfl, Nat.le_of_ble_eq_true rfl⟩) (fun r5 e6 => ?_)
  obtain rfl : r5 = 2 := e6
  refine lv_iload hx hb dL_law_213 (lv_at hl 1 rfl) ?_
  refine lv_icmp_eq (tgt := 220) hx hb dL_law_215 (by decide) (fun _ => ?_) (fun h9 => absurd (by decide) h9)
  refine lv_iload hx hb dL_law_220 (lv_at hl 1 rfl) ?_
  refine lv_if_ne (tgt := 237) hx hb dL_law_222 (by decide) (fun _ => ?_) (fun h9 => absurd h9 (by decide))
  refine lv_goto (tgt := 885) hx hb dL_law_237 (by decide) ?_
  have hl := lv_sub (l' := [(4, .int 0), (0, .ref b)]) hl [2, 6] rfl
  exact law_end l hl9 C00 hKK hX hX2 hAe (by decide) (by decide) hS hl

set_option maxHeartbeats 4000000 in
set_option maxRecDepth 100000 in
theorem law_2 {p : Program} {e : Env} {s : State} {m : MethodId} {below : List Frame} {meth : Method} {c : Code} (l : Launch) (hl9 : l.stackTraces = false) {b : Nat} {xs : Nat → Int32} (C0 : lw_At p s m meth c b 4 xs) {dC : Nat → ClassId} {dI : Nat → Nat → Nat} {cI cZ cJ cT : ClassId} (hKK : KK dC dI cI cZ cJ cT s) (hX : KS s) (hX2 : KS2 s) {A : Nat → Prop} (hAe : A = fun q => s.heap.size ≤ q) {x m0 o9 : Nat} {u v : Nat → Nat} {H : Heap} {locs : List Loc} (hP : va_P (dC, dI) vwC [(x, .inr (3, [.ref (u 0), .ref (u 2), .ref (u 5), .ref (u 6), .int 0, .int 1, .int 0, .int 22])), ((u 0), .inr (0, [.ref (u 1), .int (-1), .int 0, .int 0])), ((u 1), .inl (cI, 384, .inl W0)), ((u 2), .inr (1, [.ref (u 3), .ref (u 4), .int 0])), ((u 3), .inl (cZ, 64, .inl (fun _ => 0))), ((u 4), .inl (cI, 64, .inl (fun _ => 0))), ((u 5), .inl (cI, 64, .inl (fun _ => 0))), ((u 6), .inl (cT, 3, .inr (.inr (.inr (.inr (tF (u 7) (u 12) (u 17))))))), ((u 7), .inr (2, [.ref (u 8), .ref (u 11), .int 0, .int 0, .int 0])), ((u 8), .inr (1, [.ref (u 9), .ref (u 10), .int 0])), ((u 9), .inl (cZ, 64, .inl (fun _ => 0))), ((u 10), .inl (cI, 64, .inl (fun _ => 0))), ((u 11), .inl (cZ, 64, .inl (fun _ => 0))), ((u 12), .inr (2, [.ref (u 13), .ref (u 16), .int 0, .int 0, .int 0])), ((u 13), .inr (1, [.ref (u 14), .ref (u 15), .int 0])), ((u 14), .inl (cZ, 64, .inl (fun _ => 0))), ((u 15), .inl (cI, 64, .inl (fun _ => 0))), ((u 16), .inl (cZ, 64, .inl (fun _ => 0))), ((u 17), .inr (2, [.ref (u 18), .ref (u 21), .int 0, .int 0, .int 0])), ((u 18), .inr (1, [.ref (u 19), .ref (u 20), .int 0])), ((u 19), .inl (cZ, 64, .inl (fun _ => 0))), ((u 20), .inl (cI, 64, .inl (fun _ => 0))), ((u 21), .inl (cZ, 64, .inl (fun _ => 0))), (m0, .inr (4, [.int 0, .ref (v 0), .int 0, .int (-1), .int 0, .ref (v 1), .ref (v 2), .ref (v 3), .int 0, .int 1, .int 0, .int 0, .ref (v 4), .ref (v 5), .ref (v 6), .ref (v 7), .ref (v 8), .ref (v 9)])), ((v 0), .inl (cI, 384, .inl MW0)), ((v 1), .inl (cZ, 64, .inl (fun _ => 0))), ((v 2), .inl (cI, 64, .inl (fun _ => 0))), ((v 3), .inl (cI, 64, .inl (fun _ => 0))), ((v 4), .inl (cZ, 3, .inl (fun _ => 0))), ((v 5), .inl (cI, 3, .inl (fun _ => 0))), ((v 6), .inl (cZ, 192, .inl (fun _ => 0))), ((v 7), .inl (cI, 192, .inl (fun _ => 0))), ((v 8), .inl (cI, 192, .inl (fun _ => 0))), ((v 9), .inl (cI, 192, .inl (fun _ => 0))), (o9, .inl (cJ, 1, .inr (.inl (fun _ => 0))))] H) (hD : va_D A [(x, .inr (3, [.ref (u 0), .ref (u 2), .ref (u 5), .ref (u 6), .int 0, .int 1, .int 0, .int 22])), ((u 0), .inr (0, [.ref (u 1), .int (-1), .int 0, .int 0])), ((u 1), .inl (cI, 384, .inl W0)), ((u 2), .inr (1, [.ref (u 3), .ref (u 4), .int 0])), ((u 3), .inl (cZ, 64, .inl (fun _ => 0))), ((u 4), .inl (cI, 64, .inl (fun _ => 0))), ((u 5), .inl (cI, 64, .inl (fun _ => 0))), ((u 6), .inl (cT, 3, .inr (.inr (.inr (.inr (tF (u 7) (u 12) (u 17))))))), ((u 7), .inr (2, [.ref (u 8), .ref (u 11), .int 0, .int 0, .int 0])), ((u 8), .inr (1, [.ref (u 9), .ref (u 10), .int 0])), ((u 9), .inl (cZ, 64, .inl (fun _ => 0))), ((u 10), .inl (cI, 64, .inl (fun _ => 0))), ((u 11), .inl (cZ, 64, .inl (fun _ => 0))), ((u 12), .inr (2, [.ref (u 13), .ref (u 16), .int 0, .int 0, .int 0])), ((u 13), .inr (1, [.ref (u 14), .ref (u 15), .int 0])), ((u 14), .inl (cZ, 64, .inl (fun _ => 0))), ((u 15), .inl (cI, 64, .inl (fun _ => 0))), ((u 16), .inl (cZ, 64, .inl (fun _ => 0))), ((u 17), .inr (2, [.ref (u 18), .ref (u 21), .int 0, .int 0, .int 0])), ((u 18), .inr (1, [.ref (u 19), .ref (u 20), .int 0])), ((u 19), .inl (cZ, 64, .inl (fun _ => 0))), ((u 20), .inl (cI, 64, .inl (fun _ => 0))), ((u 21), .inl (cZ, 64, .inl (fun _ => 0))), (m0, .inr (4, [.int 0, .ref (v 0), .int 0, .int (-1), .int 0, .ref (v 1), .ref (v 2), .ref (v 3), .int 0, .int 1, .int 0, .int 0, .ref (v 4), .ref (v 5), .ref (v 6), .ref (v 7), .ref (v 8), .ref (v 9)])), ((v 0), .inl (cI, 384, .inl MW0)), ((v 1), .inl (cZ, 64, .inl (fun _ => 0))), ((v 2), .inl (cI, 64, .inl (fun _ => 0))), ((v 3), .inl (cI, 64, .inl (fun _ => 0))), ((v 4), .inl (cZ, 3, .inl (fun _ => 0))), ((v 5), .inl (cI, 3, .inl (fun _ => 0))), ((v 6), .inl (cZ, 192, .inl (fun _ => 0))), ((v 7), .inl (cI, 192, .inl (fun _ => 0))), ((v 8), .inl (cI, 192, .inl (fun _ => 0))), ((v 9), .inl (cI, 192, .inl (fun _ => 0))), (o9, .inl (cJ, 1, .inr (.inl (fun _ => 0))))]) (hS : va_S A s.heap H locs) {ls : Array Slot} (hl : lv_has ls 7 [(4, .int 0), (3, .ref o9), (2, .ref m0), (1, .ref x), (0, .ref b)]) : W p l e room_1 s m #[Value.ref b] below meth c H locs 35 2563 (lw_Z below #[Value.ref b] s) (F0 m 240 ls []) := by
  have C00 := C0
  obtain ⟨hx, hb, hr, hml, hown, hts, hXs, hbl, hlocks, hgv⟩ := C0
  have hown : s.vm.findClass "LoggedStoreLaw" = some m.cls := hown
  have hw : ∀ w ∈ wsA, w.before #[Value.ref b] s = true := fun w h => hts w (List.mem_filter.mp h).1
  have hbA : ¬ A b := by rw [hAe]; exact Nat.not_le.mpr hbl
  have hK := hKK.1
  have hA : ∀ q : Nat, s.heap.size ≤ q → A q := by rw [hAe]; exact fun q h => h
  have hst : ∀ (a : Addr) (cell : Cell), s.heap[a]? = some cell → cell.vm.isStatics = true → H[a]? = some cell := fun a cell h _ => by rw [hS.2.1 a (Array.getElem?_eq_some_iff.mp h).1 (by rw [hAe]; exact Nat.not_le.mpr (Array.getElem?_eq_some_iff.mp h).1)]; exact h
  refine lv_aload_n hx hb dL_law_240 rfl (lv_at hl 3 rfl) ?_
  refine lv_aload_n hx hb dL_law_241 rfl (lv_at hl 4 rfl) ?_
  refine lv_iload hx hb dL_law_242 (lv_at hl 0 rfl) ?_
  refine lv_iconst (v := 1) hx hb dL_law_244 (by decide) ?_
  refine lv_iadd hx hb dL_law_245 ?_
  refine lv_topi (nm_r (e' := 1) (by decide +kernel) ?_)
  refine va_sld hx hb hXs hbl hbA hS (tv_in (by decide +kernel)) dL_law_246 ?_
  refine lv_topi (nm_r (e' := xs 1) (congrArg xs (by decide +kernel : (1 : Int32).toNatClampNeg = 1)) ?_)
  refine lv_aload_n hx hb dL_law_247 rfl (lv_at hl 4 rfl) ?_
  refine lv_iload hx hb dL_law_248 (lv_at hl 0 rfl) ?_
  refine lv_iconst (v := 2) hx hb dL_law_250 (by decide) ?_
  refine lv_iadd hx hb dL_law_251 ?_
  refine lv_topi (nm_r (e' := 2) (by decide +kernel) ?_)
  refine va_sld hx hb hXs hbl hbA hS (tv_in (by decide +kernel)) dL_law_252 ?_
  refine lv_topi (nm_r (e' := xs 2) (congrArg xs (by decide +kernel : (2 : Int32).toNatClampNeg = 2)) ?_)
  refine lv_aload_n hx hb dL_law_253 rfl (lv_at hl 4 rfl) ?_
  refine lv_iload hx hb dL_law_254 (lv_at hl 0 rfl) ?_
  refine lv_iconst (v := 3) hx hb dL_law_256 (by decide) ?_
  refine lv_iadd hx hb dL_law_257 ?_
  refine lv_topi (nm_r (e' := 3) (by decide +kernel) ?_)
  refine va_sld hx hb hXs hbl hbA hS (tv_in (by decide +kernel)) dL_law_258 ?_
  refine lv_topi (nm_r (e' := xs 3) (congrArg xs (by decide +kernel : (3 : Int32).toNatClampNeg = 3)) ?_)
  refine lv_aload_n hx hb dL_law_259 rfl (lv_at hl 1 rfl) ?_
  have hPc := hP.sub (ws' := [(x, .inr (3, [.ref (u 0), .ref (u 2), .ref (u 5), .ref (u 6), .int 0, .int 1, .int 0, .int 22])), ((u 6), .inl (cT, 3, .inr (.inr (.inr (.inr (tF (u 7) (u 12) (u 17))))))), ((u 7), .inr (2, [.ref (u 8), .ref (u 11), .int 0, .int 0, .int 0])), ((u 12), .inr (2, [.ref (u 13), .ref (u 16), .int 0, .int 0, .int 0])), ((u 17), .inr (2, [.ref (u 18), .ref (u 21), .int 0, .int 0, .int 0])), ((u 0), .inr (0, [.ref (u 1), .int (-1), .int 0, .int 0]))]) [0, 7, 8, 13, 18, 1] rfl
  have hDc := hD.sub (ws' := [(x, .inr (3, [.ref (u 0), .ref (u 2), .ref (u 5), .ref (u 6), .int 0, .int 1, .int 0, .int 22])), ((u 6), .inl (cT, 3, .inr (.inr (.inr (.inr (tF (u 7) (u 12) (u 17))))))), ((u 7), .inr (2, [.ref (u 8), .ref (u 11), .int 0, .int 0, .int 0])), ((u 12), .inr (2, [.ref (u 13), .ref (u 16), .int 0, .int 0, .int 0])), ((u 17), .inr (2, [.ref (u 18), .ref (u 21), .int 0, .int 0, .int 0])), ((u 0), .inr (0, [.ref (u 1), .int (-1), .int 0, .int 0]))]) [0, 7, 8, 13, 18, 1] (by decide) rfl
  have hFc := va_free (wc := [(x, .inr (3, [.ref (u 0), .ref (u 2), .ref (u 5), .ref (u 6), .int 0, .int 1, .int 0, .int 22])), ((u 6), .inl (cT, 3, .inr (.inr (.inr (.inr (tF (u 7) (u 12) (u 17))))))), ((u 7), .inr (2, [.ref (u 8), .ref (u 11), .int 0, .int 0, .int 0])), ((u 12), .inr (2, [.ref (u 13), .ref (u 16), .int 0, .int 0, .int 0])), ((u 17), .inr (2, [.ref (u 18), .ref (u 21), .int 0, .int 0, .int 0])), ((u 0), .inr (0, [.ref (u 1), .int (-1), .int 0, .int 0]))]) hD hS hA [0, 7, 8, 13, 18, 1] rfl
  refine va_calli (tx_runW (As := [.ref x, .int (xs 1), .int (xs 2), .int (xs 3), .ref o9]) (rest := []) ⟨hx, hb, hml, hown, hw⟩ (h_put_x l dC dI cI cZ cJ cT hl9 x (u 0) (u 1) (u 2) (u 5) (u 6) (u 7) (u 8) (u 11) (u 12) (u 13) (u 16) (u 17) (u 18) (u 21) (xs 1) (xs 2) (xs 3) o9 H.size) (tx_cw 5 hw (gA0 w449) rfl rfl rfl (hw _ w39) (hw _ w447) (hw _ w448) (by decide +kernel) ⟨Nat.le_of_ble_eq_true rfl, Nat.le_of_ble_eq_true rfl⟩) ⟨kb_W, fun U hU hW => ⟨rfl, by rw [hU], by rw [hU]; exact hPc, hKK.moved hW, hX.moved hW (by rw [hU]; exact hst), hDc.weaken (fun _ _ _ _ => trivial)⟩⟩ rfl rfl hl.1 rfl (lv_room (Nat.le_of_ble_eq_true rfl)) dL_law_260 ⟨Nat.le_of_ble_eq_true rfl, Nat.le_of_ble_eq_true rfl⟩) hS (fun q _ h => hFc q h) hFc (fun r1 u2 t H1 locs ht hvm he9 hB hz1 hk1 hS => ?_)
  obtain ⟨hP, hD⟩ := va_join (wr := [((u 1), .inl (cI, 384, .inl W0)), ((u 2), .inr (1, [.ref (u 3), .ref (u 4), .int 0])), ((u 3), .inl (cZ, 64, .inl (fun _ => 0))), ((u 4), .inl (cI, 64, .inl (fun _ => 0))), ((u 5), .inl (cI, 64, .inl (fun _ => 0))), ((u 8), .inr (1, [.ref (u 9), .ref (u 10), .int 0])), ((u 9), .inl (cZ, 64, .inl (fun _ => 0))), ((u 10), .inl (cI, 64, .inl (fun _ => 0))), ((u 11), .inl (cZ, 64, .inl (fun _ => 0))), ((u 13), .inr (1, [.ref (u 14), .ref (u 15), .int 0])), ((u 14), .inl (cZ, 64, .inl (fun _ => 0))), ((u 15), .inl (cI, 64, .inl (fun _ => 0))), ((u 16), .inl (cZ, 64, .inl (fun _ => 0))), ((u 18), .inr (1, [.ref (u 19), .ref (u 20), .int 0])), ((u 19), .inl (cZ, 64, .inl (fun _ => 0))), ((u 20), .inl (cI, 64, .inl (fun _ => 0))), ((u 21), .inl (cZ, 64, .inl (fun _ => 0))), (m0, .inr (4, [.int 0, .ref (v 0), .int 0, .int (-1), .int 0, .ref (v 1), .ref (v 2), .ref (v 3), .int 0, .int 1, .int 0, .int 0, .ref (v 4), .ref (v 5), .ref (v 6), .ref (v 7), .ref (v 8), .ref (v 9)])), ((v 0), .inl (cI, 384, .inl MW0)), ((v 1), .inl (cZ, 64, .inl (fun _ => 0))), ((v 2), .inl (cI, 64, .inl (fun _ => 0))), ((v 3), .inl (cI, 64, .inl (fun _ => 0))), ((v 4), .inl (cZ, 3, .inl (fun _ => 0))), ((v 5), .inl (cI, 3, .inl (fun _ => 0))), ((v 6), .inl (cZ, 192, .inl (fun _ => 0))), ((v 7), .inl (cI, 192, .inl (fun _ => 0))), ((v 8), .inl (cI, 192, .inl (fun _ => 0))), ((v 9), .inl (cI, 192, .inl (fun _ => 0))), (o9, .inl (cJ, 1, .inr (.inl (fun _ => 0))))]) (w1 := []) hP hD [0, 7, 8, 13, 18, 1] [2, 3, 4, 5, 6, 9, 10, 11, 12, 14, 15, 16, 17, 19, 20, 21, 22, 23, 24, 25, 26, 27, 28, 29, 30, 31, 32, 33, 34] rfl rfl (by decide) (by decide) hk1 hFc tk_P0 tk_D0
  generalize H1 = H at hP hS ⊢
  have hP : va_P (dC, dI) vwC [((u 1), .inl (cI, 384, .inl W0)), ((u 2), .inr (1, [.ref (u 3), .ref (u 4), .int 0])), ((u 3), .inl (cZ, 64, .inl (fun _ => 0))), ((u 4), .inl (cI, 64, .inl (fun _ => 0))), ((u 5), .inl (cI, 64, .inl (fun _ => 0))), ((u 8), .inr (1, [.ref (u 9), .ref (u 10), .int 0])), ((u 9), .inl (cZ, 64, .inl (fun _ => 0))), ((u 10), .inl (cI, 64, .inl (fun _ => 0))), ((u 11), .inl (cZ, 64, .inl (fun _ => 0))), ((u 13), .inr (1, [.ref (u 14), .ref (u 15), .int 0])), ((u 14), .inl (cZ, 64, .inl (fun _ => 0))), ((u 15), .inl (cI, 64, .inl (fun _ => 0))), ((u 16), .inl (cZ, 64, .inl (fun _ => 0))), ((u 18), .inr (1, [.ref (u 19), .ref (u 20), .int 0])), ((u 19), .inl (cZ, 64, .inl (fun _ => 0))), ((u 20), .inl (cI, 64, .inl (fun _ => 0))), ((u 21), .inl (cZ, 64, .inl (fun _ => 0))), (m0, .inr (4, [.int 0, .ref (v 0), .int 0, .int (-1), .int 0, .ref (v 1), .ref (v 2), .ref (v 3), .int 0, .int 1, .int 0, .int 0, .ref (v 4), .ref (v 5), .ref (v 6), .ref (v 7), .ref (v 8), .ref (v 9)])), ((v 0), .inl (cI, 384, .inl MW0)), ((v 1), .inl (cZ, 64, .inl (fun _ => 0))), ((v 2), .inl (cI, 64, .inl (fun _ => 0))), ((v 3), .inl (cI, 64, .inl (fun _ => 0))), ((v 4), .inl (cZ, 3, .inl (fun _ => 0))), ((v 5), .inl (cI, 3, .inl (fun _ => 0))), ((v 6), .inl (cZ, 192, .inl (fun _ => 0))), ((v 7), .inl (cI, 192, .inl (fun _ => 0))), ((v 8), .inl (cI, 192, .inl (fun _ => 0))), ((v 9), .inl (cI, 192, .inl (fun _ => 0))), (o9, .inl (cJ, 1, .inr (.inl (fun _ => 0))))] H := hP
  have hD : va_D A [((u 1), .inl (cI, 384, .inl W0)), ((u 2), .inr (1, [.ref (u 3), .ref (u 4), .int 0])), ((u 3), .inl (cZ, 64, .inl (fun _ => 0))), ((u 4), .inl (cI, 64, .inl (fun _ => 0))), ((u 5), .inl (cI, 64, .inl (fun _ => 0))), ((u 8), .inr (1, [.ref (u 9), .ref (u 10), .int 0])), ((u 9), .inl (cZ, 64, .inl (fun _ => 0))), ((u 10), .inl (cI, 64, .inl (fun _ => 0))), ((u 11), .inl (cZ, 64, .inl (fun _ => 0))), ((u 13), .inr (1, [.ref (u 14), .ref (u 15), .int 0])), ((u 14), .inl (cZ, 64, .inl (fun _ => 0))), ((u 15), .inl (cI, 64, .inl (fun _ => 0))), ((u 16), .inl (cZ, 64, .inl (fun _ => 0))), ((u 18), .inr (1, [.ref (u 19), .ref (u 20), .int 0])), ((u 19), .inl (cZ, 64, .inl (fun _ => 0))), ((u 20), .inl (cI, 64, .inl (fun _ => 0))), ((u 21), .inl (cZ, 64, .inl (fun _ => 0))), (m0, .inr (4, [.int 0, .ref (v 0), .int 0, .int (-1), .int 0, .ref (v 1), .ref (v 2), .ref (v 3), .int 0, .int 1, .int 0, .int 0, .ref (v 4), .ref (v 5), .ref (v 6), .ref (v 7), .ref (v 8), .ref (v 9)])), ((v 0), .inl (cI, 384, .inl MW0)), ((v 1), .inl (cZ, 64, .inl (fun _ => 0))), ((v 2), .inl (cI, 64, .inl (fun _ => 0))), ((v 3), .inl (cI, 64, .inl (fun _ => 0))), ((v 4), .inl (cZ, 3, .inl (fun _ => 0))), ((v 5), .inl (cI, 3, .inl (fun _ => 0))), ((v 6), .inl (cZ, 192, .inl (fun _ => 0))), ((v 7), .inl (cI, 192, .inl (fun _ => 0))), ((v 8), .inl (cI, 192, .inl (fun _ => 0))), ((v 9), .inl (cI, 192, .inl (fun _ => 0))), (o9, .inl (cJ, 1, .inr (.inl (fun _ => 0))))] := hD
  obtain rfl : r1 = 2 := he9
  refine lv_istore hx hb dL_law_263 hl (by decide) rfl (fun ls hl => ?_)
  have hl : lv_has ls 7 [(5, .int 2), (4, .int 0), (3, .ref o9), (2, .ref m0), (1, .ref x), (0, .ref b)] := hl
  refine lv_aload_n hx hb dL_law_265 rfl (lv_at hl 3 rfl) ?_
  refine lv_aload_n hx hb dL_law_266 rfl (lv_at hl 5 rfl) ?_
  refine lv_iload hx hb dL_law_267 (lv_at hl 1 rfl) ?_
  refine lv_iconst (v := 1) hx hb dL_law_269 (by decide) ?_
  refine lv_iadd hx hb dL_law_270 ?_
  refine lv_topi (nm_r (e' := 1) (by decide +kernel) ?_)
  refine va_sld hx hb hXs hbl hbA hS (tv_in (by decide +kernel)) dL_law_271 ?_
  refine lv_topi (nm_r (e' := xs 1) (congrArg xs (by decide +kernel : (1 : Int32).toNatClampNeg = 1)) ?_)
  refine lv_aload_n hx hb dL_law_272 rfl (lv_at hl 5 rfl) ?_
  refine lv_iload hx hb dL_law_273 (lv_at hl 1 rfl) ?_
  refine lv_iconst (v := 2) hx hb dL_law_275 (by decide) ?_
  refine lv_iadd hx hb dL_law_276 ?_
  refine lv_topi (nm_r (e' := 2) (by decide +kernel) ?_)
  refine va_sld hx hb hXs hbl hbA hS (tv_in (by decide +kernel)) dL_law_277 ?_
  refine lv_topi (nm_r (e' := xs 2) (congrArg xs (by decide +kernel : (2 : Int32).toNatClampNeg = 2)) ?_)
  refine lv_aload_n hx hb dL_law_278 rfl (lv_at hl 5 rfl) ?_
  refine lv_iload hx hb dL_law_279 (lv_at hl 1 rfl) ?_
  refine lv_iconst (v := 3) hx hb dL_law_281 (by decide) ?_
  refine lv_iadd hx hb dL_law_282 ?_
  refine lv_topi (nm_r (e' := 3) (by decide +kernel) ?_)
  refine va_sld hx hb hXs hbl hbA hS (tv_in (by decide +kernel)) dL_law_283 ?_
  refine lv_topi (nm_r (e' := xs 3) (congrArg xs (by decide +kernel : (3 : Int32).toNatClampNeg = 3)) ?_)
  have hPc := hP.sub (ws' := [(m0, .inr (4, [.int 0, .ref (v 0), .int 0, .int (-1), .int 0, .ref (v 1), .ref (v 2), .ref (v 3), .int 0, .int 1, .int 0, .int 0, .ref (v 4), .ref (v 5), .ref (v 6), .ref (v 7), .ref (v 8), .ref (v 9)])), ((v 4), .inl (cZ, 3, .inl (fun _ => 0)))]) [17, 22] rfl
  have hDc := hD.sub (ws' := [(m0, .inr (4, [.int 0, .ref (v 0), .int 0, .int (-1), .int 0, .ref (v 1), .ref (v 2), .ref (v 3), .int 0, .int 1, .int 0, .int 0, .ref (v 4), .ref (v 5), .ref (v 6), .ref (v 7), .ref (v 8), .ref (v 9)])), ((v 4), .inl (cZ, 3, .inl (fun _ => 0)))]) [17, 22] (by decide) rfl
  have hFc := va_free (wc := [(m0, .inr (4, [.int 0, .ref (v 0), .int 0, .int (-1), .int 0, .ref (v 1), .ref (v 2), .ref (v 3), .int 0, .int 1, .int 0, .int 0, .ref (v 4), .ref (v 5), .ref (v 6), .ref (v 7), .ref (v 8), .ref (v 9)])), ((v 4), .inl (cZ, 3, .inl (fun _ => 0)))]) hD hS hA [17, 22] rfl
  refine va_calli (va_runV (C := "LoggedStoreModel") (b := m0) (As := [.int (xs 1), .int (xs 2), .int (xs 3)]) (rest := []) ⟨hx, hb, hml, hown, hw⟩ (c_M_put l dC dI cI cZ cJ cT m0 (v 0) (v 1) (v 2) (v 3) (v 4) (v 5) (v 6) (v 7) (v 8) (v 9) (xs 1) (xs 2) (xs 3) H.size) ⟨callB_of 3 hw (gA0 w697) rfl rfl rfl (hw _ w45) (hw _ w694) (by decide +kernel) ⟨Nat.le_of_ble_eq_true rfl, Nat.le_of_ble_eq_true rfl⟩, (hw _ w695), (hw _ w696)⟩ ⟨kb_Q, va_recv (ci := 4) (q0 := 17) hK hP rfl rfl, fun U hU hW => ⟨rfl, by rw [hU], by rw [hU]; exact hPc, hKK.moved hW, hDc.weaken (fun _ _ _ _ => trivial)⟩⟩ rfl rfl hl.1 rfl (lv_room (Nat.le_of_ble_eq_true rfl)) dL_law_284 ⟨Nat.le_of_ble_eq_true rfl, Nat.le_of_ble_eq_true rfl⟩) hS (fun q _ h => hFc q h) hFc (fun r3 u4 t H1 locs ht hvm he9 hB hz1 hk1 hS => ?_)
  obtain ⟨hP1, hD1⟩ := hB
  rw [ht] at hP1
  obtain ⟨hP, hD⟩ := va_join (wr := [((u 1), .inl (cI, 384, .inl W0)), ((u 2), .inr (1, [.ref (u 3), .ref (u 4), .int 0])), ((u 3), .inl (cZ, 64, .inl (fun _ => 0))), ((u 4), .inl (cI, 64, .inl (fun _ => 0))), ((u 5), .inl (cI, 64, .inl (fun _ => 0))), ((u 8), .inr (1, [.ref (u 9), .ref (u 10), .int 0])), ((u 9), .inl (cZ, 64, .inl (fun _ => 0))), ((u 10), .inl (cI, 64, .inl (fun _ => 0))), ((u 11), .inl (cZ, 64, .inl (fun _ => 0))), ((u 13), .inr (1, [.ref (u 14), .ref (u 15), .int 0])), ((u 14), .inl (cZ, 64, .inl (fun _ => 0))), ((u 15), .inl (cI, 64, .inl (fun _ => 0))), ((u 16), .inl (cZ, 64, .inl (fun _ => 0))), ((u 18), .inr (1, [.ref (u 19), .ref (u 20), .int 0])), ((u 19), .inl (cZ, 64, .inl (fun _ => 0))), ((u 20), .inl (cI, 64, .inl (fun _ => 0))), ((u 21), .inl (cZ, 64, .inl (fun _ => 0))), ((v 0), .inl (cI, 384, .inl MW0)), ((v 1), .inl (cZ, 64, .inl (fun _ => 0))), ((v 2), .inl (cI, 64, .inl (fun _ => 0))), ((v 3), .inl (cI, 64, .inl (fun _ => 0))), ((v 5), .inl (cI, 3, .inl (fun _ => 0))), ((v 6), .inl (cZ, 192, .inl (fun _ => 0))), ((v 7), .inl (cI, 192, .inl (fun _ => 0))), ((v 8), .inl (cI, 192, .inl (fun _ => 0))), ((v 9), .inl (cI, 192, .inl (fun _ => 0))), (o9, .inl (cJ, 1, .inr (.inl (fun _ => 0))))]) (w1 := [(m0, .inr (4, [.int 2, .ref (v 0), .int 0, .int (-1), .int 0, .ref (v 1), .ref (v 2), .ref (v 3), .int 0, .int 1, .int 0, .int 0, .ref (v 4), .ref (v 5), .ref (v 6), .ref (v 7), .ref (v 8), .ref (v 9)]))]) hP hD [17, 22] [0, 1, 2, 3, 4, 5, 6, 7, 8, 9, 10, 11, 12, 13, 14, 15, 16, 18, 19, 20, 21, 23, 24, 25, 26, 27, 28] rfl rfl (by decide) (by decide) hk1 hFc hP1 hD1
  generalize H1 = H at hP hS ⊢
  have hP : va_P (dC, dI) vwC [((u 1), .inl (cI, 384, .inl W0)), ((u 2), .inr (1, [.ref (u 3), .ref (u 4), .int 0])), ((u 3), .inl (cZ, 64, .inl (fun _ => 0))), ((u 4), .inl (cI, 64, .inl (fun _ => 0))), ((u 5), .inl (cI, 64, .inl (fun _ => 0))), ((u 8), .inr (1, [.ref (u 9), .ref (u 10), .int 0])), ((u 9), .inl (cZ, 64, .inl (fun _ => 0))), ((u 10), .inl (cI, 64, .inl (fun _ => 0))), ((u 11), .inl (cZ, 64, .inl (fun _ => 0))), ((u 13), .inr (1, [.ref (u 14), .ref (u 15), .int 0])), ((u 14), .inl (cZ, 64, .inl (fun _ => 0))), ((u 15), .inl (cI, 64, .inl (fun _ => 0))), ((u 16), .inl (cZ, 64, .inl (fun _ => 0))), ((u 18), .inr (1, [.ref (u 19), .ref (u 20), .int 0])), ((u 19), .inl (cZ, 64, .inl (fun _ => 0))), ((u 20), .inl (cI, 64, .inl (fun _ => 0))), ((u 21), .inl (cZ, 64, .inl (fun _ => 0))), ((v 0), .inl (cI, 384, .inl MW0)), ((v 1), .inl (cZ, 64, .inl (fun _ => 0))), ((v 2), .inl (cI, 64, .inl (fun _ => 0))), ((v 3), .inl (cI, 64, .inl (fun _ => 0))), ((v 5), .inl (cI, 3, .inl (fun _ => 0))), ((v 6), .inl (cZ, 192, .inl (fun _ => 0))), ((v 7), .inl (cI, 192, .inl (fun _ => 0))), ((v 8), .inl (cI, 192, .inl (fun _ => 0))), ((v 9), .inl (cI, 192, .inl (fun _ => 0))), (o9, .inl (cJ, 1, .inr (.inl (fun _ => 0)))), (m0, .inr (4, [.int 2, .ref (v 0), .int 0, .int (-1), .int 0, .ref (v 1), .ref (v 2), .ref (v 3), .int 0, .int 1, .int 0, .int 0, .ref (v 4), .ref (v 5), .ref (v 6), .ref (v 7), .ref (v 8), .ref (v 9)]))] H := hP
  have hD : va_D A [((u 1), .inl (cI, 384, .inl W0)), ((u 2), .inr (1, [.ref (u 3), .ref (u 4), .int 0])), ((u 3), .inl (cZ, 64, .inl (fun _ => 0))), ((u 4), .inl (cI, 64, .inl (fun _ => 0))), ((u 5), .inl (cI, 64, .inl (fun _ => 0))), ((u 8), .inr (1, [.ref (u 9), .ref (u 10), .int 0])), ((u 9), .inl (cZ, 64, .inl (fun _ => 0))), ((u 10), .inl (cI, 64, .inl (fun _ => 0))), ((u 11), .inl (cZ, 64, .inl (fun _ => 0))), ((u 13), .inr (1, [.ref (u 14), .ref (u 15), .int 0])), ((u 14), .inl (cZ, 64, .inl (fun _ => 0))), ((u 15), .inl (cI, 64, .inl (fun _ => 0))), ((u 16), .inl (cZ, 64, .inl (fun _ => 0))), ((u 18), .inr (1, [.ref (u 19), .ref (u 20), .int 0])), ((u 19), .inl (cZ, 64, .inl (fun _ => 0))), ((u 20), .inl (cI, 64, .inl (fun _ => 0))), ((u 21), .inl (cZ, 64, .inl (fun _ => 0))), ((v 0), .inl (cI, 384, .inl MW0)), ((v 1), .inl (cZ, 64, .inl (fun _ => 0))), ((v 2), .inl (cI, 64, .inl (fun _ => 0))), ((v 3), .inl (cI, 64, .inl (fun _ => 0))), ((v 5), .inl (cI, 3, .inl (fun _ => 0))), ((v 6), .inl (cZ, 192, .inl (fun _ => 0))), ((v 7), .inl (cI, 192, .inl (fun _ => 0))), ((v 8), .inl (cI, 192, .inl (fun _ => 0))), ((v 9), .inl (cI, 192, .inl (fun _ => 0))), (o9, .inl (cJ, 1, .inr (.inl (fun _ => 0)))), (m0, .inr (4, [.int 2, .ref (v 0), .int 0, .int (-1), .int 0, .ref (v 1), .ref (v 2), .ref (v 3), .int 0, .int 1, .int 0, .int 0, .ref (v 4), .ref (v 5), .ref (v 6), .ref (v 7), .ref (v 8), .ref (v 9)]))] := hD
  obtain rfl : r3 = 0 := he9
  refine lv_istore hx hb dL_law_287 hl (by decide) rfl (fun ls hl => ?_)
  have hl : lv_has ls 7 [(6, .int 0), (5, .int 2), (4, .int 0), (3, .ref o9), (2, .ref m0), (1, .ref x), (0, .ref b)] := hl
  refine lv_aload_n hx hb dL_law_289 rfl (lv_at hl 4 rfl) ?_
  have hPc := hP.sub (ws' := [(m0, .inr (4, [.int 2, .ref (v 0), .int 0, .int (-1), .int 0, .ref (v 1), .ref (v 2), .ref (v 3), .int 0, .int 1, .int 0, .int 0, .ref (v 4), .ref (v 5), .ref (v 6), .ref (v 7), .ref (v 8), .ref (v 9)]))]) [27] rfl
  refine vp_callSi (W.runV (C := "LoggedStoreModel") (b := m0) (As := []) (rest := []) ⟨hx, hb, hml, hown, hw⟩ (c_thrown l dC dI cI cZ cJ cT m0 (v 0) (v 1) (v 2) (v 3) (v 4) (v 5) (v 6) (v 7) (v 8) (v 9) 2) ⟨callB_of 0 hw (gA0 w670) rfl rfl rfl (hw _ w45) (hw _ w667) (by decide +kernel) ⟨Nat.le_of_ble_eq_true rfl, Nat.le_of_ble_eq_true rfl⟩, (hw _ w668), (hw _ w669)⟩ ⟨kb_S, va_recv (ci := 4) (q0 := 27) hK hP rfl rfl, fun U hU hW => ⟨rfl, by rw [hU]; exact hPc, hKK.moved hW⟩⟩ rfl rfl hl.1 rfl (lv_room (Nat.le_of_ble_eq_true rfl)) dL_law_290 ⟨Nat.le_of_ble_eq_true rfl, Nat.le_of_ble_eq_true rfl⟩) (fun r5 e6 => ?_)
  obtain rfl : r5 = 2 := e6
  refine lv_iload hx hb dL_law_293 (lv_at hl 1 rfl) ?_
  refine lv_icmp_eq (tgt := 300) hx hb dL_law_295 (by decide) (fun _ => ?_) (fun h9 => absurd (by decide) h9)
  refine lv_iload hx hb dL_law_300 (lv_at hl 1 rfl) ?_
  refine lv_if_ne (tgt := 324) hx hb dL_law_302 (by decide) (fun _ => ?_) (fun h9 => absurd h9 (by decide))
  refine lv_goto (tgt := 885) hx hb dL_law_324 (by decide) ?_
  have hl := lv_sub (l' := [(4, .int 0), (0, .ref b)]) hl [2, 6] rfl
  exact law_end l hl9 C00 hKK hX hX2 hAe (by decide) (by decide) hS hl

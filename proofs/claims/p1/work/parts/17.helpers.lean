set_option maxRecDepth 100000 in
theorem w281 : (Cond.codeWith yL_begin cL_begin 4 (some .int) [(0, 9, 12, 13), (0, 9, 15, 15), (0, 9, 18, 17)]) ∈ wsA := List.mem_filter.mpr ⟨List.mem_of_getElem? (i := 281) rfl, rfl⟩
set_option maxRecDepth 100000 in
theorem w282 : (Cond.classLink "LoggedStoreLaw" 13 "java/lang/IllegalStateException") ∈ wsA := List.mem_filter.mpr ⟨List.mem_of_getElem? (i := 282) rfl, rfl⟩
set_option maxRecDepth 100000 in
theorem w283 : (Cond.classLink "LoggedStoreLaw" 15 "java/lang/IllegalArgumentException") ∈ wsA := List.mem_filter.mpr ⟨List.mem_of_getElem? (i := 283) rfl, rfl⟩
set_option maxRecDepth 100000 in
theorem w285 : (Cond.methodLink "LoggedStoreLaw" 7 yS_begin) ∈ wsA := List.mem_filter.mpr ⟨List.mem_of_getElem? (i := 285) rfl, rfl⟩
set_option maxRecDepth 100000 in
theorem w286 : (Cond.instanceMethod yS_begin) ∈ wsA := List.mem_filter.mpr ⟨List.mem_of_getElem? (i := 286) rfl, rfl⟩
set_option maxRecDepth 100000 in
theorem w287 : (Cond.selects "LoggedStore" yS_begin yS_begin) ∈ wsA := List.mem_filter.mpr ⟨List.mem_of_getElem? (i := 287) rfl, rfl⟩
set_option maxRecDepth 100000 in
theorem w408 : (Cond.codeWith yL_get cL_get 5 (some .int) [(0, 10, 13, 13), (0, 10, 17, 15), (0, 10, 21, 23)]) ∈ wsA := List.mem_filter.mpr ⟨List.mem_of_getElem? (i := 408) rfl, rfl⟩
set_option maxRecDepth 100000 in
theorem w409 : (Cond.classLink "LoggedStoreLaw" 23 "java/util/NoSuchElementException") ∈ wsA := List.mem_filter.mpr ⟨List.mem_of_getElem? (i := 409) rfl, rfl⟩
set_option maxRecDepth 100000 in
theorem w410 : (Cond.methodLink "LoggedStoreLaw" 19 yS_get) ∈ wsA := List.mem_filter.mpr ⟨List.mem_of_getElem? (i := 410) rfl, rfl⟩
set_option maxRecDepth 100000 in
theorem w411 : (Cond.instanceMethod yS_get) ∈ wsA := List.mem_filter.mpr ⟨List.mem_of_getElem? (i := 411) rfl, rfl⟩
set_option maxRecDepth 100000 in
theorem w412 : (Cond.selects "LoggedStore" yS_get yS_get) ∈ wsA := List.mem_filter.mpr ⟨List.mem_of_getElem? (i := 412) rfl, rfl⟩
set_option maxRecDepth 100000 in
theorem w449 : (Cond.codeWith yL_put cL_put 6 (some .int) [(0, 19, 22, 13), (0, 19, 26, 15)]) ∈ wsA := List.mem_filter.mpr ⟨List.mem_of_getElem? (i := 449) rfl, rfl⟩
set_option maxRecDepth 100000 in
theorem w450 : (Cond.methodLink "LoggedStoreLaw" 25 yS_put) ∈ wsA := List.mem_filter.mpr ⟨List.mem_of_getElem? (i := 450) rfl, rfl⟩
set_option maxRecDepth 100000 in
theorem w451 : (Cond.instanceMethod yS_put) ∈ wsA := List.mem_filter.mpr ⟨List.mem_of_getElem? (i := 451) rfl, rfl⟩
set_option maxRecDepth 100000 in
theorem w452 : (Cond.selects "LoggedStore" yS_put yS_put) ∈ wsA := List.mem_filter.mpr ⟨List.mem_of_getElem? (i := 452) rfl, rfl⟩
set_option maxRecDepth 100000 in
theorem w465 : (Cond.codeWith yL_remove cL_remove 4 (some .int) [(0, 6, 9, 13), (0, 6, 12, 15), (0, 6, 15, 23)]) ∈ wsA := List.mem_filter.mpr ⟨List.mem_of_getElem? (i := 465) rfl, rfl⟩
set_option maxRecDepth 100000 in
theorem w466 : (Cond.methodLink "LoggedStoreLaw" 29 yS_remove) ∈ wsA := List.mem_filter.mpr ⟨List.mem_of_getElem? (i := 466) rfl, rfl⟩
set_option maxRecDepth 100000 in
theorem w467 : (Cond.instanceMethod yS_remove) ∈ wsA := List.mem_filter.mpr ⟨List.mem_of_getElem? (i := 467) rfl, rfl⟩
set_option maxRecDepth 100000 in
theorem w468 : (Cond.selects "LoggedStore" yS_remove yS_remove) ∈ wsA := List.mem_filter.mpr ⟨List.mem_of_getElem? (i := 468) rfl, rfl⟩
set_option maxRecDepth 100000 in
theorem w477 : (Cond.codeWith yL_next cL_next 5 (some .int) [(0, 10, 13, 13), (0, 10, 17, 15)]) ∈ wsA := List.mem_filter.mpr ⟨List.mem_of_getElem? (i := 477) rfl, rfl⟩
set_option maxRecDepth 100000 in
theorem w478 : (Cond.methodLink "LoggedStoreLaw" 33 yS_next) ∈ wsA := List.mem_filter.mpr ⟨List.mem_of_getElem? (i := 478) rfl, rfl⟩
set_option maxRecDepth 100000 in
theorem w479 : (Cond.instanceMethod yS_next) ∈ wsA := List.mem_filter.mpr ⟨List.mem_of_getElem? (i := 479) rfl, rfl⟩
set_option maxRecDepth 100000 in
theorem w480 : (Cond.selects "LoggedStore" yS_next yS_next) ∈ wsA := List.mem_filter.mpr ⟨List.mem_of_getElem? (i := 480) rfl, rfl⟩
set_option maxRecDepth 100000 in
theorem w488 : (Cond.codeWith yL_drop cL_drop 4 (some .int) [(0, 9, 12, 13), (0, 9, 15, 15)]) ∈ wsA := List.mem_filter.mpr ⟨List.mem_of_getElem? (i := 488) rfl, rfl⟩
set_option maxRecDepth 100000 in
theorem w489 : (Cond.methodLink "LoggedStoreLaw" 36 yS_drop) ∈ wsA := List.mem_filter.mpr ⟨List.mem_of_getElem? (i := 489) rfl, rfl⟩
set_option maxRecDepth 100000 in
theorem w490 : (Cond.instanceMethod yS_drop) ∈ wsA := List.mem_filter.mpr ⟨List.mem_of_getElem? (i := 490) rfl, rfl⟩
set_option maxRecDepth 100000 in
theorem w491 : (Cond.selects "LoggedStore" yS_drop yS_drop) ∈ wsA := List.mem_filter.mpr ⟨List.mem_of_getElem? (i := 491) rfl, rfl⟩
set_option maxRecDepth 100000 in
theorem w495 : (Cond.codeWith yL_commit cL_commit 4 (some .int) [(0, 9, 12, 13), (0, 9, 15, 15), (0, 9, 18, 17), (0, 9, 21, 42)]) ∈ wsA := List.mem_filter.mpr ⟨List.mem_of_getElem? (i := 495) rfl, rfl⟩
set_option maxRecDepth 100000 in
theorem w497 : (Cond.methodLink "LoggedStoreLaw" 39 yS_commit) ∈ wsA := List.mem_filter.mpr ⟨List.mem_of_getElem? (i := 497) rfl, rfl⟩
set_option maxRecDepth 100000 in
theorem w498 : (Cond.instanceMethod yS_commit) ∈ wsA := List.mem_filter.mpr ⟨List.mem_of_getElem? (i := 498) rfl, rfl⟩
set_option maxRecDepth 100000 in
theorem w499 : (Cond.selects "LoggedStore" yS_commit yS_commit) ∈ wsA := List.mem_filter.mpr ⟨List.mem_of_getElem? (i := 499) rfl, rfl⟩
set_option maxRecDepth 100000 in
theorem w562 : (Cond.codeWith yL_checkpoint cL_checkpoint 3 (some .int) [(0, 8, 11, 13)]) ∈ wsA := List.mem_filter.mpr ⟨List.mem_of_getElem? (i := 562) rfl, rfl⟩
set_option maxRecDepth 100000 in
theorem w563 : (Cond.methodLink "LoggedStoreLaw" 44 yS_checkpoint) ∈ wsA := List.mem_filter.mpr ⟨List.mem_of_getElem? (i := 563) rfl, rfl⟩
set_option maxRecDepth 100000 in
theorem w564 : (Cond.instanceMethod yS_checkpoint) ∈ wsA := List.mem_filter.mpr ⟨List.mem_of_getElem? (i := 564) rfl, rfl⟩
set_option maxRecDepth 100000 in
theorem w565 : (Cond.selects "LoggedStore" yS_checkpoint yS_checkpoint) ∈ wsA := List.mem_filter.mpr ⟨List.mem_of_getElem? (i := 565) rfl, rfl⟩
set_option maxRecDepth 100000 in
theorem w574 : (Cond.codeWith yL_number cL_number 4 (some .int) [(0, 9, 12, 13), (0, 9, 15, 15), (0, 9, 18, 23)]) ∈ wsA := List.mem_filter.mpr ⟨List.mem_of_getElem? (i := 574) rfl, rfl⟩
set_option maxRecDepth 100000 in
theorem w575 : (Cond.methodLink "LoggedStoreLaw" 48 yS_number) ∈ wsA := List.mem_filter.mpr ⟨List.mem_of_getElem? (i := 575) rfl, rfl⟩
set_option maxRecDepth 100000 in
theorem w576 : (Cond.instanceMethod yS_number) ∈ wsA := List.mem_filter.mpr ⟨List.mem_of_getElem? (i := 576) rfl, rfl⟩
set_option maxRecDepth 100000 in
theorem w577 : (Cond.selects "LoggedStore" yS_number yS_number) ∈ wsA := List.mem_filter.mpr ⟨List.mem_of_getElem? (i := 577) rfl, rfl⟩
set_option maxRecDepth 100000 in
theorem w581 : (Cond.codeWith yL_count cL_count 3 (some .int) [(0, 8, 11, 13)]) ∈ wsA := List.mem_filter.mpr ⟨List.mem_of_getElem? (i := 581) rfl, rfl⟩
set_option maxRecDepth 100000 in
theorem w582 : (Cond.methodLink "LoggedStoreLaw" 51 yS_count) ∈ wsA := List.mem_filter.mpr ⟨List.mem_of_getElem? (i := 582) rfl, rfl⟩
set_option maxRecDepth 100000 in
theorem w583 : (Cond.instanceMethod yS_count) ∈ wsA := List.mem_filter.mpr ⟨List.mem_of_getElem? (i := 583) rfl, rfl⟩
set_option maxRecDepth 100000 in
theorem w584 : (Cond.selects "LoggedStore" yS_count yS_count) ∈ wsA := List.mem_filter.mpr ⟨List.mem_of_getElem? (i := 584) rfl, rfl⟩
set_option maxRecDepth 100000 in
theorem w588 : (Cond.codeWith yL_version cL_version 3 (some .int) [(0, 8, 11, 13)]) ∈ wsA := List.mem_filter.mpr ⟨List.mem_of_getElem? (i := 588) rfl, rfl⟩
set_option maxRecDepth 100000 in
theorem w589 : (Cond.methodLink "LoggedStoreLaw" 54 yS_version) ∈ wsA := List.mem_filter.mpr ⟨List.mem_of_getElem? (i := 589) rfl, rfl⟩
set_option maxRecDepth 100000 in
theorem w590 : (Cond.instanceMethod yS_version) ∈ wsA := List.mem_filter.mpr ⟨List.mem_of_getElem? (i := 590) rfl, rfl⟩
set_option maxRecDepth 100000 in
theorem w591 : (Cond.selects "LoggedStore" yS_version yS_version) ∈ wsA := List.mem_filter.mpr ⟨List.mem_of_getElem? (i := 591) rfl, rfl⟩
set_option maxRecDepth 100000 in
theorem w595 : (Cond.codeWith yL_left cL_left 3 (some .int) [(0, 8, 11, 13)]) ∈ wsA := List.mem_filter.mpr ⟨List.mem_of_getElem? (i := 595) rfl, rfl⟩
set_option maxRecDepth 100000 in
theorem w596 : (Cond.methodLink "LoggedStoreLaw" 57 yS_left) ∈ wsA := List.mem_filter.mpr ⟨List.mem_of_getElem? (i := 596) rfl, rfl⟩
set_option maxRecDepth 100000 in
theorem w597 : (Cond.instanceMethod yS_left) ∈ wsA := List.mem_filter.mpr ⟨List.mem_of_getElem? (i := 597) rfl, rfl⟩
set_option maxRecDepth 100000 in
theorem w598 : (Cond.selects "LoggedStore" yS_left yS_left) ∈ wsA := List.mem_filter.mpr ⟨List.mem_of_getElem? (i := 598) rfl, rfl⟩
theorem dL_begin_0 : decode cL_begin 0 = .ok (.aload_n 2, 1) := by decide +kernel
theorem dL_begin_1 : decode cL_begin 1 = .ok (.iconst 0, 1) := by decide +kernel
theorem dL_begin_2 : decode cL_begin 2 = .ok (.aload_n 0, 1) := by decide +kernel
theorem dL_begin_3 : decode cL_begin 3 = .ok (.iload_n 1, 1) := by decide +kernel
theorem dL_begin_4 : decode cL_begin 4 = .ok (.invokevirtual 7, 3) := by decide +kernel
theorem dL_begin_7 : decode cL_begin 7 = .ok (.i2l, 1) := by decide +kernel
theorem dL_begin_8 : decode cL_begin 8 = .ok (.lastore, 1) := by decide +kernel
theorem dL_begin_9 : decode cL_begin 9 = .ok (.goto 12, 3) := by decide +kernel
theorem dL_begin_15 : decode cL_begin 15 = .ok (.astore_n 3, 1) := by decide +kernel
theorem dL_begin_16 : decode cL_begin 16 = .ok (.iconst 2, 1) := by decide +kernel
theorem dL_begin_17 : decode cL_begin 17 = .ok (.ireturn, 1) := by decide +kernel
theorem dL_begin_21 : decode cL_begin 21 = .ok (.iconst 0, 1) := by decide +kernel
theorem dL_begin_22 : decode cL_begin 22 = .ok (.ireturn, 1) := by decide +kernel
theorem dL_count_0 : decode cL_count 0 = .ok (.aload_n 1, 1) := by decide +kernel
theorem dL_count_1 : decode cL_count 1 = .ok (.iconst 0, 1) := by decide +kernel
theorem dL_count_2 : decode cL_count 2 = .ok (.aload_n 0, 1) := by decide +kernel
theorem dL_count_3 : decode cL_count 3 = .ok (.invokevirtual 51, 3) := by decide +kernel
theorem dL_count_6 : decode cL_count 6 = .ok (.i2l, 1) := by decide +kernel
theorem dL_count_7 : decode cL_count 7 = .ok (.lastore, 1) := by decide +kernel
theorem dL_count_8 : decode cL_count 8 = .ok (.goto 6, 3) := by decide +kernel
theorem dL_count_14 : decode cL_count 14 = .ok (.iconst 0, 1) := by decide +kernel
theorem dL_count_15 : decode cL_count 15 = .ok (.ireturn, 1) := by decide +kernel
theorem dL_version_0 : decode cL_version 0 = .ok (.aload_n 1, 1) := by decide +kernel
theorem dL_version_1 : decode cL_version 1 = .ok (.iconst 0, 1) := by decide +kernel
theorem dL_version_2 : decode cL_version 2 = .ok (.aload_n 0, 1) := by decide +kernel
theorem dL_version_3 : decode cL_version 3 = .ok (.invokevirtual 54, 3) := by decide +kernel
theorem dL_version_6 : decode cL_version 6 = .ok (.i2l, 1) := by decide +kernel
theorem dL_version_7 : decode cL_version 7 = .ok (.lastore, 1) := by decide +kernel
theorem dL_version_8 : decode cL_version 8 = .ok (.goto 6, 3) := by decide +kernel
theorem dL_version_14 : decode cL_version 14 = .ok (.iconst 0, 1) := by decide +kernel
theorem dL_version_15 : decode cL_version 15 = .ok (.ireturn, 1) := by decide +kernel
theorem dL_left_0 : decode cL_left 0 = .ok (.aload_n 1, 1) := by decide +kernel
theorem dL_left_1 : decode cL_left 1 = .ok (.iconst 0, 1) := by decide +kernel
theorem dL_left_2 : decode cL_left 2 = .ok (.aload_n 0, 1) := by decide +kernel
theorem dL_left_3 : decode cL_left 3 = .ok (.invokevirtual 57, 3) := by decide +kernel
theorem dL_left_6 : decode cL_left 6 = .ok (.i2l, 1) := by decide +kernel
theorem dL_left_7 : decode cL_left 7 = .ok (.lastore, 1) := by decide +kernel
theorem dL_left_8 : decode cL_left 8 = .ok (.goto 6, 3) := by decide +kernel
theorem dL_left_14 : decode cL_left 14 = .ok (.iconst 0, 1) := by decide +kernel
theorem dL_left_15 : decode cL_left 15 = .ok (.ireturn, 1) := by decide +kernel
theorem dL_checkpoint_0 : decode cL_checkpoint 0 = .ok (.aload_n 1, 1) := by decide +kernel
theorem dL_checkpoint_1 : decode cL_checkpoint 1 = .ok (.iconst 0, 1) := by decide +kernel
theorem dL_checkpoint_2 : decode cL_checkpoint 2 = .ok (.aload_n 0, 1) := by decide +kernel
theorem dL_checkpoint_3 : decode cL_checkpoint 3 = .ok (.invokevirtual 44, 3) := by decide +kernel
theorem dL_checkpoint_6 : decode cL_checkpoint 6 = .ok (.i2l, 1) := by decide +kernel
theorem dL_checkpoint_7 : decode cL_checkpoint 7 = .ok (.lastore, 1) := by decide +kernel
theorem dL_checkpoint_8 : decode cL_checkpoint 8 = .ok (.goto 6, 3) := by decide +kernel
theorem dL_checkpoint_14 : decode cL_checkpoint 14 = .ok (.iconst 0, 1) := by decide +kernel
theorem dL_checkpoint_15 : decode cL_checkpoint 15 = .ok (.ireturn, 1) := by decide +kernel
theorem dL_get_0 : decode cL_get 0 = .ok (.aload_n 3, 1) := by decide +kernel
theorem dL_get_1 : decode cL_get 1 = .ok (.iconst 0, 1) := by decide +kernel
theorem dL_get_2 : decode cL_get 2 = .ok (.aload_n 0, 1) := by decide +kernel
theorem dL_get_3 : decode cL_get 3 = .ok (.iload_n 1, 1) := by decide +kernel
theorem dL_get_4 : decode cL_get 4 = .ok (.iload_n 2, 1) := by decide +kernel
theorem dL_get_5 : decode cL_get 5 = .ok (.invokevirtual 19, 3) := by decide +kernel
theorem dL_get_17 : decode cL_get 17 = .ok (.astore 4, 2) := by decide +kernel
theorem dL_get_19 : decode cL_get 19 = .ok (.iconst 2, 1) := by decide +kernel
theorem dL_get_20 : decode cL_get 20 = .ok (.ireturn, 1) := by decide +kernel
theorem dL_put_0 : decode cL_put 0 = .ok (.aload 4, 2) := by decide +kernel
theorem dL_put_2 : decode cL_put 2 = .ok (.iconst 0, 1) := by decide +kernel
theorem dL_put_3 : decode cL_put 3 = .ok (.aload_n 0, 1) := by decide +kernel
theorem dL_put_4 : decode cL_put 4 = .ok (.iload_n 1, 1) := by decide +kernel
theorem dL_put_5 : decode cL_put 5 = .ok (.iload_n 2, 1) := by decide +kernel
theorem dL_put_6 : decode cL_put 6 = .ok (.iload_n 3, 1) := by decide +kernel
theorem dL_put_7 : decode cL_put 7 = .ok (.invokevirtual 25, 3) := by decide +kernel
theorem dL_put_26 : decode cL_put 26 = .ok (.astore 5, 2) := by decide +kernel
theorem dL_put_28 : decode cL_put 28 = .ok (.iconst 2, 1) := by decide +kernel
theorem dL_put_29 : decode cL_put 29 = .ok (.ireturn, 1) := by decide +kernel
theorem dL_remove_0 : decode cL_remove 0 = .ok (.aload_n 0, 1) := by decide +kernel
theorem dL_remove_1 : decode cL_remove 1 = .ok (.iload_n 1, 1) := by decide +kernel
theorem dL_remove_2 : decode cL_remove 2 = .ok (.iload_n 2, 1) := by decide +kernel
theorem dL_remove_3 : decode cL_remove 3 = .ok (.invokevirtual 29, 3) := by decide +kernel
theorem dL_remove_12 : decode cL_remove 12 = .ok (.astore_n 3, 1) := by decide +kernel
theorem dL_remove_13 : decode cL_remove 13 = .ok (.iconst 2, 1) := by decide +kernel
theorem dL_remove_14 : decode cL_remove 14 = .ok (.ireturn, 1) := by decide +kernel
theorem dL_next_0 : decode cL_next 0 = .ok (.aload_n 3, 1) := by decide +kernel
theorem dL_next_1 : decode cL_next 1 = .ok (.iconst 0, 1) := by decide +kernel
theorem dL_next_2 : decode cL_next 2 = .ok (.aload_n 0, 1) := by decide +kernel
theorem dL_next_3 : decode cL_next 3 = .ok (.iload_n 1, 1) := by decide +kernel
theorem dL_next_4 : decode cL_next 4 = .ok (.iload_n 2, 1) := by decide +kernel
theorem dL_next_5 : decode cL_next 5 = .ok (.invokevirtual 33, 3) := by decide +kernel
theorem dL_next_17 : decode cL_next 17 = .ok (.astore 4, 2) := by decide +kernel
theorem dL_next_19 : decode cL_next 19 = .ok (.iconst 2, 1) := by decide +kernel
theorem dL_next_20 : decode cL_next 20 = .ok (.ireturn, 1) := by decide +kernel
theorem dL_drop_0 : decode cL_drop 0 = .ok (.aload_n 2, 1) := by decide +kernel
theorem dL_drop_1 : decode cL_drop 1 = .ok (.iconst 0, 1) := by decide +kernel
theorem dL_drop_2 : decode cL_drop 2 = .ok (.aload_n 0, 1) := by decide +kernel
theorem dL_drop_3 : decode cL_drop 3 = .ok (.iload_n 1, 1) := by decide +kernel
theorem dL_drop_4 : decode cL_drop 4 = .ok (.invokevirtual 36, 3) := by decide +kernel
theorem dL_drop_15 : decode cL_drop 15 = .ok (.astore_n 3, 1) := by decide +kernel
theorem dL_drop_16 : decode cL_drop 16 = .ok (.iconst 2, 1) := by decide +kernel
theorem dL_drop_17 : decode cL_drop 17 = .ok (.ireturn, 1) := by decide +kernel
theorem dL_commit_0 : decode cL_commit 0 = .ok (.aload_n 2, 1) := by decide +kernel
theorem dL_commit_1 : decode cL_commit 1 = .ok (.iconst 0, 1) := by decide +kernel
theorem dL_commit_2 : decode cL_commit 2 = .ok (.aload_n 0, 1) := by decide +kernel
theorem dL_commit_3 : decode cL_commit 3 = .ok (.iload_n 1, 1) := by decide +kernel
theorem dL_commit_4 : decode cL_commit 4 = .ok (.invokevirtual 39, 3) := by decide +kernel
theorem dL_commit_15 : decode cL_commit 15 = .ok (.astore_n 3, 1) := by decide +kernel
theorem dL_commit_16 : decode cL_commit 16 = .ok (.iconst 2, 1) := by decide +kernel
theorem dL_commit_17 : decode cL_commit 17 = .ok (.ireturn, 1) := by decide +kernel
theorem dL_number_0 : decode cL_number 0 = .ok (.aload_n 2, 1) := by decide +kernel
theorem dL_number_1 : decode cL_number 1 = .ok (.iconst 0, 1) := by decide +kernel
theorem dL_number_2 : decode cL_number 2 = .ok (.aload_n 0, 1) := by decide +kernel
theorem dL_number_3 : decode cL_number 3 = .ok (.iload_n 1, 1) := by decide +kernel
theorem dL_number_4 : decode cL_number 4 = .ok (.invokevirtual 48, 3) := by decide +kernel
theorem dL_number_15 : decode cL_number 15 = .ok (.astore_n 3, 1) := by decide +kernel
theorem dL_number_16 : decode cL_number 16 = .ok (.iconst 2, 1) := by decide +kernel
theorem dL_number_17 : decode cL_number 17 = .ok (.ireturn, 1) := by decide +kernel
theorem dL_number_18 : decode cL_number 18 = .ok (.astore_n 3, 1) := by decide +kernel
theorem dL_number_19 : decode cL_number 19 = .ok (.iconst 3, 1) := by decide +kernel
theorem dL_number_20 : decode cL_number 20 = .ok (.ireturn, 1) := by decide +kernel
def O0 : Nat → Int64 := vp_updL (fun _ => 0) (0 : Int32).toNatClampNeg 0
def O2 : Nat → Int64 := vp_updL (fun _ => 0) (0 : Int32).toNatClampNeg 2
def O74 : Nat → Int64 := vp_updL (fun _ => 0) (0 : Int32).toNatClampNeg 74
theorem tx_table {p : Program} {l : Launch} {y : MethodName} {S : Spec} {cc bytes : ByteArray} {maxL maxL' : Nat} {ret ret' : Option FieldType} {e : Env} {s s₁ : State} {m : MethodId} {args : Array Value} {below : List Frame} {meth : Method} {c : Code} {hh : List (Nat × Nat × Nat × Nat)}
    (B : BodyLoose p l y S cc maxL ret e s m args below meth c s₁) (h : (Cond.codeWith y bytes maxL' ret' hh).before args s = true) : c.exceptionTable.toList = tableOf hh := by
  obtain ⟨m9, meth9, c9, hn9, h1, h2, -, -, h6, -⟩ := Cond.codeWith_spec h
  cases Option.some.inj (hn9.symm.trans B.named)
  cases Option.some.inj (h1.symm.trans B.method)
  cases Option.some.inj (h2.symm.trans (Stand.of_body B).code)
  rw [← h6, table_eq]
theorem kb_W {dC : Nat → ClassId} {dI : Nat → Nat → Nat} {cI cZ cJ cT : ClassId} {ws : va_W} {av : List Value} {sz : Nat} : FrameBlind (va_Pc av (fun U => U.heap.size = sz ∧ va_P (dC, dI) vwC ws U.heap ∧ KK dC dI cI cZ cJ cT U ∧ KS U ∧ va_D (fun _ => True) ws)) := fun a U g mk q => by
  obtain ⟨q0, q1, qP, qK, qS, qD⟩ := q
  exact ⟨q0, q1, qP, KK.moved (U := U.calling g mk a) qK (State.WarmedH.refl U), KS.moved (U := U.calling g mk a) qS (State.WarmedH.refl U) (fun _ _ h _ => h), qD⟩
theorem kb_W2 {dC : Nat → ClassId} {dI : Nat → Nat → Nat} {cI cZ cJ cT : ClassId} {ws : va_W} {av : List Value} {sz : Nat} : FrameBlind (va_Pc av (fun U => U.heap.size = sz ∧ va_P (dC, dI) vwC ws U.heap ∧ KK dC dI cI cZ cJ cT U ∧ KS2 U ∧ va_D (fun _ => True) ws)) := fun a U g mk q => by
  obtain ⟨q0, q1, qP, qK, qS, qD⟩ := q
  exact ⟨q0, q1, qP, KK.moved (U := U.calling g mk a) qK (State.WarmedH.refl U), KS2.moved (U := U.calling g mk a) qS (State.WarmedH.refl U) (fun _ _ h _ => h), qD⟩
set_option maxHeartbeats 4000000 in
set_option maxRecDepth 100000 in
theorem h_begin_0 (l : Launch) (dC : Nat → ClassId) (dI : Nat → Nat → Nat) (cI cZ cJ cT : ClassId) (x d w tb hs ns wa ts t0 v0 vh0 vn0 vw0 t1 v1 vh1 vn1 vw1 t2 v2 vh2 vn2 vw2 : Nat) (o9 : Nat) (sz : Nat) : Met l yL_begin (Cond.codeWith yL_begin cL_begin 4 (some .int) [(0, 9, 12, 13), (0, 9, 15, 15), (0, 9, 18, 17)] :: wsA) ({ frames := 3, cells := 0, slots := 0, locals := 66 }) (va_Pc [.ref x, .int 0, .ref o9] (fun U => U.heap.size = sz ∧ va_P (dC, dI) vwC [(x, .inr (3, [.ref d, .ref tb, .ref wa, .ref ts, .int 0, .int 1, .int 0, .int 22])), (d, .inr (0, [.ref w, .int (-1), .int 0, .int 0])), (tb, .inr (1, [.ref hs, .ref ns, .int 0])), (hs, .inl (cZ, 64, .inl (fun _ => 0))), (ns, .inl (cI, 64, .inl (fun _ => 0))), (ts, .inl (cT, 3, .inr (.inr (.inr (.inr (tF t0 t1 t2)))))), (t0, .inr (2, [.ref v0, .ref vw0, .int 0, .int 0, .int 0])), (v0, .inr (1, [.ref vh0, .ref vn0, .int 0])), (vh0, .inl (cZ, 64, .inl (fun _ => 0))), (vn0, .inl (cI, 64, .inl (fun _ => 0))), (vw0, .inl (cZ, 64, .inl (fun _ => 0))), (o9, .inl (cJ, 1, .inr (.inl (fun _ => 0))))] U.heap ∧ KK dC dI cI cZ cJ cT U ∧ va_D (fun _ => True) [(x, .inr (3, [.ref d, .ref tb, .ref wa, .ref ts, .int 0, .int 1, .int 0, .int 22])), (d, .inr (0, [.ref w, .int (-1), .int 0, .int 0])), (tb, .inr (1, [.ref hs, .ref ns, .int 0])), (hs, .inl (cZ, 64, .inl (fun _ => 0))), (ns, .inl (cI, 64, .inl (fun _ => 0))), (ts, .inl (cT, 3, .inr (.inr (.inr (.inr (tF t0 t1 t2)))))), (t0, .inr (2, [.ref v0, .ref vw0, .int 0, .int 0, .int 0])), (v0, .inr (1, [.ref vh0, .ref vn0, .int 0])), (vh0, .inl (cZ, 64, .inl (fun _ => 0))), (vn0, .inl (cI, 64, .inl (fun _ => 0))), (vw0, .inl (cZ, 64, .inl (fun _ => 0))), (o9, .inl (cJ, 1, .inr (.inl (fun _ => 0))))])) (va_Qi (S := Nat → Nat) (fun r _ => r = 0) (fun u t => va_P (dC, dI) vwC [(o9, .inl (cJ, 1, .inr (.inl O0)))] t.heap ∧ va_D (va_A [(x, .inr (3, [.ref d, .ref tb, .ref wa, .ref ts, .int 0, .int 1, .int 0, .int 22])), (d, .inr (0, [.ref w, .int (-1), .int 0, .int 0])), (tb, .inr (1, [.ref hs, .ref ns, .int 0])), (hs, .inl (cZ, 64, .inl (fun _ => 0))), (ns, .inl (cI, 64, .inl (fun _ => 0))), (ts, .inl (cT, 3, .inr (.inr (.inr (.inr (tF t0 t1 t2)))))), (t0, .inr (2, [.ref v0, .ref vw0, .int 0, .int 0, .int 0])), (v0, .inr (1, [.ref vh0, .ref vn0, .int 0])), (vh0, .inl (cZ, 64, .inl (fun _ => 0))), (vn0, .inl (cI, 64, .inl (fun _ => 0))), (vw0, .inl (cZ, 64, .inl (fun _ => 0))), (o9, .inl (cJ, 1, .inr (.inl (fun _ => 0))))] sz) [(o9, .inl (cJ, 1, .inr (.inl O0)))]) (va_A [(x, .inr (3, [.ref d, .ref tb, .ref wa, .ref ts, .int 0, .int 1, .int 0, .int 22])), (d, .inr (0, [.ref w, .int (-1), .int 0, .int 0])), (tb, .inr (1, [.ref hs, .ref ns, .int 0])), (hs, .inl (cZ, 64, .inl (fun _ => 0))), (ns, .inl (cI, 64, .inl (fun _ => 0))), (ts, .inl (cT, 3, .inr (.inr (.inr (.inr (tF t0 t1 t2)))))), (t0, .inr (2, [.ref v0, .ref vw0, .int 0, .int 0, .int 0])), (v0, .inr (1, [.ref vh0, .ref vn0, .int 0])), (vh0, .inl (cZ, 64, .inl (fun _ => 0))), (vn0, .inl (cI, 64, .inl (fun _ => 0))), (vw0, .inl (cZ, 64, .inl (fun _ => 0))), (o9, .inl (cJ, 1, .inr (.inl (fun _ => 0))))] sz)) 0 0 (va_A [(x, .inr (3, [.ref d, .ref tb, .ref wa, .ref ts, .int 0, .int 1, .int 0, .int 22])), (d, .inr (0, [.ref w, .int (-1), .int 0, .int 0])), (tb, .inr (1, [.ref hs, .ref ns, .int 0])), (hs, .inl (cZ, 64, .inl (fun _ => 0))), (ns, .inl (cI, 64, .inl (fun _ => 0))), (ts, .inl (cT, 3, .inr (.inr (.inr (.inr (tF t0 t1 t2)))))), (t0, .inr (2, [.ref v0, .ref vw0, .int 0, .int 0, .int 0])), (v0, .inr (1, [.ref vh0, .ref vn0, .int 0])), (vh0, .inl (cZ, 64, .inl (fun _ => 0))), (vn0, .inl (cI, 64, .inl (fun _ => 0))), (vw0, .inl (cZ, 64, .inl (fun _ => 0))), (o9, .inl (cJ, 1, .inr (.inl (fun _ => 0))))] sz) := by
  refine va_MetW (hh := [(0, 9, 12, 13), (0, 9, 15, 15), (0, 9, 18, 17)]) (cc := cL_begin) (maxL := 4) (ret := (some .int)) (by decide) rfl ?_
  intro p e s m args below meth c s₁ B hml hv
  obtain ⟨rfl, hsz, hP, hKK, hD0⟩ := hv
  have hK := hKK.1
  have hx := B.exec
  have hb := B.bytes
  have hr := B.returns
  have hw : ∀ w ∈ wsA, w.before _ s = true := fun w h => atoms_spec (ws := (Cond.codeWith yL_begin cL_begin 4 (some .int) [(0, 9, 12, 13), (0, 9, 15, 15), (0, 9, 18, 17)] :: wsA)) B.pre w (List.mem_cons_of_mem _ h)
  have hown : s.vm.findClass "LoggedStoreLaw" = some m.cls := findClass_of_methodNamed B.named
  have hlocks := B.notSynchronized
  subst hsz
  have hD := hD0.self (sz := s.heap.size)
  generalize hAe : va_A [(x, .inr (3, [.ref d, .ref tb, .ref wa, .ref ts, .int 0, .int 1, .int 0, .int 22])), (d, .inr (0, [.ref w, .int (-1), .int 0, .int 0])), (tb, .inr (1, [.ref hs, .ref ns, .int 0])), (hs, .inl (cZ, 64, .inl (fun _ => 0))), (ns, .inl (cI, 64, .inl (fun _ => 0))), (ts, .inl (cT, 3, .inr (.inr (.inr (.inr (tF t0 t1 t2)))))), (t0, .inr (2, [.ref v0, .ref vw0, .int 0, .int 0, .int 0])), (v0, .inr (1, [.ref vh0, .ref vn0, .int 0])), (vh0, .inl (cZ, 64, .inl (fun _ => 0))), (vn0, .inl (cI, 64, .inl (fun _ => 0))), (vw0, .inl (cZ, 64, .inl (fun _ => 0))), (o9, .inl (cJ, 1, .inr (.inl (fun _ => 0))))] s.heap.size = A at hD ⊢
  have hA : ∀ q : Nat, s.heap.size ≤ q → A q := fun q h => by rw [← hAe]; exact Or.inr h
  have hS : va_S A s.heap s.heap [] := va_S.rf
  have hl := lv_entry ([.ref x, .int 0, .ref o9]) (n := 4) (Nat.le_of_ble_eq_true rfl)
  rw [lg_entry_eq]
  generalize (lg_sl ([.ref x, .int 0, .ref o9]) ++ List.replicate (4 - (lg_sl ([.ref x, .int 0, .ref o9])).length) Slot.unset).toArray = ls at hl ⊢
  have hl : lv_has ls 4 [(0, .ref x), (1, .int 0), (2, .ref o9)] := hl
  refine lv_aload_n hx hb dL_begin_0 rfl (lv_at hl 2 rfl) ?_
  refine lv_iconst (v := 0) hx hb dL_begin_1 (by decide) ?_
  refine lv_aload_n hx hb dL_begin_2 rfl (lv_at hl 0 rfl) ?_
  refine lv_iload_n hx hb dL_begin_3 rfl (lv_at hl 1 rfl) ?_
  have hPc := hP.sub (ws' := [(x, .inr (3, [.ref d, .ref tb, .ref wa, .ref ts, .int 0, .int 1, .int 0, .int 22])), (d, .inr (0, [.ref w, .int (-1), .int 0, .int 0])), (tb, .inr (1, [.ref hs, .ref ns, .int 0])), (hs, .inl (cZ, 64, .inl (fun _ => 0))), (ns, .inl (cI, 64, .inl (fun _ => 0))), (ts, .inl (cT, 3, .inr (.inr (.inr (.inr (tF t0 t1 t2)))))), (t0, .inr (2, [.ref v0, .ref vw0, .int 0, .int 0, .int 0])), (v0, .inr (1, [.ref vh0, .ref vn0, .int 0])), (vh0, .inl (cZ, 64, .inl (fun _ => 0))), (vn0, .inl (cI, 64, .inl (fun _ => 0))), (vw0, .inl (cZ, 64, .inl (fun _ => 0)))]) [0, 1, 2, 3, 4, 5, 6, 7, 8, 9, 10] rfl
  have hDc := hD.sub (ws' := [(x, .inr (3, [.ref d, .ref tb, .ref wa, .ref ts, .int 0, .int 1, .int 0, .int 22])), (d, .inr (0, [.ref w, .int (-1), .int 0, .int 0])), (tb, .inr (1, [.ref hs, .ref ns, .int 0])), (hs, .inl (cZ, 64, .inl (fun _ => 0))), (ns, .inl (cI, 64, .inl (fun _ => 0))), (ts, .inl (cT, 3, .inr (.inr (.inr (.inr (tF t0 t1 t2)))))), (t0, .inr (2, [.ref v0, .ref vw0, .int 0, .int 0, .int 0])), (v0, .inr (1, [.ref vh0, .ref vn0, .int 0])), (vh0, .inl (cZ, 64, .inl (fun _ => 0))), (vn0, .inl (cI, 64, .inl (fun _ => 0))), (vw0, .inl (cZ, 64, .inl (fun _ => 0)))]) [0, 1, 2, 3, 4, 5, 6, 7, 8, 9, 10] (by decide) rfl
  have hFc := va_free (wc := [(x, .inr (3, [.ref d, .ref tb, .ref wa, .ref ts, .int 0, .int 1, .int 0, .int 22])), (d, .inr (0, [.ref w, .int (-1), .int 0, .int 0])), (tb, .inr (1, [.ref hs, .ref ns, .int 0])), (hs, .inl (cZ, 64, .inl (fun _ => 0))), (ns, .inl (cI, 64, .inl (fun _ => 0))), (ts, .inl (cT, 3, .inr (.inr (.inr (.inr (tF t0 t1 t2)))))), (t0, .inr (2, [.ref v0, .ref vw0, .int 0, .int 0, .int 0])), (v0, .inr (1, [.ref vh0, .ref vn0, .int 0])), (vh0, .inl (cZ, 64, .inl (fun _ => 0))), (vn0, .inl (cI, 64, .inl (fun _ => 0))), (vw0, .inl (cZ, 64, .inl (fun _ => 0)))]) hD hS hA [0, 1, 2, 3, 4, 5, 6, 7, 8, 9, 10] rfl
  refine va_calli (va_runV (C := "LoggedStore") (b := x) (As := [.int 0]) (rest := [.int 0, .ref o9]) ⟨hx, hb, hml, hown, hw⟩ (c_begin_0 l dC dI cI cZ cJ cT x d w tb hs ns wa ts t0 v0 vh0 vn0 vw0 t1 v1 vh1 vn1 vw1 t2 v2 vh2 vn2 vw2 s.heap.size) ⟨callB_of 1 hw (gA0 w288) rfl rfl rfl (hw _ w40) (hw _ w285) (by decide +kernel) ⟨Nat.le_of_ble_eq_true rfl, Nat.le_of_ble_eq_true rfl⟩, (hw _ w286), (hw _ w287)⟩ ⟨kb_Q, va_recv (ci := 3) (q0 := 0) hK hP rfl rfl, fun U hU hW => ⟨rfl, by rw [hU], by rw [hU]; exact hPc, hKK.moved hW, hDc.weaken (fun _ _ _ _ => trivial)⟩⟩ rfl rfl hl.1 rfl (lv_room (Nat.le_of_ble_eq_true rfl)) dL_begin_4 ⟨Nat.le_of_ble_eq_true rfl, Nat.le_of_ble_eq_true rfl⟩) hS (fun q _ h => hFc q h) hFc (fun r1 u2 t H1 locs ht hvm he9 hB hz1 hk1 hS => ?_)
  obtain ⟨hP, hD⟩ := va_join (wr := [(o9, .inl (cJ, 1, .inr (.inl (fun _ => 0))))]) (w1 := []) hP hD [0, 1, 2, 3, 4, 5, 6, 7, 8, 9, 10] [11] rfl rfl (by decide) (by decide) hk1 hFc tk_P0 tk_D0
  generalize H1 = H at hP hS ⊢
  have hP : va_P (dC, dI) vwC [(o9, .inl (cJ, 1, .inr (.inl (fun _ => 0))))] H := hP
  have hD : va_D A [(o9, .inl (cJ, 1, .inr (.inl (fun _ => 0))))] := hD
  obtain rfl : r1 = 0 := he9
  refine lv_i2l (v := 0) hx hb dL_begin_7 (by decide +kernel) ?_
  refine va_last hx hb hK hP hD hS 0 2 rfl rfl (tv_in (by decide +kernel)) dL_begin_8 (fun H locs hP hD hS => ?_)
  have hP : va_P (dC, dI) vwC [(o9, .inl (cJ, 1, .inr (.inl (vp_updL (fun _ => 0) (0 : Int32).toNatClampNeg 0))))] H := hP
  have hD : va_D A [(o9, .inl (cJ, 1, .inr (.inl (vp_updL (fun _ => 0) (0 : Int32).toNatClampNeg 0))))] := hD
  refine lv_goto (tgt := 21) hx hb dL_begin_9 (by decide) ?_
  refine lv_iconst (v := 0) hx hb dL_begin_21 (by decide) ?_
  have hP9 := hP.sub (ws' := [(o9, .inl (cJ, 1, .inr (.inl (vp_updL (fun _ => 0) (0 : Int32).toNatClampNeg 0))))]) [0] rfl
  have hD9 := hD.sub (ws' := [(o9, .inl (cJ, 1, .inr (.inl (vp_updL (fun _ => 0) (0 : Int32).toNatClampNeg 0))))]) [0] (by decide) rfl
  refine W.widen (k := 0) (n := 0) (by decide) (by decide) ?_
  exact W.iret (v := 0) hx hb hr (fun t ht hW => ⟨⟨0, fun _ => 0, rfl, rfl, by rw [ht]; exact hP9, hD9⟩, hS.F ht⟩) hS.2.2 dL_begin_22

set_option maxHeartbeats 4000000 in
set_option maxRecDepth 100000 in
theorem h_begin_1 (l : Launch) (dC : Nat → ClassId) (dI : Nat → Nat → Nat) (cI cZ cJ cT : ClassId) (x d w tb hs ns wa ts t0 v0 vh0 vn0 vw0 t1 v1 vh1 vn1 vw1 t2 v2 vh2 vn2 vw2 : Nat) (o9 : Nat) (sz : Nat) : Met l yL_begin (Cond.codeWith yL_begin cL_begin 4 (some .int) [(0, 9, 12, 13), (0, 9, 15, 15), (0, 9, 18, 17)] :: wsA) ({ frames := 3, cells := 0, slots := 0, locals := 66 }) (va_Pc [.ref x, .int 1, .ref o9] (fun U => U.heap.size = sz ∧ va_P (dC, dI) vwC [(x, .inr (3, [.ref d, .ref tb, .ref wa, .ref ts, .int 0, .int 1, .int 0, .int 22])), (d, .inr (0, [.ref w, .int (-1), .int 0, .int 0])), (tb, .inr (1, [.ref hs, .ref ns, .int 0])), (hs, .inl (cZ, 64, .inl (fun _ => 0))), (ns, .inl (cI, 64, .inl (fun _ => 0))), (ts, .inl (cT, 3, .inr (.inr (.inr (.inr (tF t0 t1 t2)))))), (t1, .inr (2, [.ref v1, .ref vw1, .int 0, .int 0, .int 0])), (v1, .inr (1, [.ref vh1, .ref vn1, .int 0])), (vh1, .inl (cZ, 64, .inl (fun _ => 0))), (vn1, .inl (cI, 64, .inl (fun _ => 0))), (vw1, .inl (cZ, 64, .inl (fun _ => 0))), (o9, .inl (cJ, 1, .inr (.inl (fun _ => 0))))] U.heap ∧ KK dC dI cI cZ cJ cT U ∧ va_D (fun _ => True) [(x, .inr (3, [.ref d, .ref tb, .ref wa, .ref ts, .int 0, .int 1, .int 0, .int 22])), (d, .inr (0, [.ref w, .int (-1), .int 0, .int 0])), (tb, .inr (1, [.ref hs, .ref ns, .int 0])), (hs, .inl (cZ, 64, .inl (fun _ => 0))), (ns, .inl (cI, 64, .inl (fun _ => 0))), (ts, .inl (cT, 3, .inr (.inr (.inr (.inr (tF t0 t1 t2)))))), (t1, .inr (2, [.ref v1, .ref vw1, .int 0, .int 0, .int 0])), (v1, .inr (1, [.ref vh1, .ref vn1, .int 0])), (vh1, .inl (cZ, 64, .inl (fun _ => 0))), (vn1, .inl (cI, 64, .inl (fun _ => 0))), (vw1, .inl (cZ, 64, .inl (fun _ => 0))), (o9, .inl (cJ, 1, .inr (.inl (fun _ => 0))))])) (va_Qi (S := Nat → Nat) (fun r _ => r = 0) (fun u t => va_P (dC, dI) vwC [(o9, .inl (cJ, 1, .inr (.inl O0)))] t.heap ∧ va_D (va_A [(x, .inr (3, [.ref d, .ref tb, .ref wa, .ref ts, .int 0, .int 1, .int 0, .int 22])), (d, .inr (0, [.ref w, .int (-1), .int 0, .int 0])), (tb, .inr (1, [.ref hs, .ref ns, .int 0])), (hs, .inl (cZ, 64, .inl (fun _ => 0))), (ns, .inl (cI, 64, .inl (fun _ => 0))), (ts, .inl (cT, 3, .inr (.inr (.inr (.inr (tF t0 t1 t2)))))), (t1, .inr (2, [.ref v1, .ref vw1, .int 0, .int 0, .int 0])), (v1, .inr (1, [.ref vh1, .ref vn1, .int 0])), (vh1, .inl (cZ, 64, .inl (fun _ => 0))), (vn1, .inl (cI, 64, .inl (fun _ => 0))), (vw1, .inl (cZ, 64, .inl (fun _ => 0))), (o9, .inl (cJ, 1, .inr (.inl (fun _ => 0))))] sz) [(o9, .inl (cJ, 1, .inr (.inl O0)))]) (va_A [(x, .inr (3, [.ref d, .ref tb, .ref wa, .ref ts, .int 0, .int 1, .int 0, .int 22])), (d, .inr (0, [.ref w, .int (-1), .int 0, .int 0])), (tb, .inr (1, [.ref hs, .ref ns, .int 0])), (hs, .inl (cZ, 64, .inl (fun _ => 0))), (ns, .inl (cI, 64, .inl (fun _ => 0))), (ts, .inl (cT, 3, .inr (.inr (.inr (.inr (tF t0 t1 t2)))))), (t1, .inr (2, [.ref v1, .ref vw1, .int 0, .int 0, .int 0])), (v1, .inr (1, [.ref vh1, .ref vn1, .int 0])), (vh1, .inl (cZ, 64, .inl (fun _ => 0))), (vn1, .inl (cI, 64, .inl (fun _ => 0))), (vw1, .inl (cZ, 64, .inl (fun _ => 0))), (o9, .inl (cJ, 1, .inr (.inl (fun _ => 0))))] sz)) 0 0 (va_A [(x, .inr (3, [.ref d, .ref tb, .ref wa, .ref ts, .int 0, .int 1, .int 0, .int 22])), (d, .inr (0, [.ref w, .int (-1), .int 0, .int 0])), (tb, .inr (1, [.ref hs, .ref ns, .int 0])), (hs, .inl (cZ, 64, .inl (fun _ => 0))), (ns, .inl (cI, 64, .inl (fun _ => 0))), (ts, .inl (cT, 3, .inr (.inr (.inr (.inr (tF t0 t1 t2)))))), (t1, .inr (2, [.ref v1, .ref vw1, .int 0, .int 0, .int 0])), (v1, .inr (1, [.ref vh1, .ref vn1, .int 0])), (vh1, .inl (cZ, 64, .inl (fun _ => 0))), (vn1, .inl (cI, 64, .inl (fun _ => 0))), (vw1, .inl (cZ, 64, .inl (fun _ => 0))), (o9, .inl (cJ, 1, .inr (.inl (fun _ => 0))))] sz) := by
  refine va_MetW (hh := [(0, 9, 12, 13), (0, 9, 15, 15), (0, 9, 18, 17)]) (cc := cL_begin) (maxL := 4) (ret := (some .int)) (by decide) rfl ?_
  intro p e s m args below meth c s₁ B hml hv
  obtain ⟨rfl, hsz, hP, hKK, hD0⟩ := hv
  have hK := hKK.1
  have hx := B.exec
  have hb := B.bytes
  have hr := B.returns
  have hw : ∀ w ∈ wsA, w.before _ s = true := fun w h => atoms_spec (ws := (Cond.codeWith yL_begin cL_begin 4 (some .int) [(0, 9, 12, 13), (0, 9, 15, 15), (0, 9, 18, 17)] :: wsA)) B.pre w (List.mem_cons_of_mem _ h)
  have hown : s.vm.findClass "LoggedStoreLaw" = some m.cls := findClass_of_methodNamed B.named
  have hlocks := B.notSynchronized
  subst hsz
  have hD := hD0.self (sz := s.heap.size)
  generalize hAe : va_A [(x, .inr (3, [.ref d, .ref tb, .ref wa, .ref ts, .int 0, .int 1, .int 0, .int 22])), (d, .inr (0, [.ref w, .int (-1), .int 0, .int 0])), (tb, .inr (1, [.ref hs, .ref ns, .int 0])), (hs, .inl (cZ, 64, .inl (fun _ => 0))), (ns, .inl (cI, 64, .inl (fun _ => 0))), (ts, .inl (cT, 3, .inr (.inr (.inr (.inr (tF t0 t1 t2)))))), (t1, .inr (2, [.ref v1, .ref vw1, .int 0, .int 0, .int 0])), (v1, .inr (1, [.ref vh1, .ref vn1, .int 0])), (vh1, .inl (cZ, 64, .inl (fun _ => 0))), (vn1, .inl (cI, 64, .inl (fun _ => 0))), (vw1, .inl (cZ, 64, .inl (fun _ => 0))), (o9, .inl (cJ, 1, .inr (.inl (fun _ => 0))))] s.heap.size = A at hD ⊢
  have hA : ∀ q : Nat, s.heap.size ≤ q → A q := fun q h => by rw [← hAe]; exact Or.inr h
  have hS : va_S A s.heap s.heap [] := va_S.rf
  have hl := lv_entry ([.ref x, .int 1, .ref o9]) (n := 4) (Nat.le_of_ble_eq_true rfl)
  rw [lg_entry_eq]
  generalize (lg_sl ([.ref x, .int 1, .ref o9]) ++ List.replicate (4 - (lg_sl ([.ref x, .int 1, .ref o9])).length) Slot.unset).toArray = ls at hl ⊢
  have hl : lv_has ls 4 [(0, .ref x), (1, .int 1), (2, .ref o9)] := hl
  refine lv_aload_n hx hb dL_begin_0 rfl (lv_at hl 2 rfl) ?_
  refine lv_iconst (v := 0) hx hb dL_begin_1 (by decide) ?_
  refine lv_aload_n hx hb dL_begin_2 rfl (lv_at hl 0 rfl) ?_
  refine lv_iload_n hx hb dL_begin_3 rfl (lv_at hl 1 rfl) ?_
  have hPc := hP.sub (ws' := [(x, .inr (3, [.ref d, .ref tb, .ref wa, .ref ts, .int 0, .int 1, .int 0, .int 22])), (d, .inr (0, [.ref w, .int (-1), .int 0, .int 0])), (tb, .inr (1, [.ref hs, .ref ns, .int 0])), (hs, .inl (cZ, 64, .inl (fun _ => 0))), (ns, .inl (cI, 64, .inl (fun _ => 0))), (ts, .inl (cT, 3, .inr (.inr (.inr (.inr (tF t0 t1 t2)))))), (t1, .inr (2, [.ref v1, .ref vw1, .int 0, .int 0, .int 0])), (v1, .inr (1, [.ref vh1, .ref vn1, .int 0])), (vh1, .inl (cZ, 64, .inl (fun _ => 0))), (vn1, .inl (cI, 64, .inl (fun _ => 0))), (vw1, .inl (cZ, 64, .inl (fun _ => 0)))]) [0, 1, 2, 3, 4, 5, 6, 7, 8, 9, 10] rfl
  have hDc := hD.sub (ws' := [(x, .inr (3, [.ref d, .ref tb, .ref wa, .ref ts, .int 0, .int 1, .int 0, .int 22])), (d, .inr (0, [.ref w, .int (-1), .int 0, .int 0])), (tb, .inr (1, [.ref hs, .ref ns, .int 0])), (hs, .inl (cZ, 64, .inl (fun _ => 0))), (ns, .inl (cI, 64, .inl (fun _ => 0))), (ts, .inl (cT, 3, .inr (.inr (.inr (.inr (tF t0 t1 t2)))))), (t1, .inr (2, [.ref v1, .ref vw1, .int 0, .int 0, .int 0])), (v1, .inr (1, [.ref vh1, .ref vn1, .int 0])), (vh1, .inl (cZ, 64, .inl (fun _ => 0))), (vn1, .inl (cI, 64, .inl (fun _ => 0))), (vw1, .inl (cZ, 64, .inl (fun _ => 0)))]) [0, 1, 2, 3, 4, 5, 6, 7, 8, 9, 10] (by decide) rfl
  have hFc := va_free (wc := [(x, .inr (3, [.ref d, .ref tb, .ref wa, .ref ts, .int 0, .int 1, .int 0, .int 22])), (d, .inr (0, [.ref w, .int (-1), .int 0, .int 0])), (tb, .inr (1, [.ref hs, .ref ns, .int 0])), (hs, .inl (cZ, 64, .inl (fun _ => 0))), (ns, .inl (cI, 64, .inl (fun _ => 0))), (ts, .inl (cT, 3, .inr (.inr (.inr (.inr (tF t0 t1 t2)))))), (t1, .inr (2, [.ref v1, .ref vw1, .int 0, .int 0, .int 0])), (v1, .inr (1, [.ref vh1, .ref vn1, .int 0])), (vh1, .inl (cZ, 64, .inl (fun _ => 0))), (vn1, .inl (cI, 64, .inl (fun _ => 0))), (vw1, .inl (cZ, 64, .inl (fun _ => 0)))]) hD hS hA [0, 1, 2, 3, 4, 5, 6, 7, 8, 9, 10] rfl
  refine va_calli (va_runV (C := "LoggedStore") (b := x) (As := [.int 1]) (rest := [.int 0, .ref o9]) ⟨hx, hb, hml, hown, hw⟩ (c_begin_1 l dC dI cI cZ cJ cT x d w tb hs ns wa ts t0 v0 vh0 vn0 vw0 t1 v1 vh1 vn1 vw1 t2 v2 vh2 vn2 vw2 s.heap.size) ⟨callB_of 1 hw (gA0 w288) rfl rfl rfl (hw _ w40) (hw _ w285) (by decide +kernel) ⟨Nat.le_of_ble_eq_true rfl, Nat.le_of_ble_eq_true rfl⟩, (hw _ w286), (hw _ w287)⟩ ⟨kb_Q, va_recv (ci := 3) (q0 := 0) hK hP rfl rfl, fun U hU hW => ⟨rfl, by rw [hU], by rw [hU]; exact hPc, hKK.moved hW, hDc.weaken (fun _ _ _ _ => trivial)⟩⟩ rfl rfl hl.1 rfl (lv_room (Nat.le_of_ble_eq_true rfl)) dL_begin_4 ⟨Nat.le_of_ble_eq_true rfl, Nat.le_of_ble_eq_true rfl⟩) hS (fun q _ h => hFc q h) hFc (fun r1 u2 t H1 locs ht hvm he9 hB hz1 hk1 hS => ?_)
  obtain ⟨hP, hD⟩ := va_join (wr := [(o9, .inl (cJ, 1, .inr (.inl (fun _ => 0))))]) (w1 := []) hP hD [0, 1, 2, 3, 4, 5, 6, 7, 8, 9, 10] [11] rfl rfl (by decide) (by decide) hk1 hFc tk_P0 tk_D0
  generalize H1 = H at hP hS ⊢
  have hP : va_P (dC, dI) vwC [(o9, .inl (cJ, 1, .inr (.inl (fun _ => 0))))] H := hP
  have hD : va_D A [(o9, .inl (cJ, 1, .inr (.inl (fun _ => 0))))] := hD
  obtain rfl : r1 = 0 := he9
  refine lv_i2l (v := 0) hx hb dL_begin_7 (by decide +kernel) ?_
  refine va_last hx hb hK hP hD hS 0 2 rfl rfl (tv_in (by decide +kernel)) dL_begin_8 (fun H locs hP hD hS => ?_)
  have hP : va_P (dC, dI) vwC [(o9, .inl (cJ, 1, .inr (.inl (vp_updL (fun _ => 0) (0 : Int32).toNatClampNeg 0))))] H := hP
  have hD : va_D A [(o9, .inl (cJ, 1, .inr (.inl (vp_updL (fun _ => 0) (0 : Int32).toNatClampNeg 0))))] := hD
  refine lv_goto (tgt := 21) hx hb dL_begin_9 (by decide) ?_
  refine lv_iconst (v := 0) hx hb dL_begin_21 (by decide) ?_
  have hP9 := hP.sub (ws' := [(o9, .inl (cJ, 1, .inr (.inl (vp_updL (fun _ => 0) (0 : Int32).toNatClampNeg 0))))]) [0] rfl
  have hD9 := hD.sub (ws' := [(o9, .inl (cJ, 1, .inr (.inl (vp_updL (fun _ => 0) (0 : Int32).toNatClampNeg 0))))]) [0] (by decide) rfl
  refine W.widen (k := 0) (n := 0) (by decide) (by decide) ?_
  exact W.iret (v := 0) hx hb hr (fun t ht hW => ⟨⟨0, fun _ => 0, rfl, rfl, by rw [ht]; exact hP9, hD9⟩, hS.F ht⟩) hS.2.2 dL_begin_22

set_option maxHeartbeats 4000000 in
set_option maxRecDepth 100000 in
theorem h_begin_2 (l : Launch) (dC : Nat → ClassId) (dI : Nat → Nat → Nat) (cI cZ cJ cT : ClassId) (x d w tb hs ns wa ts t0 v0 vh0 vn0 vw0 t1 v1 vh1 vn1 vw1 t2 v2 vh2 vn2 vw2 : Nat) (o9 : Nat) (sz : Nat) : Met l yL_begin (Cond.codeWith yL_begin cL_begin 4 (some .int) [(0, 9, 12, 13), (0, 9, 15, 15), (0, 9, 18, 17)] :: wsA) ({ frames := 3, cells := 0, slots := 0, locals := 66 }) (va_Pc [.ref x, .int 2, .ref o9] (fun U => U.heap.size = sz ∧ va_P (dC, dI) vwC [(x, .inr (3, [.ref d, .ref tb, .ref wa, .ref ts, .int 0, .int 1, .int 0, .int 22])), (d, .inr (0, [.ref w, .int (-1), .int 0, .int 0])), (tb, .inr (1, [.ref hs, .ref ns, .int 0])), (hs, .inl (cZ, 64, .inl (fun _ => 0))), (ns, .inl (cI, 64, .inl (fun _ => 0))), (ts, .inl (cT, 3, .inr (.inr (.inr (.inr (tF t0 t1 t2)))))), (t2, .inr (2, [.ref v2, .ref vw2, .int 0, .int 0, .int 0])), (v2, .inr (1, [.ref vh2, .ref vn2, .int 0])), (vh2, .inl (cZ, 64, .inl (fun _ => 0))), (vn2, .inl (cI, 64, .inl (fun _ => 0))), (vw2, .inl (cZ, 64, .inl (fun _ => 0))), (o9, .inl (cJ, 1, .inr (.inl (fun _ => 0))))] U.heap ∧ KK dC dI cI cZ cJ cT U ∧ va_D (fun _ => True) [(x, .inr (3, [.ref d, .ref tb, .ref wa, .ref ts, .int 0, .int 1, .int 0, .int 22])), (d, .inr (0, [.ref w, .int (-1), .int 0, .int 0])), (tb, .inr (1, [.ref hs, .ref ns, .int 0])), (hs, .inl (cZ, 64, .inl (fun _ => 0))), (ns, .inl (cI, 64, .inl (fun _ => 0))), (ts, .inl (cT, 3, .inr (.inr (.inr (.inr (tF t0 t1 t2)))))), (t2, .inr (2, [.ref v2, .ref vw2, .int 0, .int 0, .int 0])), (v2, .inr (1, [.ref vh2, .ref vn2, .int 0])), (vh2, .inl (cZ, 64, .inl (fun _ => 0))), (vn2, .inl (cI, 64, .inl (fun _ => 0))), (vw2, .inl (cZ, 64, .inl (fun _ => 0))), (o9, .inl (cJ, 1, .inr (.inl (fun _ => 0))))])) (va_Qi (S := Nat → Nat) (fun r _ => r = 0) (fun u t => va_P (dC, dI) vwC [(o9, .inl (cJ, 1, .inr (.inl O0)))] t.heap ∧ va_D (va_A [(x, .inr (3, [.ref d, .ref tb, .ref wa, .ref ts, .int 0, .int 1, .int 0, .int 22])), (d, .inr (0, [.ref w, .int (-1), .int 0, .int 0])), (tb, .inr (1, [.ref hs, .ref ns, .int 0])), (hs, .inl (cZ, 64, .inl (fun _ => 0))), (ns, .inl (cI, 64, .inl (fun _ => 0))), (ts, .inl (cT, 3, .inr (.inr (.inr (.inr (tF t0 t1 t2)))))), (t2, .inr (2, [.ref v2, .ref vw2, .int 0, .int 0, .int 0])), (v2, .inr (1, [.ref vh2, .ref vn2, .int 0])), (vh2, .inl (cZ, 64, .inl (fun _ => 0))), (vn2, .inl (cI, 64, .inl (fun _ => 0))), (vw2, .inl (cZ, 64, .inl (fun _ => 0))), (o9, .inl (cJ, 1, .inr (.inl (fun _ => 0))))] sz) [(o9, .inl (cJ, 1, .inr (.inl O0)))]) (va_A [(x, .inr (3, [.ref d, .ref tb, .ref wa, .ref ts, .int 0, .int 1, .int 0, .int 22])), (d, .inr (0, [.ref w, .int (-1), .int 0, .int 0])), (tb, .inr (1, [.ref hs, .ref ns, .int 0])), (hs, .inl (cZ, 64, .inl (fun _ => 0))), (ns, .inl (cI, 64, .inl (fun _ => 0))), (ts, .inl (cT, 3, .inr (.inr (.inr (.inr (tF t0 t1 t2)))))), (t2, .inr (2, [.ref v2, .ref vw2, .int 0, .int 0, .int 0])), (v2, .inr (1, [.ref vh2, .ref vn2, .int 0])), (vh2, .inl (cZ, 64, .inl (fun _ => 0))), (vn2, .inl (cI, 64, .inl (fun _ => 0))), (vw2, .inl (cZ, 64, .inl (fun _ => 0))), (o9, .inl (cJ, 1, .inr (.inl (fun _ => 0))))] sz)) 0 0 (va_A [(x, .inr (3, [.ref d, .ref tb, .ref wa, .ref ts, .int 0, .int 1, .int 0, .int 22])), (d, .inr (0, [.ref w, .int (-1), .int 0, .int 0])), (tb, .inr (1, [.ref hs, .ref ns, .int 0])), (hs, .inl (cZ, 64, .inl (fun _ => 0))), (ns, .inl (cI, 64, .inl (fun _ => 0))), (ts, .inl (cT, 3, .inr (.inr (.inr (.inr (tF t0 t1 t2)))))), (t2, .inr (2, [.ref v2, .ref vw2, .int 0, .int 0, .int 0])), (v2, .inr (1, [.ref vh2, .ref vn2, .int 0])), (vh2, .inl (cZ, 64, .inl (fun _ => 0))), (vn2, .inl (cI, 64, .inl (fun _ => 0))), (vw2, .inl (cZ, 64, .inl (fun _ => 0))), (o9, .inl (cJ, 1, .inr (.inl (fun _ => 0))))] sz) := by
  refine va_MetW (hh := [(0, 9, 12, 13), (0, 9, 15, 15), (0, 9, 18, 17)]) (cc := cL_begin) (maxL := 4) (ret := (some .int)) (by decide) rfl ?_
  intro p e s m args below meth c s₁ B hml hv
  obtain ⟨rfl, hsz, hP, hKK, hD0⟩ := hv
  have hK := hKK.1
  have hx := B.exec
  have hb := B.bytes
  have hr := B.returns
  have hw : ∀ w ∈ wsA, w.before _ s = true := fun w h => atoms_spec (ws := (Cond.codeWith yL_begin cL_begin 4 (some .int) [(0, 9, 12, 13), (0, 9, 15, 15), (0, 9, 18, 17)] :: wsA)) B.pre w (List.mem_cons_of_mem _ h)
  have hown : s.vm.findClass "LoggedStoreLaw" = some m.cls := findClass_of_methodNamed B.named
  have hlocks := B.notSynchronized
  subst hsz
  have hD := hD0.self (sz := s.heap.size)
  generalize hAe : va_A [(x, .inr (3, [.ref d, .ref tb, .ref wa, .ref ts, .int 0, .int 1, .int 0, .int 22])), (d, .inr (0, [.ref w, .int (-1), .int 0, .int 0])), (tb, .inr (1, [.ref hs, .ref ns, .int 0])), (hs, .inl (cZ, 64, .inl (fun _ => 0))), (ns, .inl (cI, 64, .inl (fun _ => 0))), (ts, .inl (cT, 3, .inr (.inr (.inr (.inr (tF t0 t1 t2)))))), (t2, .inr (2, [.ref v2, .ref vw2, .int 0, .int 0, .int 0])), (v2, .inr (1, [.ref vh2, .ref vn2, .int 0])), (vh2, .inl (cZ, 64, .inl (fun _ => 0))), (vn2, .inl (cI, 64, .inl (fun _ => 0))), (vw2, .inl (cZ, 64, .inl (fun _ => 0))), (o9, .inl (cJ, 1, .inr (.inl (fun _ => 0))))] s.heap.size = A at hD ⊢
  have hA : ∀ q : Nat, s.heap.size ≤ q → A q := fun q h => by rw [← hAe]; exact Or.inr h
  have hS : va_S A s.heap s.heap [] := va_S.rf
  have hl := lv_entry ([.ref x, .int 2, .ref o9]) (n := 4) (Nat.le_of_ble_eq_true rfl)
  rw [lg_entry_eq]
  generalize (lg_sl ([.ref x, .int 2, .ref o9]) ++ List.replicate (4 - (lg_sl ([.ref x, .int 2, .ref o9])).length) Slot.unset).toArray = ls at hl ⊢
  have hl : lv_has ls 4 [(0, .ref x), (1, .int 2), (2, .ref o9)] := hl
  refine lv_aload_n hx hb dL_begin_0 rfl (lv_at hl 2 rfl) ?_
  refine lv_iconst (v := 0) hx hb dL_begin_1 (by decide) ?_
  refine lv_aload_n hx hb dL_begin_2 rfl (lv_at hl 0 rfl) ?_
  refine lv_iload_n hx hb dL_begin_3 rfl (lv_at hl 1 rfl) ?_
  have hPc := hP.sub (ws' := [(x, .inr (3, [.ref d, .ref tb, .ref wa, .ref ts, .int 0, .int 1, .int 0, .int 22])), (d, .inr (0, [.ref w, .int (-1), .int 0, .int 0])), (tb, .inr (1, [.ref hs, .ref ns, .int 0])), (hs, .inl (cZ, 64, .inl (fun _ => 0))), (ns, .inl (cI, 64, .inl (fun _ => 0))), (ts, .inl (cT, 3, .inr (.inr (.inr (.inr (tF t0 t1 t2)))))), (t2, .inr (2, [.ref v2, .ref vw2, .int 0, .int 0, .int 0])), (v2, .inr (1, [.ref vh2, .ref vn2, .int 0])), (vh2, .inl (cZ, 64, .inl (fun _ => 0))), (vn2, .inl (cI, 64, .inl (fun _ => 0))), (vw2, .inl (cZ, 64, .inl (fun _ => 0)))]) [0, 1, 2, 3, 4, 5, 6, 7, 8, 9, 10] rfl
  have hDc := hD.sub (ws' := [(x, .inr (3, [.ref d, .ref tb, .ref wa, .ref ts, .int 0, .int 1, .int 0, .int 22])), (d, .inr (0, [.ref w, .int (-1), .int 0, .int 0])), (tb, .inr (1, [.ref hs, .ref ns, .int 0])), (hs, .inl (cZ, 64, .inl (fun _ => 0))), (ns, .inl (cI, 64, .inl (fun _ => 0))), (ts, .inl (cT, 3, .inr (.inr (.inr (.inr (tF t0 t1 t2)))))), (t2, .inr (2, [.ref v2, .ref vw2, .int 0, .int 0, .int 0])), (v2, .inr (1, [.ref vh2, .ref vn2, .int 0])), (vh2, .inl (cZ, 64, .inl (fun _ => 0))), (vn2, .inl (cI, 64, .inl (fun _ => 0))), (vw2, .inl (cZ, 64, .inl (fun _ => 0)))]) [0, 1, 2, 3, 4, 5, 6, 7, 8, 9, 10] (by decide) rfl
  have hFc := va_free (wc := [(x, .inr (3, [.ref d, .ref tb, .ref wa, .ref ts, .int 0, .int 1, .int 0, .int 22])), (d, .inr (0, [.ref w, .int (-1), .int 0, .int 0])), (tb, .inr (1, [.ref hs, .ref ns, .int 0])), (hs, .inl (cZ, 64, .inl (fun _ => 0))), (ns, .inl (cI, 64, .inl (fun _ => 0))), (ts, .inl (cT, 3, .inr (.inr (.inr (.inr (tF t0 t1 t2)))))), (t2, .inr (2, [.ref v2, .ref vw2, .int 0, .int 0, .int 0])), (v2, .inr (1, [.ref vh2, .ref vn2, .int 0])), (vh2, .inl (cZ, 64, .inl (fun _ => 0))), (vn2, .inl (cI, 64, .inl (fun _ => 0))), (vw2, .inl (cZ, 64, .inl (fun _ => 0)))]) hD hS hA [0, 1, 2, 3, 4, 5, 6, 7, 8, 9, 10] rfl
  refine va_calli (va_runV (C := "LoggedStore") (b := x) (As := [.int 2]) (rest := [.int 0, .ref o9]) ⟨hx, hb, hml, hown, hw⟩ (c_begin_2 l dC dI cI cZ cJ cT x d w tb hs ns wa ts t0 v0 vh0 vn0 vw0 t1 v1 vh1 vn1 vw1 t2 v2 vh2 vn2 vw2 s.heap.size) ⟨callB_of 1 hw (gA0 w288) rfl rfl rfl (hw _ w40) (hw _ w285) (by decide +kernel) ⟨Nat.le_of_ble_eq_true rfl, Nat.le_of_ble_eq_true rfl⟩, (hw _ w286), (hw _ w287)⟩ ⟨kb_Q, va_recv (ci := 3) (q0 := 0) hK hP rfl rfl, fun U hU hW => ⟨rfl, by rw [hU], by rw [hU]; exact hPc, hKK.moved hW, hDc.weaken (fun _ _ _ _ => trivial)⟩⟩ rfl rfl hl.1 rfl (lv_room (Nat.le_of_ble_eq_true rfl)) dL_begin_4 ⟨Nat.le_of_ble_eq_true rfl, Nat.le_of_ble_eq_true rfl⟩) hS (fun q _ h => hFc q h) hFc (fun r1 u2 t H1 locs ht hvm he9 hB hz1 hk1 hS => ?_)
  obtain ⟨hP, hD⟩ := va_join (wr := [(o9, .inl (cJ, 1, .inr (.inl (fun _ => 0))))]) (w1 := []) hP hD [0, 1, 2, 3, 4, 5, 6, 7, 8, 9, 10] [11] rfl rfl (by decide) (by decide) hk1 hFc tk_P0 tk_D0
  generalize H1 = H at hP hS ⊢
  have hP : va_P (dC, dI) vwC [(o9, .inl (cJ, 1, .inr (.inl (fun _ => 0))))] H := hP
  have hD : va_D A [(o9, .inl (cJ, 1, .inr (.inl (fun _ => 0))))] := hD
  obtain rfl : r1 = 0 := he9
  refine lv_i2l (v := 0) hx hb dL_begin_7 (by decide +kernel) ?_
  refine va_last hx hb hK hP hD hS 0 2 rfl rfl (tv_in (by decide +kernel)) dL_begin_8 (fun H locs hP hD hS => ?_)
  have hP : va_P (dC, dI) vwC [(o9, .inl (cJ, 1, .inr (.inl (vp_updL (fun _ => 0) (0 : Int32).toNatClampNeg 0))))] H := hP
  have hD : va_D A [(o9, .inl (cJ, 1, .inr (.inl (vp_updL (fun _ => 0) (0 : Int32).toNatClampNeg 0))))] := hD
  refine lv_goto (tgt := 21) hx hb dL_begin_9 (by decide) ?_
  refine lv_iconst (v := 0) hx hb dL_begin_21 (by decide) ?_
  have hP9 := hP.sub (ws' := [(o9, .inl (cJ, 1, .inr (.inl (vp_updL (fun _ => 0) (0 : Int32).toNatClampNeg 0))))]) [0] rfl
  have hD9 := hD.sub (ws' := [(o9, .inl (cJ, 1, .inr (.inl (vp_updL (fun _ => 0) (0 : Int32).toNatClampNeg 0))))]) [0] (by decide) rfl
  refine W.widen (k := 0) (n := 0) (by decide) (by decide) ?_
  exact W.iret (v := 0) hx hb hr (fun t ht hW => ⟨⟨0, fun _ => 0, rfl, rfl, by rw [ht]; exact hP9, hD9⟩, hS.F ht⟩) hS.2.2 dL_begin_22

set_option maxHeartbeats 4000000 in
set_option maxRecDepth 100000 in
theorem h_count (l : Launch) (dC : Nat → ClassId) (dI : Nat → Nat → Nat) (cI cZ cJ cT : ClassId) (x d w tb wa ts : Nat) (hs ns : Nat) (o9 : Nat) (sz : Nat) : Met l yL_count (Cond.codeWith yL_count cL_count 3 (some .int) [(0, 8, 11, 13)] :: wsA) ({ frames := 2, cells := 0, slots := 0, locals := 40 }) (va_Pc [.ref x, .ref o9] (fun U => U.heap.size = sz ∧ va_P (dC, dI) vwC [(x, .inr (3, [.ref d, .ref tb, .ref wa, .ref ts, .int 0, .int 1, .int 0, .int 22])), (d, .inr (0, [.ref w, .int (-1), .int 0, .int 0])), (tb, .inr (1, [.ref hs, .ref ns, .int 0])), (o9, .inl (cJ, 1, .inr (.inl (fun _ => 0))))] U.heap ∧ KK dC dI cI cZ cJ cT U ∧ va_D (fun _ => True) [(x, .inr (3, [.ref d, .ref tb, .ref wa, .ref ts, .int 0, .int 1, .int 0, .int 22])), (d, .inr (0, [.ref w, .int (-1), .int 0, .int 0])), (tb, .inr (1, [.ref hs, .ref ns, .int 0])), (o9, .inl (cJ, 1, .inr (.inl (fun _ => 0))))])) (va_Qi (S := Nat → Nat) (fun r _ => r = 0) (fun u t => va_P (dC, dI) vwC [(o9, .inl (cJ, 1, .inr (.inl O0)))] t.heap ∧ va_D (va_A [(x, .inr (3, [.ref d, .ref tb, .ref wa, .ref ts, .int 0, .int 1, .int 0, .int 22])), (d, .inr (0, [.ref w, .int (-1), .int 0, .int 0])), (tb, .inr (1, [.ref hs, .ref ns, .int 0])), (o9, .inl (cJ, 1, .inr (.inl (fun _ => 0))))] sz) [(o9, .inl (cJ, 1, .inr (.inl O0)))]) (va_A [(x, .inr (3, [.ref d, .ref tb, .ref wa, .ref ts, .int 0, .int 1, .int 0, .int 22])), (d, .inr (0, [.ref w, .int (-1), .int 0, .int 0])), (tb, .inr (1, [.ref hs, .ref ns, .int 0])), (o9, .inl (cJ, 1, .inr (.inl (fun _ => 0))))] sz)) 0 0 (va_A [(x, .inr (3, [.ref d, .ref tb, .ref wa, .ref ts, .int 0, .int 1, .int 0, .int 22])), (d, .inr (0, [.ref w, .int (-1), .int 0, .int 0])), (tb, .inr (1, [.ref hs, .ref ns, .int 0])), (o9, .inl (cJ, 1, .inr (.inl (fun _ => 0))))] sz) := by
  refine va_MetW (hh := [(0, 8, 11, 13)]) (cc := cL_count) (maxL := 3) (ret := (some .int)) (by decide) rfl ?_
  intro p e s m args below meth c s₁ B hml hv
  obtain ⟨rfl, hsz, hP, hKK, hD0⟩ := hv
  have hK := hKK.1
  have hx := B.exec
  have hb := B.bytes
  have hr := B.returns
  have hw : ∀ w ∈ wsA, w.before _ s = true := fun w h => atoms_spec (ws := (Cond.codeWith yL_count cL_count 3 (some .int) [(0, 8, 11, 13)] :: wsA)) B.pre w (List.mem_cons_of_mem _ h)
  have hown : s.vm.findClass "LoggedStoreLaw" = some m.cls := findClass_of_methodNamed B.named
  have hlocks := B.notSynchronized
  subst hsz
  have hD := hD0.self (sz := s.heap.size)
  generalize hAe : va_A [(x, .inr (3, [.ref d, .ref tb, .ref wa, .ref ts, .int 0, .int 1, .int 0, .int 22])), (d, .inr (0, [.ref w, .int (-1), .int 0, .int 0])), (tb, .inr (1, [.ref hs, .ref ns, .int 0])), (o9, .inl (cJ, 1, .inr (.inl (fun _ => 0))))] s.heap.size = A at hD ⊢
  have hA : ∀ q : Nat, s.heap.size ≤ q → A q := fun q h => by rw [← hAe]; exact Or.inr h
  have hS : va_S A s.heap s.heap [] := va_S.rf
  have hl := lv_entry ([.ref x, .ref o9]) (n := 3) (Nat.le_of_ble_eq_true rfl)
  rw [lg_entry_eq]
  generalize (lg_sl ([.ref x, .ref o9]) ++ List.replicate (3 - (lg_sl ([.ref x, .ref o9])).length) Slot.unset).toArray = ls at hl ⊢
  have hl : lv_has ls 3 [(0, .ref x), (1, .ref o9)] := hl
  refine lv_aload_n hx hb dL_count_0 rfl (lv_at hl 1 rfl) ?_
  refine lv_iconst (v := 0) hx hb dL_count_1 (by decide) ?_
  refine lv_aload_n hx hb dL_count_2 rfl (lv_at hl 0 rfl) ?_
  have hPc := hP.sub (ws' := [(x, .inr (3, [.ref d, .ref tb, .ref wa, .ref ts, .int 0, .int 1, .int 0, .int 22])), (d, .inr (0, [.ref w, .int (-1), .int 0, .int 0])), (tb, .inr (1, [.ref hs, .ref ns, .int 0]))]) [0, 1, 2] rfl
  refine vp_callSi (W.runV (C := "LoggedStore") (b := x) (As := []) (rest := [.int 0, .ref o9]) ⟨hx, hb, hml, hown, hw⟩ (c_count l dC dI cI cZ cJ cT x d w tb wa ts hs ns) ⟨callB_of 0 hw (gA0 w585) rfl rfl rfl (hw _ w40) (hw _ w582) (by decide +kernel) ⟨Nat.le_of_ble_eq_true rfl, Nat.le_of_ble_eq_true rfl⟩, (hw _ w583), (hw _ w584)⟩ ⟨kb_S, va_recv (ci := 3) (q0 := 0) hK hP rfl rfl, fun U hU hW => ⟨rfl, by rw [hU]; exact hPc, hKK.moved hW⟩⟩ rfl rfl hl.1 rfl (lv_room (Nat.le_of_ble_eq_true rfl)) dL_count_3 ⟨Nat.le_of_ble_eq_true rfl, Nat.le_of_ble_eq_true rfl⟩) (fun r1 e2 => ?_)
  obtain rfl : r1 = 0 := e2
  refine lv_i2l (v := 0) hx hb dL_count_6 (by decide +kernel) ?_
  refine va_last hx hb hK hP hD hS 3 2 rfl rfl (tv_in (by decide +kernel)) dL_count_7 (fun H locs hP hD hS => ?_)
  have hP : va_P (dC, dI) vwC [(x, .inr (3, [.ref d, .ref tb, .ref wa, .ref ts, .int 0, .int 1, .int 0, .int 22])), (d, .inr (0, [.ref w, .int (-1), .int 0, .int 0])), (tb, .inr (1, [.ref hs, .ref ns, .int 0])), (o9, .inl (cJ, 1, .inr (.inl (vp_updL (fun _ => 0) (0 : Int32).toNatClampNeg 0))))] H := hP
  have hD : va_D A [(x, .inr (3, [.ref d, .ref tb, .ref wa, .ref ts, .int 0, .int 1, .int 0, .int 22])), (d, .inr (0, [.ref w, .int (-1), .int 0, .int 0])), (tb, .inr (1, [.ref hs, .ref ns, .int 0])), (o9, .inl (cJ, 1, .inr (.inl (vp_updL (fun _ => 0) (0 : Int32).toNatClampNeg 0))))] := hD
  refine lv_goto (tgt := 14) hx hb dL_count_8 (by decide) ?_
  refine lv_iconst (v := 0) hx hb dL_count_14 (by decide) ?_
  have hP9 := hP.sub (ws' := [(o9, .inl (cJ, 1, .inr (.inl (vp_updL (fun _ => 0) (0 : Int32).toNatClampNeg 0))))]) [3] rfl
  have hD9 := hD.sub (ws' := [(o9, .inl (cJ, 1, .inr (.inl (vp_updL (fun _ => 0) (0 : Int32).toNatClampNeg 0))))]) [3] (by decide) rfl
  refine W.widen (k := 0) (n := 0) (by decide) (by decide) ?_
  exact W.iret (v := 0) hx hb hr (fun t ht hW => ⟨⟨0, fun _ => 0, rfl, rfl, by rw [ht]; exact hP9, hD9⟩, hS.F ht⟩) hS.2.2 dL_count_15

set_option maxHeartbeats 4000000 in
set_option maxRecDepth 100000 in
theorem h_version (l : Launch) (dC : Nat → ClassId) (dI : Nat → Nat → Nat) (cI cZ cJ cT : ClassId) (x d w tb wa ts : Nat) (o9 : Nat) (sz : Nat) : Met l yL_version (Cond.codeWith yL_version cL_version 3 (some .int) [(0, 8, 11, 13)] :: wsA) ({ frames := 2, cells := 0, slots := 0, locals := 40 }) (va_Pc [.ref x, .ref o9] (fun U => U.heap.size = sz ∧ va_P (dC, dI) vwC [(x, .inr (3, [.ref d, .ref tb, .ref wa, .ref ts, .int 0, .int 1, .int 0, .int 22])), (d, .inr (0, [.ref w, .int (-1), .int 0, .int 0])), (o9, .inl (cJ, 1, .inr (.inl (fun _ => 0))))] U.heap ∧ KK dC dI cI cZ cJ cT U ∧ va_D (fun _ => True) [(x, .inr (3, [.ref d, .ref tb, .ref wa, .ref ts, .int 0, .int 1, .int 0, .int 22])), (d, .inr (0, [.ref w, .int (-1), .int 0, .int 0])), (o9, .inl (cJ, 1, .inr (.inl (fun _ => 0))))])) (va_Qi (S := Nat → Nat) (fun r _ => r = 0) (fun u t => va_P (dC, dI) vwC [(o9, .inl (cJ, 1, .inr (.inl O0)))] t.heap ∧ va_D (va_A [(x, .inr (3, [.ref d, .ref tb, .ref wa, .ref ts, .int 0, .int 1, .int 0, .int 22])), (d, .inr (0, [.ref w, .int (-1), .int 0, .int 0])), (o9, .inl (cJ, 1, .inr (.inl (fun _ => 0))))] sz) [(o9, .inl (cJ, 1, .inr (.inl O0)))]) (va_A [(x, .inr (3, [.ref d, .ref tb, .ref wa, .ref ts, .int 0, .int 1, .int 0, .int 22])), (d, .inr (0, [.ref w, .int (-1), .int 0, .int 0])), (o9, .inl (cJ, 1, .inr (.inl (fun _ => 0))))] sz)) 0 0 (va_A [(x, .inr (3, [.ref d, .ref tb, .ref wa, .ref ts, .int 0, .int 1, .int 0, .int 22])), (d, .inr (0, [.ref w, .int (-1), .int 0, .int 0])), (o9, .inl (cJ, 1, .inr (.inl (fun _ => 0))))] sz) := by
  refine va_MetW (hh := [(0, 8, 11, 13)]) (cc := cL_version) (maxL := 3) (ret := (some .int)) (by decide) rfl ?_
  intro p e s m args below meth c s₁ B hml hv
  obtain ⟨rfl, hsz, hP, hKK, hD0⟩ := hv
  have hK := hKK.1
  have hx := B.exec
  have hb := B.bytes
  have hr := B.returns
  have hw : ∀ w ∈ wsA, w.before _ s = true := fun w h => atoms_spec (ws := (Cond.codeWith yL_version cL_version 3 (some .int) [(0, 8, 11, 13)] :: wsA)) B.pre w (List.mem_cons_of_mem _ h)
  have hown : s.vm.findClass "LoggedStoreLaw" = some m.cls := findClass_of_methodNamed B.named
  have hlocks := B.notSynchronized
  subst hsz
  have hD := hD0.self (sz := s.heap.size)
  generalize hAe : va_A [(x, .inr (3, [.ref d, .ref tb, .ref wa, .ref ts, .int 0, .int 1, .int 0, .int 22])), (d, .inr (0, [.ref w, .int (-1), .int 0, .int 0])), (o9, .inl (cJ, 1, .inr (.inl (fun _ => 0))))] s.heap.size = A at hD ⊢
  have hA : ∀ q : Nat, s.heap.size ≤ q → A q := fun q h => by rw [← hAe]; exact Or.inr h
  have hS : va_S A s.heap s.heap [] := va_S.rf
  have hl := lv_entry ([.ref x, .ref o9]) (n := 3) (Nat.le_of_ble_eq_true rfl)
  rw [lg_entry_eq]
  generalize (lg_sl ([.ref x, .ref o9]) ++ List.replicate (3 - (lg_sl ([.ref x, .ref o9])).length) Slot.unset).toArray = ls at hl ⊢
  have hl : lv_has ls 3 [(0, .ref x), (1, .ref o9)] := hl
  refine lv_aload_n hx hb dL_version_0 rfl (lv_at hl 1 rfl) ?_
  refine lv_iconst (v := 0) hx hb dL_version_1 (by decide) ?_
  refine lv_aload_n hx hb dL_version_2 rfl (lv_at hl 0 rfl) ?_
  have hPc := hP.sub (ws' := [(x, .inr (3, [.ref d, .ref tb, .ref wa, .ref ts, .int 0, .int 1, .int 0, .int 22])), (d, .inr (0, [.ref w, .int (-1), .int 0, .int 0]))]) [0, 1] rfl
  refine vp_callSi (W.runV (C := "LoggedStore") (b := x) (As := []) (rest := [.int 0, .ref o9]) ⟨hx, hb, hml, hown, hw⟩ (c_version l dC dI cI cZ cJ cT x d w tb wa ts) ⟨callB_of 0 hw (gA0 w592) rfl rfl rfl (hw _ w40) (hw _ w589) (by decide +kernel) ⟨Nat.le_of_ble_eq_true rfl, Nat.le_of_ble_eq_true rfl⟩, (hw _ w590), (hw _ w591)⟩ ⟨kb_S, va_recv (ci := 3) (q0 := 0) hK hP rfl rfl, fun U hU hW => ⟨rfl, by rw [hU]; exact hPc, hKK.moved hW⟩⟩ rfl rfl hl.1 rfl (lv_room (Nat.le_of_ble_eq_true rfl)) dL_version_3 ⟨Nat.le_of_ble_eq_true rfl, Nat.le_of_ble_eq_true rfl⟩) (fun r1 e2 => ?_)
  obtain rfl : r1 = 0 := e2
  refine lv_i2l (v := 0) hx hb dL_version_6 (by decide +kernel) ?_
  refine va_last hx hb hK hP hD hS 2 2 rfl rfl (tv_in (by decide +kernel)) dL_version_7 (fun H locs hP hD hS => ?_)
  have hP : va_P (dC, dI) vwC [(x, .inr (3, [.ref d, .ref tb, .ref wa, .ref ts, .int 0, .int 1, .int 0, .int 22])), (d, .inr (0, [.ref w, .int (-1), .int 0, .int 0])), (o9, .inl (cJ, 1, .inr (.inl (vp_updL (fun _ => 0) (0 : Int32).toNatClampNeg 0))))] H := hP
  have hD : va_D A [(x, .inr (3, [.ref d, .ref tb, .ref wa, .ref ts, .int 0, .int 1, .int 0, .int 22])), (d, .inr (0, [.ref w, .int (-1), .int 0, .int 0])), (o9, .inl (cJ, 1, .inr (.inl (vp_updL (fun _ => 0) (0 : Int32).toNatClampNeg 0))))] := hD
  refine lv_goto (tgt := 14) hx hb dL_version_8 (by decide) ?_
  refine lv_iconst (v := 0) hx hb dL_version_14 (by decide) ?_
  have hP9 := hP.sub (ws' := [(o9, .inl (cJ, 1, .inr (.inl (vp_updL (fun _ => 0) (0 : Int32).toNatClampNeg 0))))]) [2] rfl
  have hD9 := hD.sub (ws' := [(o9, .inl (cJ, 1, .inr (.inl (vp_updL (fun _ => 0) (0 : Int32).toNatClampNeg 0))))]) [2] (by decide) rfl
  refine W.widen (k := 0) (n := 0) (by decide) (by decide) ?_
  exact W.iret (v := 0) hx hb hr (fun t ht hW => ⟨⟨0, fun _ => 0, rfl, rfl, by rw [ht]; exact hP9, hD9⟩, hS.F ht⟩) hS.2.2 dL_version_15

set_option maxHeartbeats 4000000 in
set_option maxRecDepth 100000 in
theorem h_left (l : Launch) (dC : Nat → ClassId) (dI : Nat → Nat → Nat) (cI cZ cJ cT : ClassId) (x d w tb wa ts : Nat) (o9 : Nat) (sz : Nat) : Met l yL_left (Cond.codeWith yL_left cL_left 3 (some .int) [(0, 8, 11, 13)] :: wsA) ({ frames := 2, cells := 0, slots := 0, locals := 40 }) (va_Pc [.ref x, .ref o9] (fun U => U.heap.size = sz ∧ va_P (dC, dI) vwC [(x, .inr (3, [.ref d, .ref tb, .ref wa, .ref ts, .int 0, .int 1, .int 0, .int 22])), (d, .inr (0, [.ref w, .int (-1), .int 0, .int 0])), (o9, .inl (cJ, 1, .inr (.inl (fun _ => 0))))] U.heap ∧ KK dC dI cI cZ cJ cT U ∧ va_D (fun _ => True) [(x, .inr (3, [.ref d, .ref tb, .ref wa, .ref ts, .int 0, .int 1, .int 0, .int 22])), (d, .inr (0, [.ref w, .int (-1), .int 0, .int 0])), (o9, .inl (cJ, 1, .inr (.inl (fun _ => 0))))])) (va_Qi (S := Nat → Nat) (fun r _ => r = 0) (fun u t => va_P (dC, dI) vwC [(o9, .inl (cJ, 1, .inr (.inl O74)))] t.heap ∧ va_D (va_A [(x, .inr (3, [.ref d, .ref tb, .ref wa, .ref ts, .int 0, .int 1, .int 0, .int 22])), (d, .inr (0, [.ref w, .int (-1), .int 0, .int 0])), (o9, .inl (cJ, 1, .inr (.inl (fun _ => 0))))] sz) [(o9, .inl (cJ, 1, .inr (.inl O74)))]) (va_A [(x, .inr (3, [.ref d, .ref tb, .ref wa, .ref ts, .int 0, .int 1, .int 0, .int 22])), (d, .inr (0, [.ref w, .int (-1), .int 0, .int 0])), (o9, .inl (cJ, 1, .inr (.inl (fun _ => 0))))] sz)) 0 0 (va_A [(x, .inr (3, [.ref d, .ref tb, .ref wa, .ref ts, .int 0, .int 1, .int 0, .int 22])), (d, .inr (0, [.ref w, .int (-1), .int 0, .int 0])), (o9, .inl (cJ, 1, .inr (.inl (fun _ => 0))))] sz) := by
  refine va_MetW (hh := [(0, 8, 11, 13)]) (cc := cL_left) (maxL := 3) (ret := (some .int)) (by decide) rfl ?_
  intro p e s m args below meth c s₁ B hml hv
  obtain ⟨rfl, hsz, hP, hKK, hD0⟩ := hv
  have hK := hKK.1
  have hx := B.exec
  have hb := B.bytes
  have hr := B.returns
  have hw : ∀ w ∈ wsA, w.before _ s = true := fun w h => atoms_spec (ws := (Cond.codeWith yL_left cL_left 3 (some .int) [(0, 8, 11, 13)] :: wsA)) B.pre w (List.mem_cons_of_mem _ h)
  have hown : s.vm.findClass "LoggedStoreLaw" = some m.cls := findClass_of_methodNamed B.named
  have hlocks := B.notSynchronized
  subst hsz
  have hD := hD0.self (sz := s.heap.size)
  generalize hAe : va_A [(x, .inr (3, [.ref d, .ref tb, .ref wa, .ref ts, .int 0, .int 1, .int 0, .int 22])), (d, .inr (0, [.ref w, .int (-1), .int 0, .int 0])), (o9, .inl (cJ, 1, .inr (.inl (fun _ => 0))))] s.heap.size = A at hD ⊢
  have hA : ∀ q : Nat, s.heap.size ≤ q → A q := fun q h => by rw [← hAe]; exact Or.inr h
  have hS : va_S A s.heap s.heap [] := va_S.rf
  have hl := lv_entry ([.ref x, .ref o9]) (n := 3) (Nat.le_of_ble_eq_true rfl)
  rw [lg_entry_eq]
  generalize (lg_sl ([.ref x, .ref o9]) ++ List.replicate (3 - (lg_sl ([.ref x, .ref o9])).length) Slot.unset).toArray = ls at hl ⊢
  have hl : lv_has ls 3 [(0, .ref x), (1, .ref o9)] := hl
  refine lv_aload_n hx hb dL_left_0 rfl (lv_at hl 1 rfl) ?_
  refine lv_iconst (v := 0) hx hb dL_left_1 (by decide) ?_
  refine lv_aload_n hx hb dL_left_2 rfl (lv_at hl 0 rfl) ?_
  have hPc := hP.sub (ws' := [(x, .inr (3, [.ref d, .ref tb, .ref wa, .ref ts, .int 0, .int 1, .int 0, .int 22])), (d, .inr (0, [.ref w, .int (-1), .int 0, .int 0]))]) [0, 1] rfl
  refine vp_callSi (W.runV (C := "LoggedStore") (b := x) (As := []) (rest := [.int 0, .ref o9]) ⟨hx, hb, hml, hown, hw⟩ (c_left l dC dI cI cZ cJ cT x d w tb wa ts) ⟨callB_of 0 hw (gA0 w599) rfl rfl rfl (hw _ w40) (hw _ w596) (by decide +kernel) ⟨Nat.le_of_ble_eq_true rfl, Nat.le_of_ble_eq_true rfl⟩, (hw _ w597), (hw _ w598)⟩ ⟨kb_S, va_recv (ci := 3) (q0 := 0) hK hP rfl rfl, fun U hU hW => ⟨rfl, by rw [hU]; exact hPc, hKK.moved hW⟩⟩ rfl rfl hl.1 rfl (lv_room (Nat.le_of_ble_eq_true rfl)) dL_left_3 ⟨Nat.le_of_ble_eq_true rfl, Nat.le_of_ble_eq_true rfl⟩) (fun r1 e2 => ?_)
  obtain rfl : r1 = 74 := e2
  refine lv_i2l (v := 74) hx hb dL_left_6 (by decide +kernel) ?_
  refine va_last hx hb hK hP hD hS 2 2 rfl rfl (tv_in (by decide +kernel)) dL_left_7 (fun H locs hP hD hS => ?_)
  have hP : va_P (dC, dI) vwC [(x, .inr (3, [.ref d, .ref tb, .ref wa, .ref ts, .int 0, .int 1, .int 0, .int 22])), (d, .inr (0, [.ref w, .int (-1), .int 0, .int 0])), (o9, .inl (cJ, 1, .inr (.inl (vp_updL (fun _ => 0) (0 : Int32).toNatClampNeg 74))))] H := hP
  have hD : va_D A [(x, .inr (3, [.ref d, .ref tb, .ref wa, .ref ts, .int 0, .int 1, .int 0, .int 22])), (d, .inr (0, [.ref w, .int (-1), .int 0, .int 0])), (o9, .inl (cJ, 1, .inr (.inl (vp_updL (fun _ => 0) (0 : Int32).toNatClampNeg 74))))] := hD
  refine lv_goto (tgt := 14) hx hb dL_left_8 (by decide) ?_
  refine lv_iconst (v := 0) hx hb dL_left_14 (by decide) ?_
  have hP9 := hP.sub (ws' := [(o9, .inl (cJ, 1, .inr (.inl (vp_updL (fun _ => 0) (0 : Int32).toNatClampNeg 74))))]) [2] rfl
  have hD9 := hD.sub (ws' := [(o9, .inl (cJ, 1, .inr (.inl (vp_updL (fun _ => 0) (0 : Int32).toNatClampNeg 74))))]) [2] (by decide) rfl
  refine W.widen (k := 0) (n := 0) (by decide) (by decide) ?_
  exact W.iret (v := 0) hx hb hr (fun t ht hW => ⟨⟨0, fun _ => 0, rfl, rfl, by rw [ht]; exact hP9, hD9⟩, hS.F ht⟩) hS.2.2 dL_left_15

set_option maxHeartbeats 4000000 in
set_option maxRecDepth 100000 in
theorem h_checkpoint (l : Launch) (dC : Nat → ClassId) (dI : Nat → Nat → Nat) (cI cZ cJ cT : ClassId) (x d w tb wa ts : Nat) (hs ns : Nat) (o9 : Nat) (sz : Nat) : Met l yL_checkpoint (Cond.codeWith yL_checkpoint cL_checkpoint 3 (some .int) [(0, 8, 11, 13)] :: wsA) ({ frames := 4, cells := 0, slots := 0, locals := 98 }) (va_Pc [.ref x, .ref o9] (fun U => U.heap.size = sz ∧ va_P (dC, dI) vwC [(x, .inr (3, [.ref d, .ref tb, .ref wa, .ref ts, .int 0, .int 1, .int 0, .int 22])), (d, .inr (0, [.ref w, .int (-1), .int 0, .int 0])), (w, .inl (cI, 384, .inl W0)), (tb, .inr (1, [.ref hs, .ref ns, .int 0])), (hs, .inl (cZ, 64, .inl (fun _ => 0))), (o9, .inl (cJ, 1, .inr (.inl (fun _ => 0))))] U.heap ∧ KK dC dI cI cZ cJ cT U ∧ va_D (fun _ => True) [(x, .inr (3, [.ref d, .ref tb, .ref wa, .ref ts, .int 0, .int 1, .int 0, .int 22])), (d, .inr (0, [.ref w, .int (-1), .int 0, .int 0])), (w, .inl (cI, 384, .inl W0)), (tb, .inr (1, [.ref hs, .ref ns, .int 0])), (hs, .inl (cZ, 64, .inl (fun _ => 0))), (o9, .inl (cJ, 1, .inr (.inl (fun _ => 0))))])) (va_Qi (S := Nat → Nat) (fun r _ => r = 0) (fun u t => va_P (dC, dI) vwC [(o9, .inl (cJ, 1, .inr (.inl O2)))] t.heap ∧ va_D (va_A [(x, .inr (3, [.ref d, .ref tb, .ref wa, .ref ts, .int 0, .int 1, .int 0, .int 22])), (d, .inr (0, [.ref w, .int (-1), .int 0, .int 0])), (w, .inl (cI, 384, .inl W0)), (tb, .inr (1, [.ref hs, .ref ns, .int 0])), (hs, .inl (cZ, 64, .inl (fun _ => 0))), (o9, .inl (cJ, 1, .inr (.inl (fun _ => 0))))] sz) [(o9, .inl (cJ, 1, .inr (.inl O2)))]) (va_A [(x, .inr (3, [.ref d, .ref tb, .ref wa, .ref ts, .int 0, .int 1, .int 0, .int 22])), (d, .inr (0, [.ref w, .int (-1), .int 0, .int 0])), (w, .inl (cI, 384, .inl W0)), (tb, .inr (1, [.ref hs, .ref ns, .int 0])), (hs, .inl (cZ, 64, .inl (fun _ => 0))), (o9, .inl (cJ, 1, .inr (.inl (fun _ => 0))))] sz)) 0 0 (va_A [(x, .inr (3, [.ref d, .ref tb, .ref wa, .ref ts, .int 0, .int 1, .int 0, .int 22])), (d, .inr (0, [.ref w, .int (-1), .int 0, .int 0])), (w, .inl (cI, 384, .inl W0)), (tb, .inr (1, [.ref hs, .ref ns, .int 0])), (hs, .inl (cZ, 64, .inl (fun _ => 0))), (o9, .inl (cJ, 1, .inr (.inl (fun _ => 0))))] sz) := by
  refine va_MetW (hh := [(0, 8, 11, 13)]) (cc := cL_checkpoint) (maxL := 3) (ret := (some .int)) (by decide) rfl ?_
  intro p e s m args below meth c s₁ B hml hv
  obtain ⟨rfl, hsz, hP, hKK, hD0⟩ := hv
  have hK := hKK.1
  have hx := B.exec
  have hb := B.bytes
  have hr := B.returns
  have hw : ∀ w ∈ wsA, w.before _ s = true := fun w h => atoms_spec (ws := (Cond.codeWith yL_checkpoint cL_checkpoint 3 (some .int) [(0, 8, 11, 13)] :: wsA)) B.pre w (List.mem_cons_of_mem _ h)
  have hown : s.vm.findClass "LoggedStoreLaw" = some m.cls := findClass_of_methodNamed B.named
  have hlocks := B.notSynchronized
  subst hsz
  have hD := hD0.self (sz := s.heap.size)
  generalize hAe : va_A [(x, .inr (3, [.ref d, .ref tb, .ref wa, .ref ts, .int 0, .int 1, .int 0, .int 22])), (d, .inr (0, [.ref w, .int (-1), .int 0, .int 0])), (w, .inl (cI, 384, .inl W0)), (tb, .inr (1, [.ref hs, .ref ns, .int 0])), (hs, .inl (cZ, 64, .inl (fun _ => 0))), (o9, .inl (cJ, 1, .inr (.inl (fun _ => 0))))] s.heap.size = A at hD ⊢
  have hA : ∀ q : Nat, s.heap.size ≤ q → A q := fun q h => by rw [← hAe]; exact Or.inr h
  have hS : va_S A s.heap s.heap [] := va_S.rf
  have hl := lv_entry ([.ref x, .ref o9]) (n := 3) (Nat.le_of_ble_eq_true rfl)
  rw [lg_entry_eq]
  generalize (lg_sl ([.ref x, .ref o9]) ++ List.replicate (3 - (lg_sl ([.ref x, .ref o9])).length) Slot.unset).toArray = ls at hl ⊢
  have hl : lv_has ls 3 [(0, .ref x), (1, .ref o9)] := hl
  refine lv_aload_n hx hb dL_checkpoint_0 rfl (lv_at hl 1 rfl) ?_
  refine lv_iconst (v := 0) hx hb dL_checkpoint_1 (by decide) ?_
  refine lv_aload_n hx hb dL_checkpoint_2 rfl (lv_at hl 0 rfl) ?_
  have hPc := hP.sub (ws' := [(x, .inr (3, [.ref d, .ref tb, .ref wa, .ref ts, .int 0, .int 1, .int 0, .int 22])), (d, .inr (0, [.ref w, .int (-1), .int 0, .int 0])), (w, .inl (cI, 384, .inl W0)), (tb, .inr (1, [.ref hs, .ref ns, .int 0])), (hs, .inl (cZ, 64, .inl (fun _ => 0)))]) [0, 1, 2, 3, 4] rfl
  have hDc := hD.sub (ws' := [(x, .inr (3, [.ref d, .ref tb, .ref wa, .ref ts, .int 0, .int 1, .int 0, .int 22])), (d, .inr (0, [.ref w, .int (-1), .int 0, .int 0])), (w, .inl (cI, 384, .inl W0)), (tb, .inr (1, [.ref hs, .ref ns, .int 0])), (hs, .inl (cZ, 64, .inl (fun _ => 0)))]) [0, 1, 2, 3, 4] (by decide) rfl
  have hFc := va_free (wc := [(x, .inr (3, [.ref d, .ref tb, .ref wa, .ref ts, .int 0, .int 1, .int 0, .int 22])), (d, .inr (0, [.ref w, .int (-1), .int 0, .int 0])), (w, .inl (cI, 384, .inl W0)), (tb, .inr (1, [.ref hs, .ref ns, .int 0])), (hs, .inl (cZ, 64, .inl (fun _ => 0)))]) hD hS hA [0, 1, 2, 3, 4] rfl
  refine va_calli (va_runV (C := "LoggedStore") (b := x) (As := []) (rest := [.int 0, .ref o9]) ⟨hx, hb, hml, hown, hw⟩ (c_checkpoint l dC dI cI cZ cJ cT x d w tb wa ts hs ns s.heap.size) ⟨callB_of 0 hw (gA0 w566) rfl rfl rfl (hw _ w40) (hw _ w563) (by decide +kernel) ⟨Nat.le_of_ble_eq_true rfl, Nat.le_of_ble_eq_true rfl⟩, (hw _ w564), (hw _ w565)⟩ ⟨kb_Q, va_recv (ci := 3) (q0 := 0) hK hP rfl rfl, fun U hU hW => ⟨rfl, by rw [hU], by rw [hU]; exact hPc, hKK.moved hW, hDc.weaken (fun _ _ _ _ => trivial)⟩⟩ rfl rfl hl.1 rfl (lv_room (Nat.le_of_ble_eq_true rfl)) dL_checkpoint_3 ⟨Nat.le_of_ble_eq_true rfl, Nat.le_of_ble_eq_true rfl⟩) hS (fun q _ h => hFc q h) hFc (fun r1 u2 t H1 locs ht hvm he9 hB hz1 hk1 hS => ?_)
  obtain ⟨hP, hD⟩ := va_join (wr := [(o9, .inl (cJ, 1, .inr (.inl (fun _ => 0))))]) (w1 := []) hP hD [0, 1, 2, 3, 4] [5] rfl rfl (by decide) (by decide) hk1 hFc tk_P0 tk_D0
  generalize H1 = H at hP hS ⊢
  have hP : va_P (dC, dI) vwC [(o9, .inl (cJ, 1, .inr (.inl (fun _ => 0))))] H := hP
  have hD : va_D A [(o9, .inl (cJ, 1, .inr (.inl (fun _ => 0))))] := hD
  obtain rfl : r1 = 2 := he9
  refine lv_i2l (v := 2) hx hb dL_checkpoint_6 (by decide +kernel) ?_
  refine va_last hx hb hK hP hD hS 0 2 rfl rfl (tv_in (by decide +kernel)) dL_checkpoint_7 (fun H locs hP hD hS => ?_)
  have hP : va_P (dC, dI) vwC [(o9, .inl (cJ, 1, .inr (.inl (vp_updL (fun _ => 0) (0 : Int32).toNatClampNeg 2))))] H := hP
  have hD : va_D A [(o9, .inl (cJ, 1, .inr (.inl (vp_updL (fun _ => 0) (0 : Int32).toNatClampNeg 2))))] := hD
  refine lv_goto (tgt := 14) hx hb dL_checkpoint_8 (by decide) ?_
  refine lv_iconst (v := 0) hx hb dL_checkpoint_14 (by decide) ?_
  have hP9 := hP.sub (ws' := [(o9, .inl (cJ, 1, .inr (.inl (vp_updL (fun _ => 0) (0 : Int32).toNatClampNeg 2))))]) [0] rfl
  have hD9 := hD.sub (ws' := [(o9, .inl (cJ, 1, .inr (.inl (vp_updL (fun _ => 0) (0 : Int32).toNatClampNeg 2))))]) [0] (by decide) rfl
  refine W.widen (k := 0) (n := 0) (by decide) (by decide) ?_
  exact W.iret (v := 0) hx hb hr (fun t ht hW => ⟨⟨0, fun _ => 0, rfl, rfl, by rw [ht]; exact hP9, hD9⟩, hS.F ht⟩) hS.2.2 dL_checkpoint_15

set_option maxHeartbeats 4000000 in
set_option maxRecDepth 100000 in
theorem h_begin_x (l : Launch) (dC : Nat → ClassId) (dI : Nat → Nat → Nat) (cI cZ cJ cT : ClassId) (hl9 : l.stackTraces = false) (x d w tb wa ts : Nat) (t9 : Int32) (o9 : Nat) (sz : Nat) (hb9 : t9 < 0 ∨ (¬ t9 < 0 ∧ ¬ t9 < 3)) : Met l yL_begin (Cond.codeWith yL_begin cL_begin 4 (some .int) [(0, 9, 12, 13), (0, 9, 15, 15), (0, 9, 18, 17)] :: wsA) ({ frames := 8, cells := 1, slots := 6, locals := 123 }) (va_Pc [.ref x, .int t9, .ref o9] (fun U => U.heap.size = sz ∧ va_P (dC, dI) vwC [(x, .inr (3, [.ref d, .ref tb, .ref wa, .ref ts, .int 0, .int 1, .int 0, .int 22])), (d, .inr (0, [.ref w, .int (-1), .int 0, .int 0]))] U.heap ∧ KK dC dI cI cZ cJ cT U ∧ KS U ∧ va_D (fun _ => True) [(x, .inr (3, [.ref d, .ref tb, .ref wa, .ref ts, .int 0, .int 1, .int 0, .int 22])), (d, .inr (0, [.ref w, .int (-1), .int 0, .int 0]))])) (va_Qi (S := Nat → Nat) (fun r _ => r = 2) (fun _ _ => True) (va_A [(x, .inr (3, [.ref d, .ref tb, .ref wa, .ref ts, .int 0, .int 1, .int 0, .int 22])), (d, .inr (0, [.ref w, .int (-1), .int 0, .int 0]))] sz)) 1 6 (va_A [(x, .inr (3, [.ref d, .ref tb, .ref wa, .ref ts, .int 0, .int 1, .int 0, .int 22])), (d, .inr (0, [.ref w, .int (-1), .int 0, .int 0]))] sz) := by
  refine va_MetW (hh := [(0, 9, 12, 13), (0, 9, 15, 15), (0, 9, 18, 17)]) (cc := cL_begin) (maxL := 4) (ret := (some .int)) (by decide) rfl ?_
  intro p e s m args below meth c s₁ B hml hv
  obtain ⟨rfl, hsz, hP, hKK, hX, hD0⟩ := hv
  have hK := hKK.1
  have hx := B.exec
  have hb := B.bytes
  have hr := B.returns
  have hw : ∀ w ∈ wsA, w.before _ s = true := fun w h => atoms_spec (ws := (Cond.codeWith yL_begin cL_begin 4 (some .int) [(0, 9, 12, 13), (0, 9, 15, 15), (0, 9, 18, 17)] :: wsA)) B.pre w (List.mem_cons_of_mem _ h)
  have hown : s.vm.findClass "LoggedStoreLaw" = some m.cls := findClass_of_methodNamed B.named
  have hlocks := B.notSynchronized
  have htb : c.exceptionTable.toList = tableOf [(0, 9, 12, 13), (0, 9, 15, 15), (0, 9, 18, 17)] := tx_table B (atoms_spec (ws := (Cond.codeWith yL_begin cL_begin 4 (some .int) [(0, 9, 12, 13), (0, 9, 15, 15), (0, 9, 18, 17)] :: wsA)) B.pre _ List.mem_cons_self)
  subst hsz
  have hD := hD0.self (sz := s.heap.size)
  generalize hAe : va_A [(x, .inr (3, [.ref d, .ref tb, .ref wa, .ref ts, .int 0, .int 1, .int 0, .int 22])), (d, .inr (0, [.ref w, .int (-1), .int 0, .int 0]))] s.heap.size = A at hD ⊢
  have hA : ∀ q : Nat, s.heap.size ≤ q → A q := fun q h => by rw [← hAe]; exact Or.inr h
  have hS : va_S A s.heap s.heap [] := va_S.rf
  have hl := lv_entry ([.ref x, .int t9, .ref o9]) (n := 4) (Nat.le_of_ble_eq_true rfl)
  rw [lg_entry_eq]
  generalize (lg_sl ([.ref x, .int t9, .ref o9]) ++ List.replicate (4 - (lg_sl ([.ref x, .int t9, .ref o9])).length) Slot.unset).toArray = ls at hl ⊢
  have hl : lv_has ls 4 [(0, .ref x), (1, .int t9), (2, .ref o9)] := hl
  refine lv_aload_n hx hb dL_begin_0 rfl (lv_at hl 2 rfl) ?_
  refine lv_iconst (v := 0) hx hb dL_begin_1 (by decide) ?_
  refine lv_aload_n hx hb dL_begin_2 rfl (lv_at hl 0 rfl) ?_
  refine lv_iload_n hx hb dL_begin_3 rfl (lv_at hl 1 rfl) ?_
  have hPc := hP.sub (ws' := [(x, .inr (3, [.ref d, .ref tb, .ref wa, .ref ts, .int 0, .int 1, .int 0, .int 22])), (d, .inr (0, [.ref w, .int (-1), .int 0, .int 0]))]) [0, 1] rfl
  refine tx_caught (tx_runV (C := "LoggedStore") (b := x) (As := [.int t9]) (rest := [.int 0, .ref o9]) ⟨hx, hb, hml, hown, hw⟩ (c_begin_x l dC dI cI cZ cJ cT hl9 x d w tb wa ts t9 hb9) ⟨callB_of 1 hw (gA0 w288) rfl rfl rfl (hw _ w40) (hw _ w285) (by decide +kernel) ⟨Nat.le_of_ble_eq_true rfl, Nat.le_of_ble_eq_true rfl⟩, (hw _ w286), (hw _ w287)⟩ ⟨kb_X, va_recv (ci := 3) (q0 := 0) hK hP rfl rfl, fun U hU hW => ⟨rfl, by rw [hU]; exact hPc, hKK.moved hW, hX.moved hW (by rw [hU]; exact fun _ _ h _ => h)⟩⟩ rfl rfl hl.1 rfl (lv_room (Nat.le_of_ble_eq_true rfl)) dL_begin_4 ⟨Nat.le_of_ble_eq_true rfl, Nat.le_of_ble_eq_true rfl⟩) hown [(⟨0, 9, 12, 13⟩, "java/lang/IllegalStateException")] ⟨0, 9, 15, 15⟩ "java/lang/IllegalArgumentException" [⟨0, 9, 18, 17⟩] (htb.trans rfl) (List.forall_mem_cons.mpr ⟨⟨by decide, by decide, (hw _ w282), hKK.2.nc1⟩, fun _ h => absurd h List.not_mem_nil⟩) (by decide) (by decide) (hw _ w283) (va_Nw.use rfl hKK.2.ca1) (fun q1 H hz hk => ?_)
  have hS : va_S A s.heap H [] := ⟨hz, fun z h _ => hk z h, fun _ h => by cases h⟩
  refine W.eq (g2 := F0 m 15 ls [.ref q1]) rfl ?_
  refine lv_astore_n hx hb dL_begin_15 rfl hl (by decide) rfl (fun ls hl => ?_)
  have hl : lv_has ls 4 [(3, .ref q1), (0, .ref x), (1, .int t9), (2, .ref o9)] := hl
  refine lv_iconst (v := 2) hx hb dL_begin_16 (by decide) ?_
  refine W.widen (k := 1) (n := 6) (by decide) (by decide) ?_
  exact W.iret (v := 2) hx hb hr (fun t ht hW => ⟨⟨2, fun _ => 0, rfl, rfl, trivial⟩, hS.F ht⟩) hS.2.2 dL_begin_17

set_option maxHeartbeats 4000000 in
set_option maxRecDepth 100000 in
theorem h_get_x (l : Launch) (dC : Nat → ClassId) (dI : Nat → Nat → Nat) (cI cZ cJ cT : ClassId) (hl9 : l.stackTraces = false) (x d w tb wa ts : Nat) (t0 v0 vw0 t1 v1 vw1 t2 v2 vw2 : Nat) (t9 : Int32) (k9 : Int32) (o9 : Nat) (sz : Nat) : Met l yL_get (Cond.codeWith yL_get cL_get 5 (some .int) [(0, 10, 13, 13), (0, 10, 17, 15), (0, 10, 21, 23)] :: wsA) ({ frames := 10, cells := 1, slots := 6, locals := 168 }) (va_Pc [.ref x, .int t9, .int k9, .ref o9] (fun U => U.heap.size = sz ∧ va_P (dC, dI) vwC [(x, .inr (3, [.ref d, .ref tb, .ref wa, .ref ts, .int 0, .int 1, .int 0, .int 22])), (ts, .inl (cT, 3, .inr (.inr (.inr (.inr (tF t0 t1 t2)))))), (t0, .inr (2, [.ref v0, .ref vw0, .int 0, .int 0, .int 0])), (t1, .inr (2, [.ref v1, .ref vw1, .int 0, .int 0, .int 0])), (t2, .inr (2, [.ref v2, .ref vw2, .int 0, .int 0, .int 0])), (d, .inr (0, [.ref w, .int (-1), .int 0, .int 0]))] U.heap ∧ KK dC dI cI cZ cJ cT U ∧ KS U ∧ va_D (fun _ => True) [(x, .inr (3, [.ref d, .ref tb, .ref wa, .ref ts, .int 0, .int 1, .int 0, .int 22])), (ts, .inl (cT, 3, .inr (.inr (.inr (.inr (tF t0 t1 t2)))))), (t0, .inr (2, [.ref v0, .ref vw0, .int 0, .int 0, .int 0])), (t1, .inr (2, [.ref v1, .ref vw1, .int 0, .int 0, .int 0])), (t2, .inr (2, [.ref v2, .ref vw2, .int 0, .int 0, .int 0])), (d, .inr (0, [.ref w, .int (-1), .int 0, .int 0]))])) (va_Qi (S := Nat → Nat) (fun r _ => r = 2) (fun _ _ => True) (va_A [(x, .inr (3, [.ref d, .ref tb, .ref wa, .ref ts, .int 0, .int 1, .int 0, .int 22])), (ts, .inl (cT, 3, .inr (.inr (.inr (.inr (tF t0 t1 t2)))))), (t0, .inr (2, [.ref v0, .ref vw0, .int 0, .int 0, .int 0])), (t1, .inr (2, [.ref v1, .ref vw1, .int 0, .int 0, .int 0])), (t2, .inr (2, [.ref v2, .ref vw2, .int 0, .int 0, .int 0])), (d, .inr (0, [.ref w, .int (-1), .int 0, .int 0]))] sz)) 1 6 (va_A [(x, .inr (3, [.ref d, .ref tb, .ref wa, .ref ts, .int 0, .int 1, .int 0, .int 22])), (ts, .inl (cT, 3, .inr (.inr (.inr (.inr (tF t0 t1 t2)))))), (t0, .inr (2, [.ref v0, .ref vw0, .int 0, .int 0, .int 0])), (t1, .inr (2, [.ref v1, .ref vw1, .int 0, .int 0, .int 0])), (t2, .inr (2, [.ref v2, .ref vw2, .int 0, .int 0, .int 0])), (d, .inr (0, [.ref w, .int (-1), .int 0, .int 0]))] sz) := by
  refine va_MetW (hh := [(0, 10, 13, 13), (0, 10, 17, 15), (0, 10, 21, 23)]) (cc := cL_get) (maxL := 5) (ret := (some .int)) (by decide) rfl ?_
  intro p e s m args below meth c s₁ B hml hv
  obtain ⟨rfl, hsz, hP, hKK, hX, hD0⟩ := hv
  have hK := hKK.1
  have hx := B.exec
  have hb := B.bytes
  have hr := B.returns
  have hw : ∀ w ∈ wsA, w.before _ s = true := fun w h => atoms_spec (ws := (Cond.codeWith yL_get cL_get 5 (some .int) [(0, 10, 13, 13), (0, 10, 17, 15), (0, 10, 21, 23)] :: wsA)) B.pre w (List.mem_cons_of_mem _ h)
  have hown : s.vm.findClass "LoggedStoreLaw" = some m.cls := findClass_of_methodNamed B.named
  have hlocks := B.notSynchronized
  have htb : c.exceptionTable.toList = tableOf [(0, 10, 13, 13), (0, 10, 17, 15), (0, 10, 21, 23)] := tx_table B (atoms_spec (ws := (Cond.codeWith yL_get cL_get 5 (some .int) [(0, 10, 13, 13), (0, 10, 17, 15), (0, 10, 21, 23)] :: wsA)) B.pre _ List.mem_cons_self)
  subst hsz
  have hD := hD0.self (sz := s.heap.size)
  generalize hAe : va_A [(x, .inr (3, [.ref d, .ref tb, .ref wa, .ref ts, .int 0, .int 1, .int 0, .int 22])), (ts, .inl (cT, 3, .inr (.inr (.inr (.inr (tF t0 t1 t2)))))), (t0, .inr (2, [.ref v0, .ref vw0, .int 0, .int 0, .int 0])), (t1, .inr (2, [.ref v1, .ref vw1, .int 0, .int 0, .int 0])), (t2, .inr (2, [.ref v2, .ref vw2, .int 0, .int 0, .int 0])), (d, .inr (0, [.ref w, .int (-1), .int 0, .int 0]))] s.heap.size = A at hD ⊢
  have hA : ∀ q : Nat, s.heap.size ≤ q → A q := fun q h => by rw [← hAe]; exact Or.inr h
  have hS : va_S A s.heap s.heap [] := va_S.rf
  have hl := lv_entry ([.ref x, .int t9, .int k9, .ref o9]) (n := 5) (Nat.le_of_ble_eq_true rfl)
  rw [lg_entry_eq]
  generalize (lg_sl ([.ref x, .int t9, .int k9, .ref o9]) ++ List.replicate (5 - (lg_sl ([.ref x, .int t9, .int k9, .ref o9])).length) Slot.unset).toArray = ls at hl ⊢
  have hl : lv_has ls 5 [(0, .ref x), (1, .int t9), (2, .int k9), (3, .ref o9)] := hl
  refine lv_aload_n hx hb dL_get_0 rfl (lv_at hl 3 rfl) ?_
  refine lv_iconst (v := 0) hx hb dL_get_1 (by decide) ?_
  refine lv_aload_n hx hb dL_get_2 rfl (lv_at hl 0 rfl) ?_
  refine lv_iload_n hx hb dL_get_3 rfl (lv_at hl 1 rfl) ?_
  refine lv_iload_n hx hb dL_get_4 rfl (lv_at hl 2 rfl) ?_
  have hPc := hP.sub (ws' := [(x, .inr (3, [.ref d, .ref tb, .ref wa, .ref ts, .int 0, .int 1, .int 0, .int 22])), (ts, .inl (cT, 3, .inr (.inr (.inr (.inr (tF t0 t1 t2)))))), (t0, .inr (2, [.ref v0, .ref vw0, .int 0, .int 0, .int 0])), (t1, .inr (2, [.ref v1, .ref vw1, .int 0, .int 0, .int 0])), (t2, .inr (2, [.ref v2, .ref vw2, .int 0, .int 0, .int 0])), (d, .inr (0, [.ref w, .int (-1), .int 0, .int 0]))]) [0, 1, 2, 3, 4, 5] rfl
  refine tx_caught (tx_runV (C := "LoggedStore") (b := x) (As := [.int t9, .int k9]) (rest := [.int 0, .ref o9]) ⟨hx, hb, hml, hown, hw⟩ (c_get_x l dC dI cI cZ cJ cT hl9 x d w tb wa ts t0 v0 vw0 t1 v1 vw1 t2 v2 vw2 t9 k9) ⟨callB_of 2 hw (gA0 w413) rfl rfl rfl (hw _ w40) (hw _ w410) (by decide +kernel) ⟨Nat.le_of_ble_eq_true rfl, Nat.le_of_ble_eq_true rfl⟩, (hw _ w411), (hw _ w412)⟩ ⟨kb_X, va_recv (ci := 3) (q0 := 0) hK hP rfl rfl, fun U hU hW => ⟨rfl, by rw [hU]; exact hPc, hKK.moved hW, hX.moved hW (by rw [hU]; exact fun _ _ h _ => h)⟩⟩ rfl rfl hl.1 rfl (lv_room (Nat.le_of_ble_eq_true rfl)) dL_get_5 ⟨Nat.le_of_ble_eq_true rfl, Nat.le_of_ble_eq_true rfl⟩) hown [(⟨0, 10, 13, 13⟩, "java/lang/IllegalStateException")] ⟨0, 10, 17, 15⟩ "java/lang/IllegalArgumentException" [⟨0, 10, 21, 23⟩] (htb.trans rfl) (List.forall_mem_cons.mpr ⟨⟨by decide, by decide, (hw _ w282), hKK.2.nc1⟩, fun _ h => absurd h List.not_mem_nil⟩) (by decide) (by decide) (hw _ w283) (va_Nw.use rfl hKK.2.ca1) (fun q1 H hz hk => ?_)
  have hS : va_S A s.heap H [] := ⟨hz, fun z h _ => hk z h, fun _ h => by cases h⟩
  refine W.eq (g2 := F0 m 17 ls [.ref q1]) rfl ?_
  refine lv_astore hx hb dL_get_17 hl (by decide) rfl (fun ls hl => ?_)
  have hl : lv_has ls 5 [(4, .ref q1), (0, .ref x), (1, .int t9), (2, .int k9), (3, .ref o9)] := hl
  refine lv_iconst (v := 2) hx hb dL_get_19 (by decide) ?_
  refine W.widen (k := 1) (n := 6) (by decide) (by decide) ?_
  exact W.iret (v := 2) hx hb hr (fun t ht hW => ⟨⟨2, fun _ => 0, rfl, rfl, trivial⟩, hS.F ht⟩) hS.2.2 dL_get_20

set_option maxHeartbeats 4000000 in
set_option maxRecDepth 100000 in
theorem h_put_x (l : Launch) (dC : Nat → ClassId) (dI : Nat → Nat → Nat) (cI cZ cJ cT : ClassId) (hl9 : l.stackTraces = false) (x d w tb wa ts : Nat) (t0 v0 vw0 t1 v1 vw1 t2 v2 vw2 : Nat) (t9 : Int32) (k9 : Int32) (n9 : Int32) (o9 : Nat) (sz : Nat) : Met l yL_put (Cond.codeWith yL_put cL_put 6 (some .int) [(0, 19, 22, 13), (0, 19, 26, 15)] :: wsA) ({ frames := 10, cells := 1, slots := 6, locals := 169 }) (va_Pc [.ref x, .int t9, .int k9, .int n9, .ref o9] (fun U => U.heap.size = sz ∧ va_P (dC, dI) vwC [(x, .inr (3, [.ref d, .ref tb, .ref wa, .ref ts, .int 0, .int 1, .int 0, .int 22])), (ts, .inl (cT, 3, .inr (.inr (.inr (.inr (tF t0 t1 t2)))))), (t0, .inr (2, [.ref v0, .ref vw0, .int 0, .int 0, .int 0])), (t1, .inr (2, [.ref v1, .ref vw1, .int 0, .int 0, .int 0])), (t2, .inr (2, [.ref v2, .ref vw2, .int 0, .int 0, .int 0])), (d, .inr (0, [.ref w, .int (-1), .int 0, .int 0]))] U.heap ∧ KK dC dI cI cZ cJ cT U ∧ KS U ∧ va_D (fun _ => True) [(x, .inr (3, [.ref d, .ref tb, .ref wa, .ref ts, .int 0, .int 1, .int 0, .int 22])), (ts, .inl (cT, 3, .inr (.inr (.inr (.inr (tF t0 t1 t2)))))), (t0, .inr (2, [.ref v0, .ref vw0, .int 0, .int 0, .int 0])), (t1, .inr (2, [.ref v1, .ref vw1, .int 0, .int 0, .int 0])), (t2, .inr (2, [.ref v2, .ref vw2, .int 0, .int 0, .int 0])), (d, .inr (0, [.ref w, .int (-1), .int 0, .int 0]))])) (va_Qi (S := Nat → Nat) (fun r _ => r = 2) (fun _ _ => True) (va_A [(x, .inr (3, [.ref d, .ref tb, .ref wa, .ref ts, .int 0, .int 1, .int 0, .int 22])), (ts, .inl (cT, 3, .inr (.inr (.inr (.inr (tF t0 t1 t2)))))), (t0, .inr (2, [.ref v0, .ref vw0, .int 0, .int 0, .int 0])), (t1, .inr (2, [.ref v1, .ref vw1, .int 0, .int 0, .int 0])), (t2, .inr (2, [.ref v2, .ref vw2, .int 0, .int 0, .int 0])), (d, .inr (0, [.ref w, .int (-1), .int 0, .int 0]))] sz)) 1 6 (va_A [(x, .inr (3, [.ref d, .ref tb, .ref wa, .ref ts, .int 0, .int 1, .int 0, .int 22])), (ts, .inl (cT, 3, .inr (.inr (.inr (.inr (tF t0 t1 t2)))))), (t0, .inr (2, [.ref v0, .ref vw0, .int 0, .int 0, .int 0])), (t1, .inr (2, [.ref v1, .ref vw1, .int 0, .int 0, .int 0])), (t2, .inr (2, [.ref v2, .ref vw2, .int 0, .int 0, .int 0])), (d, .inr (0, [.ref w, .int (-1), .int 0, .int 0]))] sz) := by
  refine va_MetW (hh := [(0, 19, 22, 13), (0, 19, 26, 15)]) (cc := cL_put) (maxL := 6) (ret := (some .int)) (by decide) rfl ?_
  intro p e s m args below meth c s₁ B hml hv
  obtain ⟨rfl, hsz, hP, hKK, hX, hD0⟩ := hv
  have hK := hKK.1
  have hx := B.exec
  have hb := B.bytes
  have hr := B.returns
  have hw : ∀ w ∈ wsA, w.before _ s = true := fun w h => atoms_spec (ws := (Cond.codeWith yL_put cL_put 6 (some .int) [(0, 19, 22, 13), (0, 19, 26, 15)] :: wsA)) B.pre w (List.mem_cons_of_mem _ h)
  have hown : s.vm.findClass "LoggedStoreLaw" = some m.cls := findClass_of_methodNamed B.named
  have hlocks := B.notSynchronized
  have htb : c.exceptionTable.toList = tableOf [(0, 19, 22, 13), (0, 19, 26, 15)] := tx_table B (atoms_spec (ws := (Cond.codeWith yL_put cL_put 6 (some .int) [(0, 19, 22, 13), (0, 19, 26, 15)] :: wsA)) B.pre _ List.mem_cons_self)
  subst hsz
  have hD := hD0.self (sz := s.heap.size)
  generalize hAe : va_A [(x, .inr (3, [.ref d, .ref tb, .ref wa, .ref ts, .int 0, .int 1, .int 0, .int 22])), (ts, .inl (cT, 3, .inr (.inr (.inr (.inr (tF t0 t1 t2)))))), (t0, .inr (2, [.ref v0, .ref vw0, .int 0, .int 0, .int 0])), (t1, .inr (2, [.ref v1, .ref vw1, .int 0, .int 0, .int 0])), (t2, .inr (2, [.ref v2, .ref vw2, .int 0, .int 0, .int 0])), (d, .inr (0, [.ref w, .int (-1), .int 0, .int 0]))] s.heap.size = A at hD ⊢
  have hA : ∀ q : Nat, s.heap.size ≤ q → A q := fun q h => by rw [← hAe]; exact Or.inr h
  have hS : va_S A s.heap s.heap [] := va_S.rf
  have hl := lv_entry ([.ref x, .int t9, .int k9, .int n9, .ref o9]) (n := 6) (Nat.le_of_ble_eq_true rfl)
  rw [lg_entry_eq]
  generalize (lg_sl ([.ref x, .int t9, .int k9, .int n9, .ref o9]) ++ List.replicate (6 - (lg_sl ([.ref x, .int t9, .int k9, .int n9, .ref o9])).length) Slot.unset).toArray = ls at hl ⊢
  have hl : lv_has ls 6 [(0, .ref x), (1, .int t9), (2, .int k9), (3, .int n9), (4, .ref o9)] := hl
  refine lv_aload hx hb dL_put_0 (lv_at hl 4 rfl) ?_
  refine lv_iconst (v := 0) hx hb dL_put_2 (by decide) ?_
  refine lv_aload_n hx hb dL_put_3 rfl (lv_at hl 0 rfl) ?_
  refine lv_iload_n hx hb dL_put_4 rfl (lv_at hl 1 rfl) ?_
  refine lv_iload_n hx hb dL_put_5 rfl (lv_at hl 2 rfl) ?_
  refine lv_iload_n hx hb dL_put_6 rfl (lv_at hl 3 rfl) ?_
  have hPc := hP.sub (ws' := [(x, .inr (3, [.ref d, .ref tb, .ref wa, .ref ts, .int 0, .int 1, .int 0, .int 22])), (ts, .inl (cT, 3, .inr (.inr (.inr (.inr (tF t0 t1 t2)))))), (t0, .inr (2, [.ref v0, .ref vw0, .int 0, .int 0, .int 0])), (t1, .inr (2, [.ref v1, .ref vw1, .int 0, .int 0, .int 0])), (t2, .inr (2, [.ref v2, .ref vw2, .int 0, .int 0, .int 0])), (d, .inr (0, [.ref w, .int (-1), .int 0, .int 0]))]) [0, 1, 2, 3, 4, 5] rfl
  refine tx_caught (tx_runV (C := "LoggedStore") (b := x) (As := [.int t9, .int k9, .int n9]) (rest := [.int 0, .ref o9]) ⟨hx, hb, hml, hown, hw⟩ (c_put_x l dC dI cI cZ cJ cT hl9 x d w tb wa ts t0 v0 vw0 t1 v1 vw1 t2 v2 vw2 t9 k9 n9) ⟨callB_of 3 hw (gA0 w453) rfl rfl rfl (hw _ w40) (hw _ w450) (by decide +kernel) ⟨Nat.le_of_ble_eq_true rfl, Nat.le_of_ble_eq_true rfl⟩, (hw _ w451), (hw _ w452)⟩ ⟨kb_X, va_recv (ci := 3) (q0 := 0) hK hP rfl rfl, fun U hU hW => ⟨rfl, by rw [hU]; exact hPc, hKK.moved hW, hX.moved hW (by rw [hU]; exact fun _ _ h _ => h)⟩⟩ rfl rfl hl.1 rfl (lv_room (Nat.le_of_ble_eq_true rfl)) dL_put_7 ⟨Nat.le_of_ble_eq_true rfl, Nat.le_of_ble_eq_true rfl⟩) hown [(⟨0, 19, 22, 13⟩, "java/lang/IllegalStateException")] ⟨0, 19, 26, 15⟩ "java/lang/IllegalArgumentException" [] (htb.trans rfl) (List.forall_mem_cons.mpr ⟨⟨by decide, by decide, (hw _ w282), hKK.2.nc1⟩, fun _ h => absurd h List.not_mem_nil⟩) (by decide) (by decide) (hw _ w283) (va_Nw.use rfl hKK.2.ca1) (fun q1 H hz hk => ?_)
  have hS : va_S A s.heap H [] := ⟨hz, fun z h _ => hk z h, fun _ h => by cases h⟩
  refine W.eq (g2 := F0 m 26 ls [.ref q1]) rfl ?_
  refine lv_astore hx hb dL_put_26 hl (by decide) rfl (fun ls hl => ?_)
  have hl : lv_has ls 6 [(5, .ref q1), (0, .ref x), (1, .int t9), (2, .int k9), (3, .int n9), (4, .ref o9)] := hl
  refine lv_iconst (v := 2) hx hb dL_put_28 (by decide) ?_
  refine W.widen (k := 1) (n := 6) (by decide) (by decide) ?_
  exact W.iret (v := 2) hx hb hr (fun t ht hW => ⟨⟨2, fun _ => 0, rfl, rfl, trivial⟩, hS.F ht⟩) hS.2.2 dL_put_29

set_option maxHeartbeats 4000000 in
set_option maxRecDepth 100000 in
theorem h_remove_x (l : Launch) (dC : Nat → ClassId) (dI : Nat → Nat → Nat) (cI cZ cJ cT : ClassId) (hl9 : l.stackTraces = false) (x d w tb wa ts : Nat) (t0 v0 vw0 t1 v1 vw1 t2 v2 vw2 : Nat) (t9 : Int32) (k9 : Int32) (sz : Nat) : Met l yL_remove (Cond.codeWith yL_remove cL_remove 4 (some .int) [(0, 6, 9, 13), (0, 6, 12, 15), (0, 6, 15, 23)] :: wsA) ({ frames := 10, cells := 1, slots := 6, locals := 167 }) (va_Pc [.ref x, .int t9, .int k9] (fun U => U.heap.size = sz ∧ va_P (dC, dI) vwC [(x, .inr (3, [.ref d, .ref tb, .ref wa, .ref ts, .int 0, .int 1, .int 0, .int 22])), (ts, .inl (cT, 3, .inr (.inr (.inr (.inr (tF t0 t1 t2)))))), (t0, .inr (2, [.ref v0, .ref vw0, .int 0, .int 0, .int 0])), (t1, .inr (2, [.ref v1, .ref vw1, .int 0, .int 0, .int 0])), (t2, .inr (2, [.ref v2, .ref vw2, .int 0, .int 0, .int 0])), (d, .inr (0, [.ref w, .int (-1), .int 0, .int 0]))] U.heap ∧ KK dC dI cI cZ cJ cT U ∧ KS U ∧ va_D (fun _ => True) [(x, .inr (3, [.ref d, .ref tb, .ref wa, .ref ts, .int 0, .int 1, .int 0, .int 22])), (ts, .inl (cT, 3, .inr (.inr (.inr (.inr (tF t0 t1 t2)))))), (t0, .inr (2, [.ref v0, .ref vw0, .int 0, .int 0, .int 0])), (t1, .inr (2, [.ref v1, .ref vw1, .int 0, .int 0, .int 0])), (t2, .inr (2, [.ref v2, .ref vw2, .int 0, .int 0, .int 0])), (d, .inr (0, [.ref w, .int (-1), .int 0, .int 0]))])) (va_Qi (S := Nat → Nat) (fun r _ => r = 2) (fun _ _ => True) (va_A [(x, .inr (3, [.ref d, .ref tb, .ref wa, .ref ts, .int 0, .int 1, .int 0, .int 22])), (ts, .inl (cT, 3, .inr (.inr (.inr (.inr (tF t0 t1 t2)))))), (t0, .inr (2, [.ref v0, .ref vw0, .int 0, .int 0, .int 0])), (t1, .inr (2, [.ref v1, .ref vw1, .int 0, .int 0, .int 0])), (t2, .inr (2, [.ref v2, .ref vw2, .int 0, .int 0, .int 0])), (d, .inr (0, [.ref w, .int (-1), .int 0, .int 0]))] sz)) 1 6 (va_A [(x, .inr (3, [.ref d, .ref tb, .ref wa, .ref ts, .int 0, .int 1, .int 0, .int 22])), (ts, .inl (cT, 3, .inr (.inr (.inr (.inr (tF t0 t1 t2)))))), (t0, .inr (2, [.ref v0, .ref vw0, .int 0, .int 0, .int 0])), (t1, .inr (2, [.ref v1, .ref vw1, .int 0, .int 0, .int 0])), (t2, .inr (2, [.ref v2, .ref vw2, .int 0, .int 0, .int 0])), (d, .inr (0, [.ref w, .int (-1), .int 0, .int 0]))] sz) := by
  refine va_MetW (hh := [(0, 6, 9, 13), (0, 6, 12, 15), (0, 6, 15, 23)]) (cc := cL_remove) (maxL := 4) (ret := (some .int)) (by decide) rfl ?_
  intro p e s m args below meth c s₁ B hml hv
  obtain ⟨rfl, hsz, hP, hKK, hX, hD0⟩ := hv
  have hK := hKK.1
  have hx := B.exec
  have hb := B.bytes
  have hr := B.returns
  have hw : ∀ w ∈ wsA, w.before _ s = true := fun w h => atoms_spec (ws := (Cond.codeWith yL_remove cL_remove 4 (some .int) [(0, 6, 9, 13), (0, 6, 12, 15), (0, 6, 15, 23)] :: wsA)) B.pre w (List.mem_cons_of_mem _ h)
  have hown : s.vm.findClass "LoggedStoreLaw" = some m.cls := findClass_of_methodNamed B.named
  have hlocks := B.notSynchronized
  have htb : c.exceptionTable.toList = tableOf [(0, 6, 9, 13), (0, 6, 12, 15), (0, 6, 15, 23)] := tx_table B (atoms_spec (ws := (Cond.codeWith yL_remove cL_remove 4 (some .int) [(0, 6, 9, 13), (0, 6, 12, 15), (0, 6, 15, 23)] :: wsA)) B.pre _ List.mem_cons_self)
  subst hsz
  have hD := hD0.self (sz := s.heap.size)
  generalize hAe : va_A [(x, .inr (3, [.ref d, .ref tb, .ref wa, .ref ts, .int 0, .int 1, .int 0, .int 22])), (ts, .inl (cT, 3, .inr (.inr (.inr (.inr (tF t0 t1 t2)))))), (t0, .inr (2, [.ref v0, .ref vw0, .int 0, .int 0, .int 0])), (t1, .inr (2, [.ref v1, .ref vw1, .int 0, .int 0, .int 0])), (t2, .inr (2, [.ref v2, .ref vw2, .int 0, .int 0, .int 0])), (d, .inr (0, [.ref w, .int (-1), .int 0, .int 0]))] s.heap.size = A at hD ⊢
  have hA : ∀ q : Nat, s.heap.size ≤ q → A q := fun q h => by rw [← hAe]; exact Or.inr h
  have hS : va_S A s.heap s.heap [] := va_S.rf
  have hl := lv_entry ([.ref x, .int t9, .int k9]) (n := 4) (Nat.le_of_ble_eq_true rfl)
  rw [lg_entry_eq]
  generalize (lg_sl ([.ref x, .int t9, .int k9]) ++ List.replicate (4 - (lg_sl ([.ref x, .int t9, .int k9])).length) Slot.unset).toArray = ls at hl ⊢
  have hl : lv_has ls 4 [(0, .ref x), (1, .int t9), (2, .int k9)] := hl
  refine lv_aload_n hx hb dL_remove_0 rfl (lv_at hl 0 rfl) ?_
  refine lv_iload_n hx hb dL_remove_1 rfl (lv_at hl 1 rfl) ?_
  refine lv_iload_n hx hb dL_remove_2 rfl (lv_at hl 2 rfl) ?_
  have hPc := hP.sub (ws' := [(x, .inr (3, [.ref d, .ref tb, .ref wa, .ref ts, .int 0, .int 1, .int 0, .int 22])), (ts, .inl (cT, 3, .inr (.inr (.inr (.inr (tF t0 t1 t2)))))), (t0, .inr (2, [.ref v0, .ref vw0, .int 0, .int 0, .int 0])), (t1, .inr (2, [.ref v1, .ref vw1, .int 0, .int 0, .int 0])), (t2, .inr (2, [.ref v2, .ref vw2, .int 0, .int 0, .int 0])), (d, .inr (0, [.ref w, .int (-1), .int 0, .int 0]))]) [0, 1, 2, 3, 4, 5] rfl
  refine tx_caught (tx_runV (C := "LoggedStore") (b := x) (As := [.int t9, .int k9]) (rest := []) ⟨hx, hb, hml, hown, hw⟩ (c_remove_x l dC dI cI cZ cJ cT hl9 x d w tb wa ts t0 v0 vw0 t1 v1 vw1 t2 v2 vw2 t9 k9) ⟨callB_of 2 hw (gA0 w469) rfl rfl rfl (hw _ w40) (hw _ w466) (by decide +kernel) ⟨Nat.le_of_ble_eq_true rfl, Nat.le_of_ble_eq_true rfl⟩, (hw _ w467), (hw _ w468)⟩ ⟨kb_X, va_recv (ci := 3) (q0 := 0) hK hP rfl rfl, fun U hU hW => ⟨rfl, by rw [hU]; exact hPc, hKK.moved hW, hX.moved hW (by rw [hU]; exact fun _ _ h _ => h)⟩⟩ rfl rfl hl.1 rfl (lv_room (Nat.le_of_ble_eq_true rfl)) dL_remove_3 ⟨Nat.le_of_ble_eq_true rfl, Nat.le_of_ble_eq_true rfl⟩) hown [(⟨0, 6, 9, 13⟩, "java/lang/IllegalStateException")] ⟨0, 6, 12, 15⟩ "java/lang/IllegalArgumentException" [⟨0, 6, 15, 23⟩] (htb.trans rfl) (List.forall_mem_cons.mpr ⟨⟨by decide, by decide, (hw _ w282), hKK.2.nc1⟩, fun _ h => absurd h List.not_mem_nil⟩) (by decide) (by decide) (hw _ w283) (va_Nw.use rfl hKK.2.ca1) (fun q1 H hz hk => ?_)
  have hS : va_S A s.heap H [] := ⟨hz, fun z h _ => hk z h, fun _ h => by cases h⟩
  refine W.eq (g2 := F0 m 12 ls [.ref q1]) rfl ?_
  refine lv_astore_n hx hb dL_remove_12 rfl hl (by decide) rfl (fun ls hl => ?_)
  have hl : lv_has ls 4 [(3, .ref q1), (0, .ref x), (1, .int t9), (2, .int k9)] := hl
  refine lv_iconst (v := 2) hx hb dL_remove_13 (by decide) ?_
  refine W.widen (k := 1) (n := 6) (by decide) (by decide) ?_
  exact W.iret (v := 2) hx hb hr (fun t ht hW => ⟨⟨2, fun _ => 0, rfl, rfl, trivial⟩, hS.F ht⟩) hS.2.2 dL_remove_14

set_option maxHeartbeats 4000000 in
set_option maxRecDepth 100000 in
theorem h_next_x (l : Launch) (dC : Nat → ClassId) (dI : Nat → Nat → Nat) (cI cZ cJ cT : ClassId) (hl9 : l.stackTraces = false) (x d w tb wa ts : Nat) (t0 v0 vw0 t1 v1 vw1 t2 v2 vw2 : Nat) (t9 : Int32) (k9 : Int32) (o9 : Nat) (sz : Nat) : Met l yL_next (Cond.codeWith yL_next cL_next 5 (some .int) [(0, 10, 13, 13), (0, 10, 17, 15)] :: wsA) ({ frames := 10, cells := 1, slots := 6, locals := 167 }) (va_Pc [.ref x, .int t9, .int k9, .ref o9] (fun U => U.heap.size = sz ∧ va_P (dC, dI) vwC [(x, .inr (3, [.ref d, .ref tb, .ref wa, .ref ts, .int 0, .int 1, .int 0, .int 22])), (ts, .inl (cT, 3, .inr (.inr (.inr (.inr (tF t0 t1 t2)))))), (t0, .inr (2, [.ref v0, .ref vw0, .int 0, .int 0, .int 0])), (t1, .inr (2, [.ref v1, .ref vw1, .int 0, .int 0, .int 0])), (t2, .inr (2, [.ref v2, .ref vw2, .int 0, .int 0, .int 0])), (d, .inr (0, [.ref w, .int (-1), .int 0, .int 0]))] U.heap ∧ KK dC dI cI cZ cJ cT U ∧ KS U ∧ va_D (fun _ => True) [(x, .inr (3, [.ref d, .ref tb, .ref wa, .ref ts, .int 0, .int 1, .int 0, .int 22])), (ts, .inl (cT, 3, .inr (.inr (.inr (.inr (tF t0 t1 t2)))))), (t0, .inr (2, [.ref v0, .ref vw0, .int 0, .int 0, .int 0])), (t1, .inr (2, [.ref v1, .ref vw1, .int 0, .int 0, .int 0])), (t2, .inr (2, [.ref v2, .ref vw2, .int 0, .int 0, .int 0])), (d, .inr (0, [.ref w, .int (-1), .int 0, .int 0]))])) (va_Qi (S := Nat → Nat) (fun r _ => r = 2) (fun _ _ => True) (va_A [(x, .inr (3, [.ref d, .ref tb, .ref wa, .ref ts, .int 0, .int 1, .int 0, .int 22])), (ts, .inl (cT, 3, .inr (.inr (.inr (.inr (tF t0 t1 t2)))))), (t0, .inr (2, [.ref v0, .ref vw0, .int 0, .int 0, .int 0])), (t1, .inr (2, [.ref v1, .ref vw1, .int 0, .int 0, .int 0])), (t2, .inr (2, [.ref v2, .ref vw2, .int 0, .int 0, .int 0])), (d, .inr (0, [.ref w, .int (-1), .int 0, .int 0]))] sz)) 1 6 (va_A [(x, .inr (3, [.ref d, .ref tb, .ref wa, .ref ts, .int 0, .int 1, .int 0, .int 22])), (ts, .inl (cT, 3, .inr (.inr (.inr (.inr (tF t0 t1 t2)))))), (t0, .inr (2, [.ref v0, .ref vw0, .int 0, .int 0, .int 0])), (t1, .inr (2, [.ref v1, .ref vw1, .int 0, .int 0, .int 0])), (t2, .inr (2, [.ref v2, .ref vw2, .int 0, .int 0, .int 0])), (d, .inr (0, [.ref w, .int (-1), .int 0, .int 0]))] sz) := by
  refine va_MetW (hh := [(0, 10, 13, 13), (0, 10, 17, 15)]) (cc := cL_next) (maxL := 5) (ret := (some .int)) (by decide) rfl ?_
  intro p e s m args below meth c s₁ B hml hv
  obtain ⟨rfl, hsz, hP, hKK, hX, hD0⟩ := hv
  have hK := hKK.1
  have hx := B.exec
  have hb := B.bytes
  have hr := B.returns
  have hw : ∀ w ∈ wsA, w.before _ s = true := fun w h => atoms_spec (ws := (Cond.codeWith yL_next cL_next 5 (some .int) [(0, 10, 13, 13), (0, 10, 17, 15)] :: wsA)) B.pre w (List.mem_cons_of_mem _ h)
  have hown : s.vm.findClass "LoggedStoreLaw" = some m.cls := findClass_of_methodNamed B.named
  have hlocks := B.notSynchronized
  have htb : c.exceptionTable.toList = tableOf [(0, 10, 13, 13), (0, 10, 17, 15)] := tx_table B (atoms_spec (ws := (Cond.codeWith yL_next cL_next 5 (some .int) [(0, 10, 13, 13), (0, 10, 17, 15)] :: wsA)) B.pre _ List.mem_cons_self)
  subst hsz
  have hD := hD0.self (sz := s.heap.size)
  generalize hAe : va_A [(x, .inr (3, [.ref d, .ref tb, .ref wa, .ref ts, .int 0, .int 1, .int 0, .int 22])), (ts, .inl (cT, 3, .inr (.inr (.inr (.inr (tF t0 t1 t2)))))), (t0, .inr (2, [.ref v0, .ref vw0, .int 0, .int 0, .int 0])), (t1, .inr (2, [.ref v1, .ref vw1, .int 0, .int 0, .int 0])), (t2, .inr (2, [.ref v2, .ref vw2, .int 0, .int 0, .int 0])), (d, .inr (0, [.ref w, .int (-1), .int 0, .int 0]))] s.heap.size = A at hD ⊢
  have hA : ∀ q : Nat, s.heap.size ≤ q → A q := fun q h => by rw [← hAe]; exact Or.inr h
  have hS : va_S A s.heap s.heap [] := va_S.rf
  have hl := lv_entry ([.ref x, .int t9, .int k9, .ref o9]) (n := 5) (Nat.le_of_ble_eq_true rfl)
  rw [lg_entry_eq]
  generalize (lg_sl ([.ref x, .int t9, .int k9, .ref o9]) ++ List.replicate (5 - (lg_sl ([.ref x, .int t9, .int k9, .ref o9])).length) Slot.unset).toArray = ls at hl ⊢
  have hl : lv_has ls 5 [(0, .ref x), (1, .int t9), (2, .int k9), (3, .ref o9)] := hl
  refine lv_aload_n hx hb dL_next_0 rfl (lv_at hl 3 rfl) ?_
  refine lv_iconst (v := 0) hx hb dL_next_1 (by decide) ?_
  refine lv_aload_n hx hb dL_next_2 rfl (lv_at hl 0 rfl) ?_
  refine lv_iload_n hx hb dL_next_3 rfl (lv_at hl 1 rfl) ?_
  refine lv_iload_n hx hb dL_next_4 rfl (lv_at hl 2 rfl) ?_
  have hPc := hP.sub (ws' := [(x, .inr (3, [.ref d, .ref tb, .ref wa, .ref ts, .int 0, .int 1, .int 0, .int 22])), (ts, .inl (cT, 3, .inr (.inr (.inr (.inr (tF t0 t1 t2)))))), (t0, .inr (2, [.ref v0, .ref vw0, .int 0, .int 0, .int 0])), (t1, .inr (2, [.ref v1, .ref vw1, .int 0, .int 0, .int 0])), (t2, .inr (2, [.ref v2, .ref vw2, .int 0, .int 0, .int 0])), (d, .inr (0, [.ref w, .int (-1), .int 0, .int 0]))]) [0, 1, 2, 3, 4, 5] rfl
  refine tx_caught (tx_runV (C := "LoggedStore") (b := x) (As := [.int t9, .int k9]) (rest := [.int 0, .ref o9]) ⟨hx, hb, hml, hown, hw⟩ (c_next_x l dC dI cI cZ cJ cT hl9 x d w tb wa ts t0 v0 vw0 t1 v1 vw1 t2 v2 vw2 t9 k9) ⟨callB_of 2 hw (gA0 w481) rfl rfl rfl (hw _ w40) (hw _ w478) (by decide +kernel) ⟨Nat.le_of_ble_eq_true rfl, Nat.le_of_ble_eq_true rfl⟩, (hw _ w479), (hw _ w480)⟩ ⟨kb_X, va_recv (ci := 3) (q0 := 0) hK hP rfl rfl, fun U hU hW => ⟨rfl, by rw [hU]; exact hPc, hKK.moved hW, hX.moved hW (by rw [hU]; exact fun _ _ h _ => h)⟩⟩ rfl rfl hl.1 rfl (lv_room (Nat.le_of_ble_eq_true rfl)) dL_next_5 ⟨Nat.le_of_ble_eq_true rfl, Nat.le_of_ble_eq_true rfl⟩) hown [(⟨0, 10, 13, 13⟩, "java/lang/IllegalStateException")] ⟨0, 10, 17, 15⟩ "java/lang/IllegalArgumentException" [] (htb.trans rfl) (List.forall_mem_cons.mpr ⟨⟨by decide, by decide, (hw _ w282), hKK.2.nc1⟩, fun _ h => absurd h List.not_mem_nil⟩) (by decide) (by decide) (hw _ w283) (va_Nw.use rfl hKK.2.ca1) (fun q1 H hz hk => ?_)
  have hS : va_S A s.heap H [] := ⟨hz, fun z h _ => hk z h, fun _ h => by cases h⟩
  refine W.eq (g2 := F0 m 17 ls [.ref q1]) rfl ?_
  refine lv_astore hx hb dL_next_17 hl (by decide) rfl (fun ls hl => ?_)
  have hl : lv_has ls 5 [(4, .ref q1), (0, .ref x), (1, .int t9), (2, .int k9), (3, .ref o9)] := hl
  refine lv_iconst (v := 2) hx hb dL_next_19 (by decide) ?_
  refine W.widen (k := 1) (n := 6) (by decide) (by decide) ?_
  exact W.iret (v := 2) hx hb hr (fun t ht hW => ⟨⟨2, fun _ => 0, rfl, rfl, trivial⟩, hS.F ht⟩) hS.2.2 dL_next_20

set_option maxHeartbeats 4000000 in
set_option maxRecDepth 100000 in
theorem h_drop_x (l : Launch) (dC : Nat → ClassId) (dI : Nat → Nat → Nat) (cI cZ cJ cT : ClassId) (hl9 : l.stackTraces = false) (x d w tb wa ts : Nat) (t0 v0 vw0 t1 v1 vw1 t2 v2 vw2 : Nat) (t9 : Int32) (o9 : Nat) (sz : Nat) : Met l yL_drop (Cond.codeWith yL_drop cL_drop 4 (some .int) [(0, 9, 12, 13), (0, 9, 15, 15)] :: wsA) ({ frames := 9, cells := 1, slots := 6, locals := 145 }) (va_Pc [.ref x, .int t9, .ref o9] (fun U => U.heap.size = sz ∧ va_P (dC, dI) vwC [(x, .inr (3, [.ref d, .ref tb, .ref wa, .ref ts, .int 0, .int 1, .int 0, .int 22])), (ts, .inl (cT, 3, .inr (.inr (.inr (.inr (tF t0 t1 t2)))))), (t0, .inr (2, [.ref v0, .ref vw0, .int 0, .int 0, .int 0])), (t1, .inr (2, [.ref v1, .ref vw1, .int 0, .int 0, .int 0])), (t2, .inr (2, [.ref v2, .ref vw2, .int 0, .int 0, .int 0])), (d, .inr (0, [.ref w, .int (-1), .int 0, .int 0]))] U.heap ∧ KK dC dI cI cZ cJ cT U ∧ KS U ∧ va_D (fun _ => True) [(x, .inr (3, [.ref d, .ref tb, .ref wa, .ref ts, .int 0, .int 1, .int 0, .int 22])), (ts, .inl (cT, 3, .inr (.inr (.inr (.inr (tF t0 t1 t2)))))), (t0, .inr (2, [.ref v0, .ref vw0, .int 0, .int 0, .int 0])), (t1, .inr (2, [.ref v1, .ref vw1, .int 0, .int 0, .int 0])), (t2, .inr (2, [.ref v2, .ref vw2, .int 0, .int 0, .int 0])), (d, .inr (0, [.ref w, .int (-1), .int 0, .int 0]))])) (va_Qi (S := Nat → Nat) (fun r _ => r = 2) (fun _ _ => True) (va_A [(x, .inr (3, [.ref d, .ref tb, .ref wa, .ref ts, .int 0, .int 1, .int 0, .int 22])), (ts, .inl (cT, 3, .inr (.inr (.inr (.inr (tF t0 t1 t2)))))), (t0, .inr (2, [.ref v0, .ref vw0, .int 0, .int 0, .int 0])), (t1, .inr (2, [.ref v1, .ref vw1, .int 0, .int 0, .int 0])), (t2, .inr (2, [.ref v2, .ref vw2, .int 0, .int 0, .int 0])), (d, .inr (0, [.ref w, .int (-1), .int 0, .int 0]))] sz)) 1 6 (va_A [(x, .inr (3, [.ref d, .ref tb, .ref wa, .ref ts, .int 0, .int 1, .int 0, .int 22])), (ts, .inl (cT, 3, .inr (.inr (.inr (.inr (tF t0 t1 t2)))))), (t0, .inr (2, [.ref v0, .ref vw0, .int 0, .int 0, .int 0])), (t1, .inr (2, [.ref v1, .ref vw1, .int 0, .int 0, .int 0])), (t2, .inr (2, [.ref v2, .ref vw2, .int 0, .int 0, .int 0])), (d, .inr (0, [.ref w, .int (-1), .int 0, .int 0]))] sz) := by
  refine va_MetW (hh := [(0, 9, 12, 13), (0, 9, 15, 15)]) (cc := cL_drop) (maxL := 4) (ret := (some .int)) (by decide) rfl ?_
  intro p e s m args below meth c s₁ B hml hv
  obtain ⟨rfl, hsz, hP, hKK, hX, hD0⟩ := hv
  have hK := hKK.1
  have hx := B.exec
  have hb := B.bytes
  have hr := B.returns
  have hw : ∀ w ∈ wsA, w.before _ s = true := fun w h => atoms_spec (ws := (Cond.codeWith yL_drop cL_drop 4 (some .int) [(0, 9, 12, 13), (0, 9, 15, 15)] :: wsA)) B.pre w (List.mem_cons_of_mem _ h)
  have hown : s.vm.findClass "LoggedStoreLaw" = some m.cls := findClass_of_methodNamed B.named
  have hlocks := B.notSynchronized
  have htb : c.exceptionTable.toList = tableOf [(0, 9, 12, 13), (0, 9, 15, 15)] := tx_table B (atoms_spec (ws := (Cond.codeWith yL_drop cL_drop 4 (some .int) [(0, 9, 12, 13), (0, 9, 15, 15)] :: wsA)) B.pre _ List.mem_cons_self)
  subst hsz
  have hD := hD0.self (sz := s.heap.size)
  generalize hAe : va_A [(x, .inr (3, [.ref d, .ref tb, .ref wa, .ref ts, .int 0, .int 1, .int 0, .int 22])), (ts, .inl (cT, 3, .inr (.inr (.inr (.inr (tF t0 t1 t2)))))), (t0, .inr (2, [.ref v0, .ref vw0, .int 0, .int 0, .int 0])), (t1, .inr (2, [.ref v1, .ref vw1, .int 0, .int 0, .int 0])), (t2, .inr (2, [.ref v2, .ref vw2, .int 0, .int 0, .int 0])), (d, .inr (0, [.ref w, .int (-1), .int 0, .int 0]))] s.heap.size = A at hD ⊢
  have hA : ∀ q : Nat, s.heap.size ≤ q → A q := fun q h => by rw [← hAe]; exact Or.inr h
  have hS : va_S A s.heap s.heap [] := va_S.rf
  have hl := lv_entry ([.ref x, .int t9, .ref o9]) (n := 4) (Nat.le_of_ble_eq_true rfl)
  rw [lg_entry_eq]
  generalize (lg_sl ([.ref x, .int t9, .ref o9]) ++ List.replicate (4 - (lg_sl ([.ref x, .int t9, .ref o9])).length) Slot.unset).toArray = ls at hl ⊢
  have hl : lv_has ls 4 [(0, .ref x), (1, .int t9), (2, .ref o9)] := hl
  refine lv_aload_n hx hb dL_drop_0 rfl (lv_at hl 2 rfl) ?_
  refine lv_iconst (v := 0) hx hb dL_drop_1 (by decide) ?_
  refine lv_aload_n hx hb dL_drop_2 rfl (lv_at hl 0 rfl) ?_
  refine lv_iload_n hx hb dL_drop_3 rfl (lv_at hl 1 rfl) ?_
  have hPc := hP.sub (ws' := [(x, .inr (3, [.ref d, .ref tb, .ref wa, .ref ts, .int 0, .int 1, .int 0, .int 22])), (ts, .inl (cT, 3, .inr (.inr (.inr (.inr (tF t0 t1 t2)))))), (t0, .inr (2, [.ref v0, .ref vw0, .int 0, .int 0, .int 0])), (t1, .inr (2, [.ref v1, .ref vw1, .int 0, .int 0, .int 0])), (t2, .inr (2, [.ref v2, .ref vw2, .int 0, .int 0, .int 0])), (d, .inr (0, [.ref w, .int (-1), .int 0, .int 0]))]) [0, 1, 2, 3, 4, 5] rfl
  refine tx_caught (tx_runV (C := "LoggedStore") (b := x) (As := [.int t9]) (rest := [.int 0, .ref o9]) ⟨hx, hb, hml, hown, hw⟩ (c_drop_x l dC dI cI cZ cJ cT hl9 x d w tb wa ts t0 v0 vw0 t1 v1 vw1 t2 v2 vw2 t9) ⟨callB_of 1 hw (gA0 w492) rfl rfl rfl (hw _ w40) (hw _ w489) (by decide +kernel) ⟨Nat.le_of_ble_eq_true rfl, Nat.le_of_ble_eq_true rfl⟩, (hw _ w490), (hw _ w491)⟩ ⟨kb_X, va_recv (ci := 3) (q0 := 0) hK hP rfl rfl, fun U hU hW => ⟨rfl, by rw [hU]; exact hPc, hKK.moved hW, hX.moved hW (by rw [hU]; exact fun _ _ h _ => h)⟩⟩ rfl rfl hl.1 rfl (lv_room (Nat.le_of_ble_eq_true rfl)) dL_drop_4 ⟨Nat.le_of_ble_eq_true rfl, Nat.le_of_ble_eq_true rfl⟩) hown [(⟨0, 9, 12, 13⟩, "java/lang/IllegalStateException")] ⟨0, 9, 15, 15⟩ "java/lang/IllegalArgumentException" [] (htb.trans rfl) (List.forall_mem_cons.mpr ⟨⟨by decide, by decide, (hw _ w282), hKK.2.nc1⟩, fun _ h => absurd h List.not_mem_nil⟩) (by decide) (by decide) (hw _ w283) (va_Nw.use rfl hKK.2.ca1) (fun q1 H hz hk => ?_)
  have hS : va_S A s.heap H [] := ⟨hz, fun z h _ => hk z h, fun _ h => by cases h⟩
  refine W.eq (g2 := F0 m 15 ls [.ref q1]) rfl ?_
  refine lv_astore_n hx hb dL_drop_15 rfl hl (by decide) rfl (fun ls hl => ?_)
  have hl : lv_has ls 4 [(3, .ref q1), (0, .ref x), (1, .int t9), (2, .ref o9)] := hl
  refine lv_iconst (v := 2) hx hb dL_drop_16 (by decide) ?_
  refine W.widen (k := 1) (n := 6) (by decide) (by decide) ?_
  exact W.iret (v := 2) hx hb hr (fun t ht hW => ⟨⟨2, fun _ => 0, rfl, rfl, trivial⟩, hS.F ht⟩) hS.2.2 dL_drop_17

set_option maxHeartbeats 4000000 in
set_option maxRecDepth 100000 in
theorem h_commit_x (l : Launch) (dC : Nat → ClassId) (dI : Nat → Nat → Nat) (cI cZ cJ cT : ClassId) (hl9 : l.stackTraces = false) (x d w tb wa ts : Nat) (t0 v0 vw0 t1 v1 vw1 t2 v2 vw2 : Nat) (t9 : Int32) (o9 : Nat) (sz : Nat) : Met l yL_commit (Cond.codeWith yL_commit cL_commit 4 (some .int) [(0, 9, 12, 13), (0, 9, 15, 15), (0, 9, 18, 17), (0, 9, 21, 42)] :: wsA) ({ frames := 9, cells := 1, slots := 6, locals := 145 }) (va_Pc [.ref x, .int t9, .ref o9] (fun U => U.heap.size = sz ∧ va_P (dC, dI) vwC [(x, .inr (3, [.ref d, .ref tb, .ref wa, .ref ts, .int 0, .int 1, .int 0, .int 22])), (ts, .inl (cT, 3, .inr (.inr (.inr (.inr (tF t0 t1 t2)))))), (t0, .inr (2, [.ref v0, .ref vw0, .int 0, .int 0, .int 0])), (t1, .inr (2, [.ref v1, .ref vw1, .int 0, .int 0, .int 0])), (t2, .inr (2, [.ref v2, .ref vw2, .int 0, .int 0, .int 0])), (d, .inr (0, [.ref w, .int (-1), .int 0, .int 0]))] U.heap ∧ KK dC dI cI cZ cJ cT U ∧ KS U ∧ va_D (fun _ => True) [(x, .inr (3, [.ref d, .ref tb, .ref wa, .ref ts, .int 0, .int 1, .int 0, .int 22])), (ts, .inl (cT, 3, .inr (.inr (.inr (.inr (tF t0 t1 t2)))))), (t0, .inr (2, [.ref v0, .ref vw0, .int 0, .int 0, .int 0])), (t1, .inr (2, [.ref v1, .ref vw1, .int 0, .int 0, .int 0])), (t2, .inr (2, [.ref v2, .ref vw2, .int 0, .int 0, .int 0])), (d, .inr (0, [.ref w, .int (-1), .int 0, .int 0]))])) (va_Qi (S := Nat → Nat) (fun r _ => r = 2) (fun _ _ => True) (va_A [(x, .inr (3, [.ref d, .ref tb, .ref wa, .ref ts, .int 0, .int 1, .int 0, .int 22])), (ts, .inl (cT, 3, .inr (.inr (.inr (.inr (tF t0 t1 t2)))))), (t0, .inr (2, [.ref v0, .ref vw0, .int 0, .int 0, .int 0])), (t1, .inr (2, [.ref v1, .ref vw1, .int 0, .int 0, .int 0])), (t2, .inr (2, [.ref v2, .ref vw2, .int 0, .int 0, .int 0])), (d, .inr (0, [.ref w, .int (-1), .int 0, .int 0]))] sz)) 1 6 (va_A [(x, .inr (3, [.ref d, .ref tb, .ref wa, .ref ts, .int 0, .int 1, .int 0, .int 22])), (ts, .inl (cT, 3, .inr (.inr (.inr (.inr (tF t0 t1 t2)))))), (t0, .inr (2, [.ref v0, .ref vw0, .int 0, .int 0, .int 0])), (t1, .inr (2, [.ref v1, .ref vw1, .int 0, .int 0, .int 0])), (t2, .inr (2, [.ref v2, .ref vw2, .int 0, .int 0, .int 0])), (d, .inr (0, [.ref w, .int (-1), .int 0, .int 0]))] sz) := by
  refine va_MetW (hh := [(0, 9, 12, 13), (0, 9, 15, 15), (0, 9, 18, 17), (0, 9, 21, 42)]) (cc := cL_commit) (maxL := 4) (ret := (some .int)) (by decide) rfl ?_
  intro p e s m args below meth c s₁ B hml hv
  obtain ⟨rfl, hsz, hP, hKK, hX, hD0⟩ := hv
  have hK := hKK.1
  have hx := B.exec
  have hb := B.bytes
  have hr := B.returns
  have hw : ∀ w ∈ wsA, w.before _ s = true := fun w h => atoms_spec (ws := (Cond.codeWith yL_commit cL_commit 4 (some .int) [(0, 9, 12, 13), (0, 9, 15, 15), (0, 9, 18, 17), (0, 9, 21, 42)] :: wsA)) B.pre w (List.mem_cons_of_mem _ h)
  have hown : s.vm.findClass "LoggedStoreLaw" = some m.cls := findClass_of_methodNamed B.named
  have hlocks := B.notSynchronized
  have htb : c.exceptionTable.toList = tableOf [(0, 9, 12, 13), (0, 9, 15, 15), (0, 9, 18, 17), (0, 9, 21, 42)] := tx_table B (atoms_spec (ws := (Cond.codeWith yL_commit cL_commit 4 (some .int) [(0, 9, 12, 13), (0, 9, 15, 15), (0, 9, 18, 17), (0, 9, 21, 42)] :: wsA)) B.pre _ List.mem_cons_self)
  subst hsz
  have hD := hD0.self (sz := s.heap.size)
  generalize hAe : va_A [(x, .inr (3, [.ref d, .ref tb, .ref wa, .ref ts, .int 0, .int 1, .int 0, .int 22])), (ts, .inl (cT, 3, .inr (.inr (.inr (.inr (tF t0 t1 t2)))))), (t0, .inr (2, [.ref v0, .ref vw0, .int 0, .int 0, .int 0])), (t1, .inr (2, [.ref v1, .ref vw1, .int 0, .int 0, .int 0])), (t2, .inr (2, [.ref v2, .ref vw2, .int 0, .int 0, .int 0])), (d, .inr (0, [.ref w, .int (-1), .int 0, .int 0]))] s.heap.size = A at hD ⊢
  have hA : ∀ q : Nat, s.heap.size ≤ q → A q := fun q h => by rw [← hAe]; exact Or.inr h
  have hS : va_S A s.heap s.heap [] := va_S.rf
  have hl := lv_entry ([.ref x, .int t9, .ref o9]) (n := 4) (Nat.le_of_ble_eq_true rfl)
  rw [lg_entry_eq]
  generalize (lg_sl ([.ref x, .int t9, .ref o9]) ++ List.replicate (4 - (lg_sl ([.ref x, .int t9, .ref o9])).length) Slot.unset).toArray = ls at hl ⊢
  have hl : lv_has ls 4 [(0, .ref x), (1, .int t9), (2, .ref o9)] := hl
  refine lv_aload_n hx hb dL_commit_0 rfl (lv_at hl 2 rfl) ?_
  refine lv_iconst (v := 0) hx hb dL_commit_1 (by decide) ?_
  refine lv_aload_n hx hb dL_commit_2 rfl (lv_at hl 0 rfl) ?_
  refine lv_iload_n hx hb dL_commit_3 rfl (lv_at hl 1 rfl) ?_
  have hPc := hP.sub (ws' := [(x, .inr (3, [.ref d, .ref tb, .ref wa, .ref ts, .int 0, .int 1, .int 0, .int 22])), (ts, .inl (cT, 3, .inr (.inr (.inr (.inr (tF t0 t1 t2)))))), (t0, .inr (2, [.ref v0, .ref vw0, .int 0, .int 0, .int 0])), (t1, .inr (2, [.ref v1, .ref vw1, .int 0, .int 0, .int 0])), (t2, .inr (2, [.ref v2, .ref vw2, .int 0, .int 0, .int 0])), (d, .inr (0, [.ref w, .int (-1), .int 0, .int 0]))]) [0, 1, 2, 3, 4, 5] rfl
  refine tx_caught (tx_runV (C := "LoggedStore") (b := x) (As := [.int t9]) (rest := [.int 0, .ref o9]) ⟨hx, hb, hml, hown, hw⟩ (c_commit_x l dC dI cI cZ cJ cT hl9 x d w tb wa ts t0 v0 vw0 t1 v1 vw1 t2 v2 vw2 t9) ⟨callB_of 1 hw (gA0 w500) rfl rfl rfl (hw _ w40) (hw _ w497) (by decide +kernel) ⟨Nat.le_of_ble_eq_true rfl, Nat.le_of_ble_eq_true rfl⟩, (hw _ w498), (hw _ w499)⟩ ⟨kb_X, va_recv (ci := 3) (q0 := 0) hK hP rfl rfl, fun U hU hW => ⟨rfl, by rw [hU]; exact hPc, hKK.moved hW, hX.moved hW (by rw [hU]; exact fun _ _ h _ => h)⟩⟩ rfl rfl hl.1 rfl (lv_room (Nat.le_of_ble_eq_true rfl)) dL_commit_4 ⟨Nat.le_of_ble_eq_true rfl, Nat.le_of_ble_eq_true rfl⟩) hown [(⟨0, 9, 12, 13⟩, "java/lang/IllegalStateException")] ⟨0, 9, 15, 15⟩ "java/lang/IllegalArgumentException" [⟨0, 9, 18, 17⟩, ⟨0, 9, 21, 42⟩] (htb.trans rfl) (List.forall_mem_cons.mpr ⟨⟨by decide, by decide, (hw _ w282), hKK.2.nc1⟩, fun _ h => absurd h List.not_mem_nil⟩) (by decide) (by decide) (hw _ w283) (va_Nw.use rfl hKK.2.ca1) (fun q1 H hz hk => ?_)
  have hS : va_S A s.heap H [] := ⟨hz, fun z h _ => hk z h, fun _ h => by cases h⟩
  refine W.eq (g2 := F0 m 15 ls [.ref q1]) rfl ?_
  refine lv_astore_n hx hb dL_commit_15 rfl hl (by decide) rfl (fun ls hl => ?_)
  have hl : lv_has ls 4 [(3, .ref q1), (0, .ref x), (1, .int t9), (2, .ref o9)] := hl
  refine lv_iconst (v := 2) hx hb dL_commit_16 (by decide) ?_
  refine W.widen (k := 1) (n := 6) (by decide) (by decide) ?_
  exact W.iret (v := 2) hx hb hr (fun t ht hW => ⟨⟨2, fun _ => 0, rfl, rfl, trivial⟩, hS.F ht⟩) hS.2.2 dL_commit_17

set_option maxHeartbeats 4000000 in
set_option maxRecDepth 100000 in
theorem h_number_x (l : Launch) (dC : Nat → ClassId) (dI : Nat → Nat → Nat) (cI cZ cJ cT : ClassId) (hl9 : l.stackTraces = false) (x d w tb wa ts : Nat) (k9 : Int32) (o9 : Nat) (sz : Nat) (hb9 : k9 < 0 ∨ (¬ k9 < 0 ∧ ¬ k9 < 64)) : Met l yL_number (Cond.codeWith yL_number cL_number 4 (some .int) [(0, 9, 12, 13), (0, 9, 15, 15), (0, 9, 18, 23)] :: wsA) ({ frames := 8, cells := 1, slots := 6, locals := 123 }) (va_Pc [.ref x, .int k9, .ref o9] (fun U => U.heap.size = sz ∧ va_P (dC, dI) vwC [(x, .inr (3, [.ref d, .ref tb, .ref wa, .ref ts, .int 0, .int 1, .int 0, .int 22])), (d, .inr (0, [.ref w, .int (-1), .int 0, .int 0]))] U.heap ∧ KK dC dI cI cZ cJ cT U ∧ KS U ∧ va_D (fun _ => True) [(x, .inr (3, [.ref d, .ref tb, .ref wa, .ref ts, .int 0, .int 1, .int 0, .int 22])), (d, .inr (0, [.ref w, .int (-1), .int 0, .int 0]))])) (va_Qi (S := Nat → Nat) (fun r _ => r = 2) (fun _ _ => True) (va_A [(x, .inr (3, [.ref d, .ref tb, .ref wa, .ref ts, .int 0, .int 1, .int 0, .int 22])), (d, .inr (0, [.ref w, .int (-1), .int 0, .int 0]))] sz)) 1 6 (va_A [(x, .inr (3, [.ref d, .ref tb, .ref wa, .ref ts, .int 0, .int 1, .int 0, .int 22])), (d, .inr (0, [.ref w, .int (-1), .int 0, .int 0]))] sz) := by
  refine va_MetW (hh := [(0, 9, 12, 13), (0, 9, 15, 15), (0, 9, 18, 23)]) (cc := cL_number) (maxL := 4) (ret := (some .int)) (by decide) rfl ?_
  intro p e s m args below meth c s₁ B hml hv
  obtain ⟨rfl, hsz, hP, hKK, hX, hD0⟩ := hv
  have hK := hKK.1
  have hx := B.exec
  have hb := B.bytes
  have hr := B.returns
  have hw : ∀ w ∈ wsA, w.before _ s = true := fun w h => atoms_spec (ws := (Cond.codeWith yL_number cL_number 4 (some .int) [(0, 9, 12, 13), (0, 9, 15, 15), (0, 9, 18, 23)] :: wsA)) B.pre w (List.mem_cons_of_mem _ h)
  have hown : s.vm.findClass "LoggedStoreLaw" = some m.cls := findClass_of_methodNamed B.named
  have hlocks := B.notSynchronized
  have htb : c.exceptionTable.toList = tableOf [(0, 9, 12, 13), (0, 9, 15, 15), (0, 9, 18, 23)] := tx_table B (atoms_spec (ws := (Cond.codeWith yL_number cL_number 4 (some .int) [(0, 9, 12, 13), (0, 9, 15, 15), (0, 9, 18, 23)] :: wsA)) B.pre _ List.mem_cons_self)
  subst hsz
  have hD := hD0.self (sz := s.heap.size)
  generalize hAe : va_A [(x, .inr (3, [.ref d, .ref tb, .ref wa, .ref ts, .int 0, .int 1, .int 0, .int 22])), (d, .inr (0, [.ref w, .int (-1), .int 0, .int 0]))] s.heap.size = A at hD ⊢
  have hA : ∀ q : Nat, s.heap.size ≤ q → A q := fun q h => by rw [← hAe]; exact Or.inr h
  have hS : va_S A s.heap s.heap [] := va_S.rf
  have hl := lv_entry ([.ref x, .int k9, .ref o9]) (n := 4) (Nat.le_of_ble_eq_true rfl)
  rw [lg_entry_eq]
  generalize (lg_sl ([.ref x, .int k9, .ref o9]) ++ List.replicate (4 - (lg_sl ([.ref x, .int k9, .ref o9])).length) Slot.unset).toArray = ls at hl ⊢
  have hl : lv_has ls 4 [(0, .ref x), (1, .int k9), (2, .ref o9)] := hl
  refine lv_aload_n hx hb dL_number_0 rfl (lv_at hl 2 rfl) ?_
  refine lv_iconst (v := 0) hx hb dL_number_1 (by decide) ?_
  refine lv_aload_n hx hb dL_number_2 rfl (lv_at hl 0 rfl) ?_
  refine lv_iload_n hx hb dL_number_3 rfl (lv_at hl 1 rfl) ?_
  have hPc := hP.sub (ws' := [(x, .inr (3, [.ref d, .ref tb, .ref wa, .ref ts, .int 0, .int 1, .int 0, .int 22])), (d, .inr (0, [.ref w, .int (-1), .int 0, .int 0]))]) [0, 1] rfl
  refine tx_caught (tx_runV (C := "LoggedStore") (b := x) (As := [.int k9]) (rest := [.int 0, .ref o9]) ⟨hx, hb, hml, hown, hw⟩ (c_number_x l dC dI cI cZ cJ cT hl9 x d w tb wa ts k9 hb9) ⟨callB_of 1 hw (gA0 w578) rfl rfl rfl (hw _ w40) (hw _ w575) (by decide +kernel) ⟨Nat.le_of_ble_eq_true rfl, Nat.le_of_ble_eq_true rfl⟩, (hw _ w576), (hw _ w577)⟩ ⟨kb_X, va_recv (ci := 3) (q0 := 0) hK hP rfl rfl, fun U hU hW => ⟨rfl, by rw [hU]; exact hPc, hKK.moved hW, hX.moved hW (by rw [hU]; exact fun _ _ h _ => h)⟩⟩ rfl rfl hl.1 rfl (lv_room (Nat.le_of_ble_eq_true rfl)) dL_number_4 ⟨Nat.le_of_ble_eq_true rfl, Nat.le_of_ble_eq_true rfl⟩) hown [(⟨0, 9, 12, 13⟩, "java/lang/IllegalStateException")] ⟨0, 9, 15, 15⟩ "java/lang/IllegalArgumentException" [⟨0, 9, 18, 23⟩] (htb.trans rfl) (List.forall_mem_cons.mpr ⟨⟨by decide, by decide, (hw _ w282), hKK.2.nc1⟩, fun _ h => absurd h List.not_mem_nil⟩) (by decide) (by decide) (hw _ w283) (va_Nw.use rfl hKK.2.ca1) (fun q1 H hz hk => ?_)
  have hS : va_S A s.heap H [] := ⟨hz, fun z h _ => hk z h, fun _ h => by cases h⟩
  refine W.eq (g2 := F0 m 15 ls [.ref q1]) rfl ?_
  refine lv_astore_n hx hb dL_number_15 rfl hl (by decide) rfl (fun ls hl => ?_)
  have hl : lv_has ls 4 [(3, .ref q1), (0, .ref x), (1, .int k9), (2, .ref o9)] := hl
  refine lv_iconst (v := 2) hx hb dL_number_16 (by decide) ?_
  refine W.widen (k := 1) (n := 6) (by decide) (by decide) ?_
  exact W.iret (v := 2) hx hb hr (fun t ht hW => ⟨⟨2, fun _ => 0, rfl, rfl, trivial⟩, hS.F ht⟩) hS.2.2 dL_number_17

set_option maxHeartbeats 4000000 in
set_option maxRecDepth 100000 in
theorem h_number_y (l : Launch) (dC : Nat → ClassId) (dI : Nat → Nat → Nat) (cI cZ cJ cT : ClassId) (hl9 : l.stackTraces = false) (x d w tb wa ts : Nat) (hs ns j : Nat) (o9 : Nat) (sz : Nat) (hj : j < 64) : Met l yL_number (Cond.codeWith yL_number cL_number 4 (some .int) [(0, 9, 12, 13), (0, 9, 15, 15), (0, 9, 18, 23)] :: wsA) ({ frames := 8, cells := 1, slots := 6, locals := 124 }) (va_Pc [.ref x, .int (nI j), .ref o9] (fun U => U.heap.size = sz ∧ va_P (dC, dI) vwC [(x, .inr (3, [.ref d, .ref tb, .ref wa, .ref ts, .int 0, .int 1, .int 0, .int 22])), (d, .inr (0, [.ref w, .int (-1), .int 0, .int 0])), (tb, .inr (1, [.ref hs, .ref ns, .int 0])), (hs, .inl (cZ, 64, .inl (fun _ => 0)))] U.heap ∧ KK dC dI cI cZ cJ cT U ∧ KS2 U ∧ va_D (fun _ => True) [(x, .inr (3, [.ref d, .ref tb, .ref wa, .ref ts, .int 0, .int 1, .int 0, .int 22])), (d, .inr (0, [.ref w, .int (-1), .int 0, .int 0])), (tb, .inr (1, [.ref hs, .ref ns, .int 0])), (hs, .inl (cZ, 64, .inl (fun _ => 0)))])) (va_Qi (S := Nat → Nat) (fun r _ => r = 3) (fun _ _ => True) (va_A [(x, .inr (3, [.ref d, .ref tb, .ref wa, .ref ts, .int 0, .int 1, .int 0, .int 22])), (d, .inr (0, [.ref w, .int (-1), .int 0, .int 0])), (tb, .inr (1, [.ref hs, .ref ns, .int 0])), (hs, .inl (cZ, 64, .inl (fun _ => 0)))] sz)) 1 6 (va_A [(x, .inr (3, [.ref d, .ref tb, .ref wa, .ref ts, .int 0, .int 1, .int 0, .int 22])), (d, .inr (0, [.ref w, .int (-1), .int 0, .int 0])), (tb, .inr (1, [.ref hs, .ref ns, .int 0])), (hs, .inl (cZ, 64, .inl (fun _ => 0)))] sz) := by
  refine va_MetW (hh := [(0, 9, 12, 13), (0, 9, 15, 15), (0, 9, 18, 23)]) (cc := cL_number) (maxL := 4) (ret := (some .int)) (by decide) rfl ?_
  intro p e s m args below meth c s₁ B hml hv
  obtain ⟨rfl, hsz, hP, hKK, hX, hD0⟩ := hv
  have hK := hKK.1
  have hx := B.exec
  have hb := B.bytes
  have hr := B.returns
  have hw : ∀ w ∈ wsA, w.before _ s = true := fun w h => atoms_spec (ws := (Cond.codeWith yL_number cL_number 4 (some .int) [(0, 9, 12, 13), (0, 9, 15, 15), (0, 9, 18, 23)] :: wsA)) B.pre w (List.mem_cons_of_mem _ h)
  have hown : s.vm.findClass "LoggedStoreLaw" = some m.cls := findClass_of_methodNamed B.named
  have hlocks := B.notSynchronized
  have htb : c.exceptionTable.toList = tableOf [(0, 9, 12, 13), (0, 9, 15, 15), (0, 9, 18, 23)] := tx_table B (atoms_spec (ws := (Cond.codeWith yL_number cL_number 4 (some .int) [(0, 9, 12, 13), (0, 9, 15, 15), (0, 9, 18, 23)] :: wsA)) B.pre _ List.mem_cons_self)
  subst hsz
  have hD := hD0.self (sz := s.heap.size)
  generalize hAe : va_A [(x, .inr (3, [.ref d, .ref tb, .ref wa, .ref ts, .int 0, .int 1, .int 0, .int 22])), (d, .inr (0, [.ref w, .int (-1), .int 0, .int 0])), (tb, .inr (1, [.ref hs, .ref ns, .int 0])), (hs, .inl (cZ, 64, .inl (fun _ => 0)))] s.heap.size = A at hD ⊢
  have hA : ∀ q : Nat, s.heap.size ≤ q → A q := fun q h => by rw [← hAe]; exact Or.inr h
  have hS : va_S A s.heap s.heap [] := va_S.rf
  have hl := lv_entry ([.ref x, .int (nI j), .ref o9]) (n := 4) (Nat.le_of_ble_eq_true rfl)
  rw [lg_entry_eq]
  generalize (lg_sl ([.ref x, .int (nI j), .ref o9]) ++ List.replicate (4 - (lg_sl ([.ref x, .int (nI j), .ref o9])).length) Slot.unset).toArray = ls at hl ⊢
  have hl : lv_has ls 4 [(0, .ref x), (1, .int (nI j)), (2, .ref o9)] := hl
  refine lv_aload_n hx hb dL_number_0 rfl (lv_at hl 2 rfl) ?_
  refine lv_iconst (v := 0) hx hb dL_number_1 (by decide) ?_
  refine lv_aload_n hx hb dL_number_2 rfl (lv_at hl 0 rfl) ?_
  refine lv_iload_n hx hb dL_number_3 rfl (lv_at hl 1 rfl) ?_
  have hPc := hP.sub (ws' := [(x, .inr (3, [.ref d, .ref tb, .ref wa, .ref ts, .int 0, .int 1, .int 0, .int 22])), (d, .inr (0, [.ref w, .int (-1), .int 0, .int 0])), (tb, .inr (1, [.ref hs, .ref ns, .int 0])), (hs, .inl (cZ, 64, .inl (fun _ => 0)))]) [0, 1, 2, 3] rfl
  refine tx_caught (tx_runV (C := "LoggedStore") (b := x) (As := [.int (nI j)]) (rest := [.int 0, .ref o9]) ⟨hx, hb, hml, hown, hw⟩ (c_number_y l dC dI cI cZ cJ cT hl9 x d w tb wa ts hs ns j hj) ⟨callB_of 1 hw (gA0 w578) rfl rfl rfl (hw _ w40) (hw _ w575) (by decide +kernel) ⟨Nat.le_of_ble_eq_true rfl, Nat.le_of_ble_eq_true rfl⟩, (hw _ w576), (hw _ w577)⟩ ⟨kb_Y, va_recv (ci := 3) (q0 := 0) hK hP rfl rfl, fun U hU hW => ⟨rfl, by rw [hU]; exact hPc, hKK.moved hW, hX.moved hW (by rw [hU]; exact fun _ _ h _ => h)⟩⟩ rfl rfl hl.1 rfl (lv_room (Nat.le_of_ble_eq_true rfl)) dL_number_4 ⟨Nat.le_of_ble_eq_true rfl, Nat.le_of_ble_eq_true rfl⟩) hown [(⟨0, 9, 12, 13⟩, "java/lang/IllegalStateException"), (⟨0, 9, 15, 15⟩, "java/lang/IllegalArgumentException")] ⟨0, 9, 18, 23⟩ "java/util/NoSuchElementException" [] (htb.trans rfl) (List.forall_mem_cons.mpr ⟨⟨by decide, by decide, (hw _ w282), hKK.2.nc2⟩, List.forall_mem_cons.mpr ⟨⟨by decide, by decide, (hw _ w283), hKK.2.nc3⟩, fun _ h => absurd h List.not_mem_nil⟩⟩) (by decide) (by decide) (hw _ w409) (va_Nw.use rfl hKK.2.ca2) (fun q1 H hz hk => ?_)
  have hS : va_S A s.heap H [] := ⟨hz, fun z h _ => hk z h, fun _ h => by cases h⟩
  refine W.eq (g2 := F0 m 18 ls [.ref q1]) rfl ?_
  refine lv_astore_n hx hb dL_number_18 rfl hl (by decide) rfl (fun ls hl => ?_)
  have hl : lv_has ls 4 [(3, .ref q1), (0, .ref x), (1, .int (nI j)), (2, .ref o9)] := hl
  refine lv_iconst (v := 3) hx hb dL_number_19 (by decide) ?_
  refine W.widen (k := 1) (n := 6) (by decide) (by decide) ?_
  exact W.iret (v := 3) hx hb hr (fun t ht hW => ⟨⟨3, fun _ => 0, rfl, rfl, trivial⟩, hS.F ht⟩) hS.2.2 dL_number_20

set_option maxRecDepth 100000 in
theorem w12 : (Cond.selects "LoggedStore" yS_viewFor yS_viewFor) ∈ wsA := List.mem_filter.mpr ⟨List.mem_of_getElem? (i := 12) rfl, rfl⟩
set_option maxRecDepth 100000 in
theorem w13 : (Cond.selects "LoggedStore" yS_requireOpen yS_requireOpen) ∈ wsA := List.mem_filter.mpr ⟨List.mem_of_getElem? (i := 13) rfl, rfl⟩
set_option maxRecDepth 100000 in
theorem w50 : (Cond.initialized "java/lang/IllegalArgumentException") ∈ wsA := List.mem_filter.mpr ⟨List.mem_of_getElem? (i := 50) rfl, rfl⟩
set_option maxRecDepth 100000 in
theorem w246 : (Cond.static yS_isKey) ∈ wsA := List.mem_filter.mpr ⟨List.mem_of_getElem? (i := 246) rfl, rfl⟩
set_option maxRecDepth 100000 in
theorem w247 : (Cond.code yS_isKey cS_isKey 1 (some .boolean)) ∈ wsA := List.mem_filter.mpr ⟨List.mem_of_getElem? (i := 247) rfl, rfl⟩
set_option maxRecDepth 100000 in
theorem w288 : (Cond.code yS_begin cS_begin 2 (some .int)) ∈ wsA := List.mem_filter.mpr ⟨List.mem_of_getElem? (i := 288) rfl, rfl⟩
set_option maxRecDepth 100000 in
theorem w363 : (Cond.methodLink "LoggedStore" 53 yS_requireTransaction) ∈ wsA := List.mem_filter.mpr ⟨List.mem_of_getElem? (i := 363) rfl, rfl⟩
set_option maxRecDepth 100000 in
theorem w364 : (Cond.static yS_requireTransaction) ∈ wsA := List.mem_filter.mpr ⟨List.mem_of_getElem? (i := 364) rfl, rfl⟩
set_option maxRecDepth 100000 in
theorem w365 : (Cond.code yS_requireTransaction cS_requireTransaction 1 none) ∈ wsA := List.mem_filter.mpr ⟨List.mem_of_getElem? (i := 365) rfl, rfl⟩
set_option maxRecDepth 100000 in
theorem w366 : (Cond.classLink "LoggedStore" 180 "java/lang/IllegalArgumentException") ∈ wsA := List.mem_filter.mpr ⟨List.mem_of_getElem? (i := 366) rfl, rfl⟩
set_option maxRecDepth 100000 in
theorem w413 : (Cond.code yS_get cS_get 4 (some .int)) ∈ wsA := List.mem_filter.mpr ⟨List.mem_of_getElem? (i := 413) rfl, rfl⟩
set_option maxRecDepth 100000 in
theorem w414 : (Cond.methodLink "LoggedStore" 72 yS_viewFor) ∈ wsA := List.mem_filter.mpr ⟨List.mem_of_getElem? (i := 414) rfl, rfl⟩
set_option maxRecDepth 100000 in
theorem w416 : (Cond.instanceMethod yS_viewFor) ∈ wsA := List.mem_filter.mpr ⟨List.mem_of_getElem? (i := 416) rfl, rfl⟩
set_option maxRecDepth 100000 in
theorem w417 : (Cond.code yS_viewFor cS_viewFor 3 (some (.object "LoggedStore$Table"))) ∈ wsA := List.mem_filter.mpr ⟨List.mem_of_getElem? (i := 417) rfl, rfl⟩
set_option maxRecDepth 100000 in
theorem w418 : (Cond.methodLink "LoggedStore" 97 yS_requireOpen) ∈ wsA := List.mem_filter.mpr ⟨List.mem_of_getElem? (i := 418) rfl, rfl⟩
set_option maxRecDepth 100000 in
theorem w420 : (Cond.instanceMethod yS_requireOpen) ∈ wsA := List.mem_filter.mpr ⟨List.mem_of_getElem? (i := 420) rfl, rfl⟩
set_option maxRecDepth 100000 in
theorem w421 : (Cond.code yS_requireOpen cS_requireOpen 2 none) ∈ wsA := List.mem_filter.mpr ⟨List.mem_of_getElem? (i := 421) rfl, rfl⟩
set_option maxRecDepth 100000 in
theorem w423 : (Cond.methodLink "LoggedStore" 144 yS_requireKey) ∈ wsA := List.mem_filter.mpr ⟨List.mem_of_getElem? (i := 423) rfl, rfl⟩
set_option maxRecDepth 100000 in
theorem w424 : (Cond.static yS_requireKey) ∈ wsA := List.mem_filter.mpr ⟨List.mem_of_getElem? (i := 424) rfl, rfl⟩
set_option maxRecDepth 100000 in
theorem w425 : (Cond.code yS_requireKey cS_requireKey 1 none) ∈ wsA := List.mem_filter.mpr ⟨List.mem_of_getElem? (i := 425) rfl, rfl⟩
set_option maxRecDepth 100000 in
theorem w426 : (Cond.methodLink "LoggedStore" 187 yS_isKey) ∈ wsA := List.mem_filter.mpr ⟨List.mem_of_getElem? (i := 426) rfl, rfl⟩
set_option maxRecDepth 100000 in
theorem w453 : (Cond.code yS_put cS_put 5 (some .boolean)) ∈ wsA := List.mem_filter.mpr ⟨List.mem_of_getElem? (i := 453) rfl, rfl⟩
set_option maxRecDepth 100000 in
theorem w469 : (Cond.code yS_remove cS_remove 3 none) ∈ wsA := List.mem_filter.mpr ⟨List.mem_of_getElem? (i := 469) rfl, rfl⟩
set_option maxRecDepth 100000 in
theorem w481 : (Cond.code yS_next cS_next 3 (some .int)) ∈ wsA := List.mem_filter.mpr ⟨List.mem_of_getElem? (i := 481) rfl, rfl⟩
set_option maxRecDepth 100000 in
theorem w492 : (Cond.code yS_drop cS_drop 3 (some .int)) ∈ wsA := List.mem_filter.mpr ⟨List.mem_of_getElem? (i := 492) rfl, rfl⟩
set_option maxRecDepth 100000 in
theorem w500 : (Cond.code yS_commit cS_commit 3 (some .int)) ∈ wsA := List.mem_filter.mpr ⟨List.mem_of_getElem? (i := 500) rfl, rfl⟩
set_option maxRecDepth 100000 in
theorem w578 : (Cond.code yS_number cS_number 2 (some .int)) ∈ wsA := List.mem_filter.mpr ⟨List.mem_of_getElem? (i := 578) rfl, rfl⟩
theorem dS_requireTransaction_0 : decode cS_requireTransaction 0 = .ok (.iload_n 0, 1) := by decide +kernel
theorem dS_requireTransaction_1 : decode cS_requireTransaction 1 = .ok (.ifCond .lt 8, 3) := by decide +kernel
theorem dS_requireTransaction_4 : decode cS_requireTransaction 4 = .ok (.iload_n 0, 1) := by decide +kernel
theorem dS_requireTransaction_5 : decode cS_requireTransaction 5 = .ok (.iconst 3, 1) := by decide +kernel
theorem dS_requireTransaction_6 : decode cS_requireTransaction 6 = .ok (.if_icmp .lt 13, 3) := by decide +kernel
theorem dS_requireTransaction_9 : decode cS_requireTransaction 9 = .ok (.new 180, 3) := by decide +kernel
theorem dS_requireTransaction_12 : decode cS_requireTransaction 12 = .ok (.dup, 1) := by decide +kernel
theorem dS_requireTransaction_13 : decode cS_requireTransaction 13 = .ok (.ldc 182, 2) := by decide +kernel
theorem dS_requireTransaction_15 : decode cS_requireTransaction 15 = .ok (.invokespecial 184, 3) := by decide +kernel
theorem dS_requireTransaction_18 : decode cS_requireTransaction 18 = .ok (.athrow, 1) := by decide +kernel
theorem dS_requireTransaction_19 : decode cS_requireTransaction 19 = .ok (.return_, 1) := by decide +kernel
theorem dS_requireOpen_0 : decode cS_requireOpen 0 = .ok (.iload_n 1, 1) := by decide +kernel
theorem dS_requireOpen_1 : decode cS_requireOpen 1 = .ok (.invokestatic 53, 3) := by decide +kernel
theorem dS_requireOpen_4 : decode cS_requireOpen 4 = .ok (.aload_n 0, 1) := by decide +kernel
theorem dS_requireOpen_5 : decode cS_requireOpen 5 = .ok (.getfield 29, 3) := by decide +kernel
theorem dS_requireOpen_8 : decode cS_requireOpen 8 = .ok (.iload_n 1, 1) := by decide +kernel
theorem dS_requireOpen_9 : decode cS_requireOpen 9 = .ok (.aaload, 1) := by decide +kernel
theorem dS_requireOpen_10 : decode cS_requireOpen 10 = .ok (.getfield 57, 3) := by decide +kernel
theorem dS_requireOpen_13 : decode cS_requireOpen 13 = .ok (.ifCond .ne 13, 3) := by decide +kernel
theorem dS_requireOpen_16 : decode cS_requireOpen 16 = .ok (.new 180, 3) := by decide +kernel
theorem dS_requireOpen_19 : decode cS_requireOpen 19 = .ok (.dup, 1) := by decide +kernel
theorem dS_requireOpen_20 : decode cS_requireOpen 20 = .ok (.ldc 185, 2) := by decide +kernel
theorem dS_requireOpen_22 : decode cS_requireOpen 22 = .ok (.invokespecial 184, 3) := by decide +kernel
theorem dS_requireOpen_25 : decode cS_requireOpen 25 = .ok (.athrow, 1) := by decide +kernel
theorem dS_viewFor_0 : decode cS_viewFor 0 = .ok (.aload_n 0, 1) := by decide +kernel
theorem dS_viewFor_1 : decode cS_viewFor 1 = .ok (.iload_n 1, 1) := by decide +kernel
theorem dS_viewFor_2 : decode cS_viewFor 2 = .ok (.invokevirtual 97, 3) := by decide +kernel
theorem dS_get_0 : decode cS_get 0 = .ok (.aload_n 0, 1) := by decide +kernel
theorem dS_get_1 : decode cS_get 1 = .ok (.invokevirtual 50, 3) := by decide +kernel
theorem dS_get_4 : decode cS_get 4 = .ok (.aload_n 0, 1) := by decide +kernel
theorem dS_get_5 : decode cS_get 5 = .ok (.iload_n 1, 1) := by decide +kernel
theorem dS_get_6 : decode cS_get 6 = .ok (.iload_n 2, 1) := by decide +kernel
theorem dS_get_7 : decode cS_get 7 = .ok (.invokevirtual 72, 3) := by decide +kernel
theorem dS_put_0 : decode cS_put 0 = .ok (.aload_n 0, 1) := by decide +kernel
theorem dS_put_1 : decode cS_put 1 = .ok (.invokevirtual 50, 3) := by decide +kernel
theorem dS_put_4 : decode cS_put 4 = .ok (.aload_n 0, 1) := by decide +kernel
theorem dS_put_5 : decode cS_put 5 = .ok (.iload_n 1, 1) := by decide +kernel
theorem dS_put_6 : decode cS_put 6 = .ok (.iload_n 2, 1) := by decide +kernel
theorem dS_put_7 : decode cS_put 7 = .ok (.invokevirtual 72, 3) := by decide +kernel
theorem dS_remove_0 : decode cS_remove 0 = .ok (.aload_n 0, 1) := by decide +kernel
theorem dS_remove_1 : decode cS_remove 1 = .ok (.invokevirtual 50, 3) := by decide +kernel
theorem dS_remove_4 : decode cS_remove 4 = .ok (.aload_n 0, 1) := by decide +kernel
theorem dS_remove_5 : decode cS_remove 5 = .ok (.iload_n 1, 1) := by decide +kernel
theorem dS_remove_6 : decode cS_remove 6 = .ok (.iload_n 2, 1) := by decide +kernel
theorem dS_remove_7 : decode cS_remove 7 = .ok (.invokevirtual 72, 3) := by decide +kernel
theorem dS_next_0 : decode cS_next 0 = .ok (.aload_n 0, 1) := by decide +kernel
theorem dS_next_1 : decode cS_next 1 = .ok (.invokevirtual 50, 3) := by decide +kernel
theorem dS_next_4 : decode cS_next 4 = .ok (.aload_n 0, 1) := by decide +kernel
theorem dS_next_5 : decode cS_next 5 = .ok (.iload_n 1, 1) := by decide +kernel
theorem dS_next_6 : decode cS_next 6 = .ok (.iload_n 2, 1) := by decide +kernel
theorem dS_next_7 : decode cS_next 7 = .ok (.invokevirtual 72, 3) := by decide +kernel
theorem dS_drop_0 : decode cS_drop 0 = .ok (.aload_n 0, 1) := by decide +kernel
theorem dS_drop_1 : decode cS_drop 1 = .ok (.invokevirtual 50, 3) := by decide +kernel
theorem dS_drop_4 : decode cS_drop 4 = .ok (.aload_n 0, 1) := by decide +kernel
theorem dS_drop_5 : decode cS_drop 5 = .ok (.iload_n 1, 1) := by decide +kernel
theorem dS_drop_6 : decode cS_drop 6 = .ok (.invokevirtual 97, 3) := by decide +kernel
theorem dS_commit_0 : decode cS_commit 0 = .ok (.aload_n 0, 1) := by decide +kernel
theorem dS_commit_1 : decode cS_commit 1 = .ok (.invokevirtual 50, 3) := by decide +kernel
theorem dS_commit_4 : decode cS_commit 4 = .ok (.aload_n 0, 1) := by decide +kernel
theorem dS_commit_5 : decode cS_commit 5 = .ok (.iload_n 1, 1) := by decide +kernel
theorem dS_commit_6 : decode cS_commit 6 = .ok (.invokevirtual 97, 3) := by decide +kernel
theorem dS_begin_0 : decode cS_begin 0 = .ok (.aload_n 0, 1) := by decide +kernel
theorem dS_begin_1 : decode cS_begin 1 = .ok (.invokevirtual 50, 3) := by decide +kernel
theorem dS_begin_4 : decode cS_begin 4 = .ok (.iload_n 1, 1) := by decide +kernel
theorem dS_begin_5 : decode cS_begin 5 = .ok (.invokestatic 53, 3) := by decide +kernel
theorem dS_isKey_0 : decode cS_isKey 0 = .ok (.iload_n 0, 1) := by decide +kernel
theorem dS_isKey_1 : decode cS_isKey 1 = .ok (.ifCond .lt 13, 3) := by decide +kernel
theorem dS_isKey_4 : decode cS_isKey 4 = .ok (.iload_n 0, 1) := by decide +kernel
theorem dS_isKey_5 : decode cS_isKey 5 = .ok (.bipush 64, 2) := by decide +kernel
theorem dS_isKey_7 : decode cS_isKey 7 = .ok (.if_icmp .ge 7, 3) := by decide +kernel
theorem dS_isKey_10 : decode cS_isKey 10 = .ok (.iconst 1, 1) := by decide +kernel
theorem dS_isKey_11 : decode cS_isKey 11 = .ok (.goto 4, 3) := by decide +kernel
theorem dS_isKey_14 : decode cS_isKey 14 = .ok (.iconst 0, 1) := by decide +kernel
theorem dS_isKey_15 : decode cS_isKey 15 = .ok (.ireturn, 1) := by decide +kernel
theorem dS_requireKey_0 : decode cS_requireKey 0 = .ok (.iload_n 0, 1) := by decide +kernel
theorem dS_requireKey_1 : decode cS_requireKey 1 = .ok (.invokestatic 187, 3) := by decide +kernel
theorem dS_requireKey_4 : decode cS_requireKey 4 = .ok (.ifCond .ne 13, 3) := by decide +kernel
theorem dS_requireKey_7 : decode cS_requireKey 7 = .ok (.new 180, 3) := by decide +kernel
theorem dS_requireKey_10 : decode cS_requireKey 10 = .ok (.dup, 1) := by decide +kernel
theorem dS_requireKey_11 : decode cS_requireKey 11 = .ok (.ldc 191, 2) := by decide +kernel
theorem dS_requireKey_13 : decode cS_requireKey 13 = .ok (.invokespecial 184, 3) := by decide +kernel
theorem dS_requireKey_16 : decode cS_requireKey 16 = .ok (.athrow, 1) := by decide +kernel
theorem dS_requireKey_17 : decode cS_requireKey 17 = .ok (.return_, 1) := by decide +kernel
theorem dS_number_0 : decode cS_number 0 = .ok (.aload_n 0, 1) := by decide +kernel
theorem dS_number_1 : decode cS_number 1 = .ok (.invokevirtual 50, 3) := by decide +kernel
theorem dS_number_4 : decode cS_number 4 = .ok (.iload_n 1, 1) := by decide +kernel
theorem dS_number_5 : decode cS_number 5 = .ok (.invokestatic 144, 3) := by decide +kernel
set_option maxHeartbeats 4000000 in
set_option maxRecDepth 100000 in
theorem c_rT_x (l : Launch) (dC : Nat → ClassId) (dI : Nat → Nat → Nat) (cI cZ cJ cT : ClassId) (hl9 : l.stackTraces = false) (t9 : Int32) (hb9 : t9 < 0 ∨ (¬ t9 < 0 ∧ ¬ t9 < 3)) : MetX l yS_requireTransaction (Cond.code yS_requireTransaction cS_requireTransaction 1 none :: wsA) ({ frames := 6, cells := 1, slots := 6, locals := 82 }) (va_Pc [.int t9] (fun U => va_P (dC, dI) vwC [] U.heap ∧ KK dC dI cI cZ cJ cT U ∧ KS U)) (tx_Qx "java/lang/IllegalArgumentException") 1 6 := by
  refine MetX.ofW (cc := cS_requireTransaction) (maxL := 1) (ret := none) (by decide) rfl ?_
  intro p e s m args below meth c s₁ B hml htab hv
  obtain ⟨rfl, hP, hKK, hX⟩ := hv
  rcases hb9 with h1 | ⟨h1, h2⟩
  · have hK := hKK.1
    have hx := B.exec
    have hb := B.bytes
    have hr := B.returns
    have hw : ∀ w ∈ wsA, w.before _ s = true := fun w h => atoms_spec (ws := (Cond.code yS_requireTransaction cS_requireTransaction 1 none :: wsA)) B.pre w (List.mem_cons_of_mem _ h)
    have hown : s.vm.findClass "LoggedStore" = some m.cls := findClass_of_methodNamed B.named
    have hlocks := B.notSynchronized
    have hl := lv_entry ([.int t9]) (n := 1) (Nat.le_of_ble_eq_true rfl)
    rw [lg_entry_eq]
    generalize (lg_sl ([.int t9]) ++ List.replicate (1 - (lg_sl ([.int t9])).length) Slot.unset).toArray = ls at hl ⊢
    have hl : lv_has ls 1 [(0, .int t9)] := hl
    refine lv_iload_n hx hb dS_requireTransaction_0 rfl (lv_at hl 0 rfl) ?_
    refine lv_if_lt (tgt := 9) hx hb dS_requireTransaction_1 (by decide) (fun _ => ?_) (fun h9 => absurd (h1) h9)
    obtain ⟨q9, hZ⟩ := hKK.2.s182
    exact tx_throw (names := ["java/lang/RuntimeException", "java/lang/Exception"]) hx hb hl9 hown (by decide +kernel) (by decide +kernel) hX (hw _ w366) (hw _ w50) hZ (hl.1.trans hml.symm) dS_requireTransaction_9 dS_requireTransaction_12 dS_requireTransaction_13 dS_requireTransaction_15 dS_requireTransaction_18 htab (by decide) (by decide) (by decide) (by decide) hlocks
  · have hK := hKK.1
    have hx := B.exec
    have hb := B.bytes
    have hr := B.returns
    have hw : ∀ w ∈ wsA, w.before _ s = true := fun w h => atoms_spec (ws := (Cond.code yS_requireTransaction cS_requireTransaction 1 none :: wsA)) B.pre w (List.mem_cons_of_mem _ h)
    have hown : s.vm.findClass "LoggedStore" = some m.cls := findClass_of_methodNamed B.named
    have hlocks := B.notSynchronized
    have hl := lv_entry ([.int t9]) (n := 1) (Nat.le_of_ble_eq_true rfl)
    rw [lg_entry_eq]
    generalize (lg_sl ([.int t9]) ++ List.replicate (1 - (lg_sl ([.int t9])).length) Slot.unset).toArray = ls at hl ⊢
    have hl : lv_has ls 1 [(0, .int t9)] := hl
    refine lv_iload_n hx hb dS_requireTransaction_0 rfl (lv_at hl 0 rfl) ?_
    refine lv_if_lt (tgt := 9) hx hb dS_requireTransaction_1 (by decide) (fun h9 => absurd h9 (h1)) (fun _ => ?_)
    refine lv_iload_n hx hb dS_requireTransaction_4 rfl (lv_at hl 0 rfl) ?_
    refine lv_iconst (v := 3) hx hb dS_requireTransaction_5 (by decide) ?_
    refine lv_icmp_lt (tgt := 19) hx hb dS_requireTransaction_6 (by decide) (fun h9 => absurd h9 (h2)) (fun _ => ?_)
    obtain ⟨q9, hZ⟩ := hKK.2.s182
    exact tx_throw (names := ["java/lang/RuntimeException", "java/lang/Exception"]) hx hb hl9 hown (by decide +kernel) (by decide +kernel) hX (hw _ w366) (hw _ w50) hZ (hl.1.trans hml.symm) dS_requireTransaction_9 dS_requireTransaction_12 dS_requireTransaction_13 dS_requireTransaction_15 dS_requireTransaction_18 htab (by decide) (by decide) (by decide) (by decide) hlocks

set_option maxHeartbeats 4000000 in
set_option maxRecDepth 100000 in
theorem c_rT_0 (l : Launch) (dC : Nat → ClassId) (dI : Nat → Nat → Nat) (cI cZ cJ cT : ClassId) : Met l yS_requireTransaction (Cond.code yS_requireTransaction cS_requireTransaction 1 none :: wsA) ({ frames := 0, cells := 0, slots := 0, locals := 0 }) (va_Pc [.int 0] (fun U => va_P (dC, dI) vwC [] U.heap ∧ KK dC dI cI cZ cJ cT U)) (va_Sv (fun _ => True)) 0 0 (fun _ => False) := by
  refine Met.ofW (cc := cS_requireTransaction) (maxL := 1) (ret := none) (by decide) rfl ?_
  intro p e s m args below meth c s₁ B hml hv
  obtain ⟨rfl, hP, hKK⟩ := hv
  have hK := hKK.1
  have hx := B.exec
  have hb := B.bytes
  have hr := B.returns
  have hw : ∀ w ∈ wsA, w.before _ s = true := fun w h => atoms_spec (ws := (Cond.code yS_requireTransaction cS_requireTransaction 1 none :: wsA)) B.pre w (List.mem_cons_of_mem _ h)
  have hown : s.vm.findClass "LoggedStore" = some m.cls := findClass_of_methodNamed B.named
  have hlocks := B.notSynchronized
  have hl := lv_entry ([.int 0]) (n := 1) (Nat.le_of_ble_eq_true rfl)
  rw [lg_entry_eq]
  generalize (lg_sl ([.int 0]) ++ List.replicate (1 - (lg_sl ([.int 0])).length) Slot.unset).toArray = ls at hl ⊢
  have hl : lv_has ls 1 [(0, .int 0)] := hl
  refine lv_iload_n hx hb dS_requireTransaction_0 rfl (lv_at hl 0 rfl) ?_
  refine lv_if_lt (tgt := 9) hx hb dS_requireTransaction_1 (by decide) (fun h9 => absurd h9 (by decide)) (fun _ => ?_)
  refine lv_iload_n hx hb dS_requireTransaction_4 rfl (lv_at hl 0 rfl) ?_
  refine lv_iconst (v := 3) hx hb dS_requireTransaction_5 (by decide) ?_
  refine lv_icmp_lt (tgt := 19) hx hb dS_requireTransaction_6 (by decide) (fun _ => ?_) (fun h9 => absurd (by decide) h9)
  exact W.vret hx hb hr (fun t ht hW => ⟨rfl, trivial, ht⟩) (fun q h => by cases h) dS_requireTransaction_19

set_option maxHeartbeats 4000000 in
set_option maxRecDepth 100000 in
theorem c_rT_1 (l : Launch) (dC : Nat → ClassId) (dI : Nat → Nat → Nat) (cI cZ cJ cT : ClassId) : Met l yS_requireTransaction (Cond.code yS_requireTransaction cS_requireTransaction 1 none :: wsA) ({ frames := 0, cells := 0, slots := 0, locals := 0 }) (va_Pc [.int 1] (fun U => va_P (dC, dI) vwC [] U.heap ∧ KK dC dI cI cZ cJ cT U)) (va_Sv (fun _ => True)) 0 0 (fun _ => False) := by
  refine Met.ofW (cc := cS_requireTransaction) (maxL := 1) (ret := none) (by decide) rfl ?_
  intro p e s m args below meth c s₁ B hml hv
  obtain ⟨rfl, hP, hKK⟩ := hv
  have hK := hKK.1
  have hx := B.exec
  have hb := B.bytes
  have hr := B.returns
  have hw : ∀ w ∈ wsA, w.before _ s = true := fun w h => atoms_spec (ws := (Cond.code yS_requireTransaction cS_requireTransaction 1 none :: wsA)) B.pre w (List.mem_cons_of_mem _ h)
  have hown : s.vm.findClass "LoggedStore" = some m.cls := findClass_of_methodNamed B.named
  have hlocks := B.notSynchronized
  have hl := lv_entry ([.int 1]) (n := 1) (Nat.le_of_ble_eq_true rfl)
  rw [lg_entry_eq]
  generalize (lg_sl ([.int 1]) ++ List.replicate (1 - (lg_sl ([.int 1])).length) Slot.unset).toArray = ls at hl ⊢
  have hl : lv_has ls 1 [(0, .int 1)] := hl
  refine lv_iload_n hx hb dS_requireTransaction_0 rfl (lv_at hl 0 rfl) ?_
  refine lv_if_lt (tgt := 9) hx hb dS_requireTransaction_1 (by decide) (fun h9 => absurd h9 (by decide)) (fun _ => ?_)
  refine lv_iload_n hx hb dS_requireTransaction_4 rfl (lv_at hl 0 rfl) ?_
  refine lv_iconst (v := 3) hx hb dS_requireTransaction_5 (by decide) ?_
  refine lv_icmp_lt (tgt := 19) hx hb dS_requireTransaction_6 (by decide) (fun _ => ?_) (fun h9 => absurd (by decide) h9)
  exact W.vret hx hb hr (fun t ht hW => ⟨rfl, trivial, ht⟩) (fun q h => by cases h) dS_requireTransaction_19

set_option maxHeartbeats 4000000 in
set_option maxRecDepth 100000 in
theorem c_rT_2 (l : Launch) (dC : Nat → ClassId) (dI : Nat → Nat → Nat) (cI cZ cJ cT : ClassId) : Met l yS_requireTransaction (Cond.code yS_requireTransaction cS_requireTransaction 1 none :: wsA) ({ frames := 0, cells := 0, slots := 0, locals := 0 }) (va_Pc [.int 2] (fun U => va_P (dC, dI) vwC [] U.heap ∧ KK dC dI cI cZ cJ cT U)) (va_Sv (fun _ => True)) 0 0 (fun _ => False) := by
  refine Met.ofW (cc := cS_requireTransaction) (maxL := 1) (ret := none) (by decide) rfl ?_
  intro p e s m args below meth c s₁ B hml hv
  obtain ⟨rfl, hP, hKK⟩ := hv
  have hK := hKK.1
  have hx := B.exec
  have hb := B.bytes
  have hr := B.returns
  have hw : ∀ w ∈ wsA, w.before _ s = true := fun w h => atoms_spec (ws := (Cond.code yS_requireTransaction cS_requireTransaction 1 none :: wsA)) B.pre w (List.mem_cons_of_mem _ h)
  have hown : s.vm.findClass "LoggedStore" = some m.cls := findClass_of_methodNamed B.named
  have hlocks := B.notSynchronized
  have hl := lv_entry ([.int 2]) (n := 1) (Nat.le_of_ble_eq_true rfl)
  rw [lg_entry_eq]
  generalize (lg_sl ([.int 2]) ++ List.replicate (1 - (lg_sl ([.int 2])).length) Slot.unset).toArray = ls at hl ⊢
  have hl : lv_has ls 1 [(0, .int 2)] := hl
  refine lv_iload_n hx hb dS_requireTransaction_0 rfl (lv_at hl 0 rfl) ?_
  refine lv_if_lt (tgt := 9) hx hb dS_requireTransaction_1 (by decide) (fun h9 => absurd h9 (by decide)) (fun _ => ?_)
  refine lv_iload_n hx hb dS_requireTransaction_4 rfl (lv_at hl 0 rfl) ?_
  refine lv_iconst (v := 3) hx hb dS_requireTransaction_5 (by decide) ?_
  refine lv_icmp_lt (tgt := 19) hx hb dS_requireTransaction_6 (by decide) (fun _ => ?_) (fun h9 => absurd (by decide) h9)
  exact W.vret hx hb hr (fun t ht hW => ⟨rfl, trivial, ht⟩) (fun q h => by cases h) dS_requireTransaction_19

set_option maxHeartbeats 4000000 in
set_option maxRecDepth 100000 in
theorem c_rO_x (l : Launch) (dC : Nat → ClassId) (dI : Nat → Nat → Nat) (cI cZ cJ cT : ClassId) (hl9 : l.stackTraces = false) (x d w tb wa ts : Nat) (t0 v0 vw0 t1 v1 vw1 t2 v2 vw2 : Nat) (t9 : Int32) : MetX l yS_requireOpen (Cond.code yS_requireOpen cS_requireOpen 2 none :: wsA) ({ frames := 7, cells := 1, slots := 6, locals := 102 }) (va_Pc [.ref x, .int t9] (fun U => va_P (dC, dI) vwC [(x, .inr (3, [.ref d, .ref tb, .ref wa, .ref ts, .int 0, .int 1, .int 0, .int 22])), (ts, .inl (cT, 3, .inr (.inr (.inr (.inr (tF t0 t1 t2)))))), (t0, .inr (2, [.ref v0, .ref vw0, .int 0, .int 0, .int 0])), (t1, .inr (2, [.ref v1, .ref vw1, .int 0, .int 0, .int 0])), (t2, .inr (2, [.ref v2, .ref vw2, .int 0, .int 0, .int 0]))] U.heap ∧ KK dC dI cI cZ cJ cT U ∧ KS U)) (tx_Qx "java/lang/IllegalArgumentException") 1 6 := by
  refine MetX.ofW (cc := cS_requireOpen) (maxL := 2) (ret := none) (by decide) rfl ?_
  intro p e s m args below meth c s₁ B hml htab hv
  obtain ⟨rfl, hP, hKK, hX⟩ := hv
  rcases tk_t t9 with h1 | ⟨h1, h2, h3⟩ | rfl | rfl | rfl
  · have hK := hKK.1
    have hx := B.exec
    have hb := B.bytes
    have hr := B.returns
    have hw : ∀ w ∈ wsA, w.before _ s = true := fun w h => atoms_spec (ws := (Cond.code yS_requireOpen cS_requireOpen 2 none :: wsA)) B.pre w (List.mem_cons_of_mem _ h)
    have hown : s.vm.findClass "LoggedStore" = some m.cls := findClass_of_methodNamed B.named
    have hlocks := B.notSynchronized
    have hl := lv_entry ([.ref x, .int t9]) (n := 2) (Nat.le_of_ble_eq_true rfl)
    rw [lg_entry_eq]
    generalize (lg_sl ([.ref x, .int t9]) ++ List.replicate (2 - (lg_sl ([.ref x, .int t9])).length) Slot.unset).toArray = ls at hl ⊢
    have hl : lv_has ls 2 [(0, .ref x), (1, .int t9)] := hl
    refine lv_iload_n hx hb dS_requireOpen_0 rfl (lv_at hl 1 rfl) ?_
    have hPc := hP.sub (ws' := []) [] rfl
    exact tx_out (tx_runS (As := [.int t9]) (rest := []) ⟨hx, hb, hml, hown, hw⟩ (c_rT_x l dC dI cI cZ cJ cT hl9 t9 (Or.inl h1)) ⟨callB_of 1 hw (gA0 w365) rfl rfl rfl (hw _ w40) (hw _ w363) (by decide +kernel) ⟨Nat.le_of_ble_eq_true rfl, Nat.le_of_ble_eq_true rfl⟩, (hw _ w364)⟩ ⟨kb_X, fun U hU hW => ⟨rfl, by rw [hU]; exact hPc, hKK.moved hW, hX.moved hW (by rw [hU]; exact fun _ _ h _ => h)⟩⟩ rfl rfl hl.1 rfl (lv_room (Nat.le_of_ble_eq_true rfl)) dS_requireOpen_1 ⟨Nat.le_of_ble_eq_true rfl, Nat.le_of_ble_eq_true rfl⟩) htab hlocks
  · have hK := hKK.1
    have hx := B.exec
    have hb := B.bytes
    have hr := B.returns
    have hw : ∀ w ∈ wsA, w.before _ s = true := fun w h => atoms_spec (ws := (Cond.code yS_requireOpen cS_requireOpen 2 none :: wsA)) B.pre w (List.mem_cons_of_mem _ h)
    have hown : s.vm.findClass "LoggedStore" = some m.cls := findClass_of_methodNamed B.named
    have hlocks := B.notSynchronized
    have hl := lv_entry ([.ref x, .int t9]) (n := 2) (Nat.le_of_ble_eq_true rfl)
    rw [lg_entry_eq]
    generalize (lg_sl ([.ref x, .int t9]) ++ List.replicate (2 - (lg_sl ([.ref x, .int t9])).length) Slot.unset).toArray = ls at hl ⊢
    have hl : lv_has ls 2 [(0, .ref x), (1, .int t9)] := hl
    refine lv_iload_n hx hb dS_requireOpen_0 rfl (lv_at hl 1 rfl) ?_
    have hPc := hP.sub (ws' := []) [] rfl
    exact tx_out (tx_runS (As := [.int t9]) (rest := []) ⟨hx, hb, hml, hown, hw⟩ (c_rT_x l dC dI cI cZ cJ cT hl9 t9 (Or.inr ⟨h1, h2⟩)) ⟨callB_of 1 hw (gA0 w365) rfl rfl rfl (hw _ w40) (hw _ w363) (by decide +kernel) ⟨Nat.le_of_ble_eq_true rfl, Nat.le_of_ble_eq_true rfl⟩, (hw _ w364)⟩ ⟨kb_X, fun U hU hW => ⟨rfl, by rw [hU]; exact hPc, hKK.moved hW, hX.moved hW (by rw [hU]; exact fun _ _ h _ => h)⟩⟩ rfl rfl hl.1 rfl (lv_room (Nat.le_of_ble_eq_true rfl)) dS_requireOpen_1 ⟨Nat.le_of_ble_eq_true rfl, Nat.le_of_ble_eq_true rfl⟩) htab hlocks
  · have hK := hKK.1
    have hx := B.exec
    have hb := B.bytes
    have hr := B.returns
    have hw : ∀ w ∈ wsA, w.before _ s = true := fun w h => atoms_spec (ws := (Cond.code yS_requireOpen cS_requireOpen 2 none :: wsA)) B.pre w (List.mem_cons_of_mem _ h)
    have hown : s.vm.findClass "LoggedStore" = some m.cls := findClass_of_methodNamed B.named
    have hlocks := B.notSynchronized
    have hl := lv_entry ([.ref x, .int 0]) (n := 2) (Nat.le_of_ble_eq_true rfl)
    rw [lg_entry_eq]
    generalize (lg_sl ([.ref x, .int 0]) ++ List.replicate (2 - (lg_sl ([.ref x, .int 0])).length) Slot.unset).toArray = ls at hl ⊢
    have hl : lv_has ls 2 [(0, .ref x), (1, .int 0)] := hl
    refine lv_iload_n hx hb dS_requireOpen_0 rfl (lv_at hl 1 rfl) ?_
    have hPc := hP.sub (ws' := []) [] rfl
    refine va_csv (W.runS (As := [.int 0]) (rest := []) ⟨hx, hb, hml, hown, hw⟩ (c_rT_0 l dC dI cI cZ cJ cT) ⟨callB_of 1 hw (gA0 w365) rfl rfl rfl (hw _ w40) (hw _ w363) (by decide +kernel) ⟨Nat.le_of_ble_eq_true rfl, Nat.le_of_ble_eq_true rfl⟩, (hw _ w364)⟩ ⟨kb_S, fun U hU hW => ⟨rfl, by rw [hU]; exact hPc, hKK.moved hW⟩⟩ rfl rfl hl.1 rfl (lv_room (Nat.le_of_ble_eq_true rfl)) dS_requireOpen_1 ⟨Nat.le_of_ble_eq_true rfl, Nat.le_of_ble_eq_true rfl⟩) (fun _ => ?_)
    refine lv_aload_n hx hb dS_requireOpen_4 rfl (lv_at hl 0 rfl) ?_
    refine va_get (D := (dC, dI)) (ci := 3) (v := .ref ts) (C := "LoggedStore") (T := uS) (N := 8) hx hb hw inS hown hK hP 0 rfl rfl 3 (by decide) (hw _ w157) (fun _ h9 => h9) rfl dS_requireOpen_5 ?_
    refine lv_iload_n hx hb dS_requireOpen_8 rfl (lv_at hl 1 rfl) ?_
    refine va_aldq hx hb hK hP 1 3 rfl rfl (tv_in (by decide +kernel)) dS_requireOpen_9 ?_
    refine W.eq (g2 := F0 m 10 ls [.ref t0]) rfl ?_
    refine va_get (D := (dC, dI)) (ci := 2) (v := .int 0) (C := "LoggedStore$Transaction") (T := uR) (N := 5) hx hb hw inR hown hK hP 2 rfl rfl 4 (by decide) (hw _ w122) (fun _ h9 => h9) rfl dS_requireOpen_10 ?_
    refine lv_if_ne (tgt := 26) hx hb dS_requireOpen_13 (by decide) (fun h9 => absurd (by decide) h9) (fun _ => ?_)
    obtain ⟨q9, hZ⟩ := hKK.2.s185
    exact tx_throw (names := ["java/lang/RuntimeException", "java/lang/Exception"]) hx hb hl9 hown (by decide +kernel) (by decide +kernel) hX (hw _ w366) (hw _ w50) hZ (hl.1.trans hml.symm) dS_requireOpen_16 dS_requireOpen_19 dS_requireOpen_20 dS_requireOpen_22 dS_requireOpen_25 htab (by decide) (by decide) (by decide) (by decide) hlocks
  · have hK := hKK.1
    have hx := B.exec
    have hb := B.bytes
    have hr := B.returns
    have hw : ∀ w ∈ wsA, w.before _ s = true := fun w h => atoms_spec (ws := (Cond.code yS_requireOpen cS_requireOpen 2 none :: wsA)) B.pre w (List.mem_cons_of_mem _ h)
    have hown : s.vm.findClass "LoggedStore" = some m.cls := findClass_of_methodNamed B.named
    have hlocks := B.notSynchronized
    have hl := lv_entry ([.ref x, .int 1]) (n := 2) (Nat.le_of_ble_eq_true rfl)
    rw [lg_entry_eq]
    generalize (lg_sl ([.ref x, .int 1]) ++ List.replicate (2 - (lg_sl ([.ref x, .int 1])).length) Slot.unset).toArray = ls at hl ⊢
    have hl : lv_has ls 2 [(0, .ref x), (1, .int 1)] := hl
    refine lv_iload_n hx hb dS_requireOpen_0 rfl (lv_at hl 1 rfl) ?_
    have hPc := hP.sub (ws' := []) [] rfl
    refine va_csv (W.runS (As := [.int 1]) (rest := []) ⟨hx, hb, hml, hown, hw⟩ (c_rT_1 l dC dI cI cZ cJ cT) ⟨callB_of 1 hw (gA0 w365) rfl rfl rfl (hw _ w40) (hw _ w363) (by decide +kernel) ⟨Nat.le_of_ble_eq_true rfl, Nat.le_of_ble_eq_true rfl⟩, (hw _ w364)⟩ ⟨kb_S, fun U hU hW => ⟨rfl, by rw [hU]; exact hPc, hKK.moved hW⟩⟩ rfl rfl hl.1 rfl (lv_room (Nat.le_of_ble_eq_true rfl)) dS_requireOpen_1 ⟨Nat.le_of_ble_eq_true rfl, Nat.le_of_ble_eq_true rfl⟩) (fun _ => ?_)
    refine lv_aload_n hx hb dS_requireOpen_4 rfl (lv_at hl 0 rfl) ?_
    refine va_get (D := (dC, dI)) (ci := 3) (v := .ref ts) (C := "LoggedStore") (T := uS) (N := 8) hx hb hw inS hown hK hP 0 rfl rfl 3 (by decide) (hw _ w157) (fun _ h9 => h9) rfl dS_requireOpen_5 ?_
    refine lv_iload_n hx hb dS_requireOpen_8 rfl (lv_at hl 1 rfl) ?_
    refine va_aldq hx hb hK hP 1 3 rfl rfl (tv_in (by decide +kernel)) dS_requireOpen_9 ?_
    refine W.eq (g2 := F0 m 10 ls [.ref t1]) rfl ?_
    refine va_get (D := (dC, dI)) (ci := 2) (v := .int 0) (C := "LoggedStore$Transaction") (T := uR) (N := 5) hx hb hw inR hown hK hP 3 rfl rfl 4 (by decide) (hw _ w122) (fun _ h9 => h9) rfl dS_requireOpen_10 ?_
    refine lv_if_ne (tgt := 26) hx hb dS_requireOpen_13 (by decide) (fun h9 => absurd (by decide) h9) (fun _ => ?_)
    obtain ⟨q9, hZ⟩ := hKK.2.s185
    exact tx_throw (names := ["java/lang/RuntimeException", "java/lang/Exception"]) hx hb hl9 hown (by decide +kernel) (by decide +kernel) hX (hw _ w366) (hw _ w50) hZ (hl.1.trans hml.symm) dS_requireOpen_16 dS_requireOpen_19 dS_requireOpen_20 dS_requireOpen_22 dS_requireOpen_25 htab (by decide) (by decide) (by decide) (by decide) hlocks
  · have hK := hKK.1
    have hx := B.exec
    have hb := B.bytes
    have hr := B.returns
    have hw : ∀ w ∈ wsA, w.before _ s = true := fun w h => atoms_spec (ws := (Cond.code yS_requireOpen cS_requireOpen 2 none :: wsA)) B.pre w (List.mem_cons_of_mem _ h)
    have hown : s.vm.findClass "LoggedStore" = some m.cls := findClass_of_methodNamed B.named
    have hlocks := B.notSynchronized
    have hl := lv_entry ([.ref x, .int 2]) (n := 2) (Nat.le_of_ble_eq_true rfl)
    rw [lg_entry_eq]
    generalize (lg_sl ([.ref x, .int 2]) ++ List.replicate (2 - (lg_sl ([.ref x, .int 2])).length) Slot.unset).toArray = ls at hl ⊢
    have hl : lv_has ls 2 [(0, .ref x), (1, .int 2)] := hl
    refine lv_iload_n hx hb dS_requireOpen_0 rfl (lv_at hl 1 rfl) ?_
    have hPc := hP.sub (ws' := []) [] rfl
    refine va_csv (W.runS (As := [.int 2]) (rest := []) ⟨hx, hb, hml, hown, hw⟩ (c_rT_2 l dC dI cI cZ cJ cT) ⟨callB_of 1 hw (gA0 w365) rfl rfl rfl (hw _ w40) (hw _ w363) (by decide +kernel) ⟨Nat.le_of_ble_eq_true rfl, Nat.le_of_ble_eq_true rfl⟩, (hw _ w364)⟩ ⟨kb_S, fun U hU hW => ⟨rfl, by rw [hU]; exact hPc, hKK.moved hW⟩⟩ rfl rfl hl.1 rfl (lv_room (Nat.le_of_ble_eq_true rfl)) dS_requireOpen_1 ⟨Nat.le_of_ble_eq_true rfl, Nat.le_of_ble_eq_true rfl⟩) (fun _ => ?_)
    refine lv_aload_n hx hb dS_requireOpen_4 rfl (lv_at hl 0 rfl) ?_
    refine va_get (D := (dC, dI)) (ci := 3) (v := .ref ts) (C := "LoggedStore") (T := uS) (N := 8) hx hb hw inS hown hK hP 0 rfl rfl 3 (by decide) (hw _ w157) (fun _ h9 => h9) rfl dS_requireOpen_5 ?_
    refine lv_iload_n hx hb dS_requireOpen_8 rfl (lv_at hl 1 rfl) ?_
    refine va_aldq hx hb hK hP 1 3 rfl rfl (tv_in (by decide +kernel)) dS_requireOpen_9 ?_
    refine W.eq (g2 := F0 m 10 ls [.ref t2]) rfl ?_
    refine va_get (D := (dC, dI)) (ci := 2) (v := .int 0) (C := "LoggedStore$Transaction") (T := uR) (N := 5) hx hb hw inR hown hK hP 4 rfl rfl 4 (by decide) (hw _ w122) (fun _ h9 => h9) rfl dS_requireOpen_10 ?_
    refine lv_if_ne (tgt := 26) hx hb dS_requireOpen_13 (by decide) (fun h9 => absurd (by decide) h9) (fun _ => ?_)
    obtain ⟨q9, hZ⟩ := hKK.2.s185
    exact tx_throw (names := ["java/lang/RuntimeException", "java/lang/Exception"]) hx hb hl9 hown (by decide +kernel) (by decide +kernel) hX (hw _ w366) (hw _ w50) hZ (hl.1.trans hml.symm) dS_requireOpen_16 dS_requireOpen_19 dS_requireOpen_20 dS_requireOpen_22 dS_requireOpen_25 htab (by decide) (by decide) (by decide) (by decide) hlocks

set_option maxHeartbeats 4000000 in
set_option maxRecDepth 100000 in
theorem c_viewFor_x (l : Launch) (dC : Nat → ClassId) (dI : Nat → Nat → Nat) (cI cZ cJ cT : ClassId) (hl9 : l.stackTraces = false) (x d w tb wa ts : Nat) (t0 v0 vw0 t1 v1 vw1 t2 v2 vw2 : Nat) (t9 : Int32) (k9 : Int32) : MetX l yS_viewFor (Cond.code yS_viewFor cS_viewFor 3 (some (.object "LoggedStore$Table")) :: wsA) ({ frames := 8, cells := 1, slots := 6, locals := 123 }) (va_Pc [.ref x, .int t9, .int k9] (fun U => va_P (dC, dI) vwC [(x, .inr (3, [.ref d, .ref tb, .ref wa, .ref ts, .int 0, .int 1, .int 0, .int 22])), (ts, .inl (cT, 3, .inr (.inr (.inr (.inr (tF t0 t1 t2)))))), (t0, .inr (2, [.ref v0, .ref vw0, .int 0, .int 0, .int 0])), (t1, .inr (2, [.ref v1, .ref vw1, .int 0, .int 0, .int 0])), (t2, .inr (2, [.ref v2, .ref vw2, .int 0, .int 0, .int 0]))] U.heap ∧ KK dC dI cI cZ cJ cT U ∧ KS U)) (tx_Qx "java/lang/IllegalArgumentException") 1 6 := by
  refine MetX.ofW (cc := cS_viewFor) (maxL := 3) (ret := (some (.object "LoggedStore$Table"))) (by decide) rfl ?_
  intro p e s m args below meth c s₁ B hml htab hv
  obtain ⟨rfl, hP, hKK, hX⟩ := hv
  have hK := hKK.1
  have hx := B.exec
  have hb := B.bytes
  have hr := B.returns
  have hw : ∀ w ∈ wsA, w.before _ s = true := fun w h => atoms_spec (ws := (Cond.code yS_viewFor cS_viewFor 3 (some (.object "LoggedStore$Table")) :: wsA)) B.pre w (List.mem_cons_of_mem _ h)
  have hown : s.vm.findClass "LoggedStore" = some m.cls := findClass_of_methodNamed B.named
  have hlocks := B.notSynchronized
  have hl := lv_entry ([.ref x, .int t9, .int k9]) (n := 3) (Nat.le_of_ble_eq_true rfl)
  rw [lg_entry_eq]
  generalize (lg_sl ([.ref x, .int t9, .int k9]) ++ List.replicate (3 - (lg_sl ([.ref x, .int t9, .int k9])).length) Slot.unset).toArray = ls at hl ⊢
  have hl : lv_has ls 3 [(0, .ref x), (1, .int t9), (2, .int k9)] := hl
  refine lv_aload_n hx hb dS_viewFor_0 rfl (lv_at hl 0 rfl) ?_
  refine lv_iload_n hx hb dS_viewFor_1 rfl (lv_at hl 1 rfl) ?_
  have hPc := hP.sub (ws' := [(x, .inr (3, [.ref d, .ref tb, .ref wa, .ref ts, .int 0, .int 1, .int 0, .int 22])), (ts, .inl (cT, 3, .inr (.inr (.inr (.inr (tF t0 t1 t2)))))), (t0, .inr (2, [.ref v0, .ref vw0, .int 0, .int 0, .int 0])), (t1, .inr (2, [.ref v1, .ref vw1, .int 0, .int 0, .int 0])), (t2, .inr (2, [.ref v2, .ref vw2, .int 0, .int 0, .int 0]))]) [0, 1, 2, 3, 4] rfl
  exact tx_out (tx_runV (C := "LoggedStore") (b := x) (As := [.int t9]) (rest := []) ⟨hx, hb, hml, hown, hw⟩ (c_rO_x l dC dI cI cZ cJ cT hl9 x d w tb wa ts t0 v0 vw0 t1 v1 vw1 t2 v2 vw2 t9) ⟨callB_of 1 hw (gA0 w421) rfl rfl rfl (hw _ w40) (hw _ w418) (by decide +kernel) ⟨Nat.le_of_ble_eq_true rfl, Nat.le_of_ble_eq_true rfl⟩, (hw _ w420), (hw _ w13)⟩ ⟨kb_X, va_recv (ci := 3) (q0 := 0) hK hP rfl rfl, fun U hU hW => ⟨rfl, by rw [hU]; exact hPc, hKK.moved hW, hX.moved hW (by rw [hU]; exact fun _ _ h _ => h)⟩⟩ rfl rfl hl.1 rfl (lv_room (Nat.le_of_ble_eq_true rfl)) dS_viewFor_2 ⟨Nat.le_of_ble_eq_true rfl, Nat.le_of_ble_eq_true rfl⟩) htab hlocks

set_option maxHeartbeats 4000000 in
set_option maxRecDepth 100000 in
theorem c_get_x (l : Launch) (dC : Nat → ClassId) (dI : Nat → Nat → Nat) (cI cZ cJ cT : ClassId) (hl9 : l.stackTraces = false) (x d w tb wa ts : Nat) (t0 v0 vw0 t1 v1 vw1 t2 v2 vw2 : Nat) (t9 : Int32) (k9 : Int32) : MetX l yS_get (Cond.code yS_get cS_get 4 (some .int) :: wsA) ({ frames := 9, cells := 1, slots := 6, locals := 145 }) (va_Pc [.ref x, .int t9, .int k9] (fun U => va_P (dC, dI) vwC [(x, .inr (3, [.ref d, .ref tb, .ref wa, .ref ts, .int 0, .int 1, .int 0, .int 22])), (ts, .inl (cT, 3, .inr (.inr (.inr (.inr (tF t0 t1 t2)))))), (t0, .inr (2, [.ref v0, .ref vw0, .int 0, .int 0, .int 0])), (t1, .inr (2, [.ref v1, .ref vw1, .int 0, .int 0, .int 0])), (t2, .inr (2, [.ref v2, .ref vw2, .int 0, .int 0, .int 0])), (d, .inr (0, [.ref w, .int (-1), .int 0, .int 0]))] U.heap ∧ KK dC dI cI cZ cJ cT U ∧ KS U)) (tx_Qx "java/lang/IllegalArgumentException") 1 6 := by
  refine MetX.ofW (cc := cS_get) (maxL := 4) (ret := (some .int)) (by decide) rfl ?_
  intro p e s m args below meth c s₁ B hml htab hv
  obtain ⟨rfl, hP, hKK, hX⟩ := hv
  have hK := hKK.1
  have hx := B.exec
  have hb := B.bytes
  have hr := B.returns
  have hw : ∀ w ∈ wsA, w.before _ s = true := fun w h => atoms_spec (ws := (Cond.code yS_get cS_get 4 (some .int) :: wsA)) B.pre w (List.mem_cons_of_mem _ h)
  have hown : s.vm.findClass "LoggedStore" = some m.cls := findClass_of_methodNamed B.named
  have hlocks := B.notSynchronized
  have hl := lv_entry ([.ref x, .int t9, .int k9]) (n := 4) (Nat.le_of_ble_eq_true rfl)
  rw [lg_entry_eq]
  generalize (lg_sl ([.ref x, .int t9, .int k9]) ++ List.replicate (4 - (lg_sl ([.ref x, .int t9, .int k9])).length) Slot.unset).toArray = ls at hl ⊢
  have hl : lv_has ls 4 [(0, .ref x), (1, .int t9), (2, .int k9)] := hl
  refine lv_aload_n hx hb dS_get_0 rfl (lv_at hl 0 rfl) ?_
  have hPc := hP.sub (ws' := [(x, .inr (3, [.ref d, .ref tb, .ref wa, .ref ts, .int 0, .int 1, .int 0, .int 22])), (d, .inr (0, [.ref w, .int (-1), .int 0, .int 0]))]) [0, 5] rfl
  refine va_csv (W.runV (C := "LoggedStore") (b := x) (As := []) (rest := []) ⟨hx, hb, hml, hown, hw⟩ (c_requireUp l dC dI cI cZ cJ cT x d w tb wa ts) ⟨callB_of 0 hw (gA0 w292) rfl rfl rfl (hw _ w40) (hw _ w289) (by decide +kernel) ⟨Nat.le_of_ble_eq_true rfl, Nat.le_of_ble_eq_true rfl⟩, (hw _ w291), (hw _ w10)⟩ ⟨kb_S, va_recv (ci := 3) (q0 := 0) hK hP rfl rfl, fun U hU hW => ⟨rfl, by rw [hU]; exact hPc, hKK.moved hW⟩⟩ rfl rfl hl.1 rfl (lv_room (Nat.le_of_ble_eq_true rfl)) dS_get_1 ⟨Nat.le_of_ble_eq_true rfl, Nat.le_of_ble_eq_true rfl⟩) (fun _ => ?_)
  refine lv_aload_n hx hb dS_get_4 rfl (lv_at hl 0 rfl) ?_
  refine lv_iload_n hx hb dS_get_5 rfl (lv_at hl 1 rfl) ?_
  refine lv_iload_n hx hb dS_get_6 rfl (lv_at hl 2 rfl) ?_
  have hPc := hP.sub (ws' := [(x, .inr (3, [.ref d, .ref tb, .ref wa, .ref ts, .int 0, .int 1, .int 0, .int 22])), (ts, .inl (cT, 3, .inr (.inr (.inr (.inr (tF t0 t1 t2)))))), (t0, .inr (2, [.ref v0, .ref vw0, .int 0, .int 0, .int 0])), (t1, .inr (2, [.ref v1, .ref vw1, .int 0, .int 0, .int 0])), (t2, .inr (2, [.ref v2, .ref vw2, .int 0, .int 0, .int 0]))]) [0, 1, 2, 3, 4] rfl
  exact tx_out (tx_runV (C := "LoggedStore") (b := x) (As := [.int t9, .int k9]) (rest := []) ⟨hx, hb, hml, hown, hw⟩ (c_viewFor_x l dC dI cI cZ cJ cT hl9 x d w tb wa ts t0 v0 vw0 t1 v1 vw1 t2 v2 vw2 t9 k9) ⟨callB_of 2 hw (gA0 w417) rfl rfl rfl (hw _ w40) (hw _ w414) (by decide +kernel) ⟨Nat.le_of_ble_eq_true rfl, Nat.le_of_ble_eq_true rfl⟩, (hw _ w416), (hw _ w12)⟩ ⟨kb_X, va_recv (ci := 3) (q0 := 0) hK hP rfl rfl, fun U hU hW => ⟨rfl, by rw [hU]; exact hPc, hKK.moved hW, hX.moved hW (by rw [hU]; exact fun _ _ h _ => h)⟩⟩ rfl rfl hl.1 rfl (lv_room (Nat.le_of_ble_eq_true rfl)) dS_get_7 ⟨Nat.le_of_ble_eq_true rfl, Nat.le_of_ble_eq_true rfl⟩) htab hlocks

set_option maxHeartbeats 4000000 in
set_option maxRecDepth 100000 in
theorem c_put_x (l : Launch) (dC : Nat → ClassId) (dI : Nat → Nat → Nat) (cI cZ cJ cT : ClassId) (hl9 : l.stackTraces = false) (x d w tb wa ts : Nat) (t0 v0 vw0 t1 v1 vw1 t2 v2 vw2 : Nat) (t9 : Int32) (k9 : Int32) (n9 : Int32) : MetX l yS_put (Cond.code yS_put cS_put 5 (some .boolean) :: wsA) ({ frames := 9, cells := 1, slots := 6, locals := 145 }) (va_Pc [.ref x, .int t9, .int k9, .int n9] (fun U => va_P (dC, dI) vwC [(x, .inr (3, [.ref d, .ref tb, .ref wa, .ref ts, .int 0, .int 1, .int 0, .int 22])), (ts, .inl (cT, 3, .inr (.inr (.inr (.inr (tF t0 t1 t2)))))), (t0, .inr (2, [.ref v0, .ref vw0, .int 0, .int 0, .int 0])), (t1, .inr (2, [.ref v1, .ref vw1, .int 0, .int 0, .int 0])), (t2, .inr (2, [.ref v2, .ref vw2, .int 0, .int 0, .int 0])), (d, .inr (0, [.ref w, .int (-1), .int 0, .int 0]))] U.heap ∧ KK dC dI cI cZ cJ cT U ∧ KS U)) (tx_Qx "java/lang/IllegalArgumentException") 1 6 := by
  refine MetX.ofW (cc := cS_put) (maxL := 5) (ret := (some .boolean)) (by decide) rfl ?_
  intro p e s m args below meth c s₁ B hml htab hv
  obtain ⟨rfl, hP, hKK, hX⟩ := hv
  have hK := hKK.1
  have hx := B.exec
  have hb := B.bytes
  have hr := B.returns
  have hw : ∀ w ∈ wsA, w.before _ s = true := fun w h => atoms_spec (ws := (Cond.code yS_put cS_put 5 (some .boolean) :: wsA)) B.pre w (List.mem_cons_of_mem _ h)
  have hown : s.vm.findClass "LoggedStore" = some m.cls := findClass_of_methodNamed B.named
  have hlocks := B.notSynchronized
  have hl := lv_entry ([.ref x, .int t9, .int k9, .int n9]) (n := 5) (Nat.le_of_ble_eq_true rfl)
  rw [lg_entry_eq]
  generalize (lg_sl ([.ref x, .int t9, .int k9, .int n9]) ++ List.replicate (5 - (lg_sl ([.ref x, .int t9, .int k9, .int n9])).length) Slot.unset).toArray = ls at hl ⊢
  have hl : lv_has ls 5 [(0, .ref x), (1, .int t9), (2, .int k9), (3, .int n9)] := hl
  refine lv_aload_n hx hb dS_put_0 rfl (lv_at hl 0 rfl) ?_
  have hPc := hP.sub (ws' := [(x, .inr (3, [.ref d, .ref tb, .ref wa, .ref ts, .int 0, .int 1, .int 0, .int 22])), (d, .inr (0, [.ref w, .int (-1), .int 0, .int 0]))]) [0, 5] rfl
  refine va_csv (W.runV (C := "LoggedStore") (b := x) (As := []) (rest := []) ⟨hx, hb, hml, hown, hw⟩ (c_requireUp l dC dI cI cZ cJ cT x d w tb wa ts) ⟨callB_of 0 hw (gA0 w292) rfl rfl rfl (hw _ w40) (hw _ w289) (by decide +kernel) ⟨Nat.le_of_ble_eq_true rfl, Nat.le_of_ble_eq_true rfl⟩, (hw _ w291), (hw _ w10)⟩ ⟨kb_S, va_recv (ci := 3) (q0 := 0) hK hP rfl rfl, fun U hU hW => ⟨rfl, by rw [hU]; exact hPc, hKK.moved hW⟩⟩ rfl rfl hl.1 rfl (lv_room (Nat.le_of_ble_eq_true rfl)) dS_put_1 ⟨Nat.le_of_ble_eq_true rfl, Nat.le_of_ble_eq_true rfl⟩) (fun _ => ?_)
  refine lv_aload_n hx hb dS_put_4 rfl (lv_at hl 0 rfl) ?_
  refine lv_iload_n hx hb dS_put_5 rfl (lv_at hl 1 rfl) ?_
  refine lv_iload_n hx hb dS_put_6 rfl (lv_at hl 2 rfl) ?_
  have hPc := hP.sub (ws' := [(x, .inr (3, [.ref d, .ref tb, .ref wa, .ref ts, .int 0, .int 1, .int 0, .int 22])), (ts, .inl (cT, 3, .inr (.inr (.inr (.inr (tF t0 t1 t2)))))), (t0, .inr (2, [.ref v0, .ref vw0, .int 0, .int 0, .int 0])), (t1, .inr (2, [.ref v1, .ref vw1, .int 0, .int 0, .int 0])), (t2, .inr (2, [.ref v2, .ref vw2, .int 0, .int 0, .int 0]))]) [0, 1, 2, 3, 4] rfl
  exact tx_out (tx_runV (C := "LoggedStore") (b := x) (As := [.int t9, .int k9]) (rest := []) ⟨hx, hb, hml, hown, hw⟩ (c_viewFor_x l dC dI cI cZ cJ cT hl9 x d w tb wa ts t0 v0 vw0 t1 v1 vw1 t2 v2 vw2 t9 k9) ⟨callB_of 2 hw (gA0 w417) rfl rfl rfl (hw _ w40) (hw _ w414) (by decide +kernel) ⟨Nat.le_of_ble_eq_true rfl, Nat.le_of_ble_eq_true rfl⟩, (hw _ w416), (hw _ w12)⟩ ⟨kb_X, va_recv (ci := 3) (q0 := 0) hK hP rfl rfl, fun U hU hW => ⟨rfl, by rw [hU]; exact hPc, hKK.moved hW, hX.moved hW (by rw [hU]; exact fun _ _ h _ => h)⟩⟩ rfl rfl hl.1 rfl (lv_room (Nat.le_of_ble_eq_true rfl)) dS_put_7 ⟨Nat.le_of_ble_eq_true rfl, Nat.le_of_ble_eq_true rfl⟩) htab hlocks

set_option maxHeartbeats 4000000 in
set_option maxRecDepth 100000 in
theorem c_remove_x (l : Launch) (dC : Nat → ClassId) (dI : Nat → Nat → Nat) (cI cZ cJ cT : ClassId) (hl9 : l.stackTraces = false) (x d w tb wa ts : Nat) (t0 v0 vw0 t1 v1 vw1 t2 v2 vw2 : Nat) (t9 : Int32) (k9 : Int32) : MetX l yS_remove (Cond.code yS_remove cS_remove 3 none :: wsA) ({ frames := 9, cells := 1, slots := 6, locals := 145 }) (va_Pc [.ref x, .int t9, .int k9] (fun U => va_P (dC, dI) vwC [(x, .inr (3, [.ref d, .ref tb, .ref wa, .ref ts, .int 0, .int 1, .int 0, .int 22])), (ts, .inl (cT, 3, .inr (.inr (.inr (.inr (tF t0 t1 t2)))))), (t0, .inr (2, [.ref v0, .ref vw0, .int 0, .int 0, .int 0])), (t1, .inr (2, [.ref v1, .ref vw1, .int 0, .int 0, .int 0])), (t2, .inr (2, [.ref v2, .ref vw2, .int 0, .int 0, .int 0])), (d, .inr (0, [.ref w, .int (-1), .int 0, .int 0]))] U.heap ∧ KK dC dI cI cZ cJ cT U ∧ KS U)) (tx_Qx "java/lang/IllegalArgumentException") 1 6 := by
  refine MetX.ofW (cc := cS_remove) (maxL := 3) (ret := none) (by decide) rfl ?_
  intro p e s m args below meth c s₁ B hml htab hv
  obtain ⟨rfl, hP, hKK, hX⟩ := hv
  have hK := hKK.1
  have hx := B.exec
  have hb := B.bytes
  have hr := B.returns
  have hw : ∀ w ∈ wsA, w.before _ s = true := fun w h => atoms_spec (ws := (Cond.code yS_remove cS_remove 3 none :: wsA)) B.pre w (List.mem_cons_of_mem _ h)
  have hown : s.vm.findClass "LoggedStore" = some m.cls := findClass_of_methodNamed B.named
  have hlocks := B.notSynchronized
  have hl := lv_entry ([.ref x, .int t9, .int k9]) (n := 3) (Nat.le_of_ble_eq_true rfl)
  rw [lg_entry_eq]
  generalize (lg_sl ([.ref x, .int t9, .int k9]) ++ List.replicate (3 - (lg_sl ([.ref x, .int t9, .int k9])).length) Slot.unset).toArray = ls at hl ⊢
  have hl : lv_has ls 3 [(0, .ref x), (1, .int t9), (2, .int k9)] := hl
  refine lv_aload_n hx hb dS_remove_0 rfl (lv_at hl 0 rfl) ?_
  have hPc := hP.sub (ws' := [(x, .inr (3, [.ref d, .ref tb, .ref wa, .ref ts, .int 0, .int 1, .int 0, .int 22])), (d, .inr (0, [.ref w, .int (-1), .int 0, .int 0]))]) [0, 5] rfl
  refine va_csv (W.runV (C := "LoggedStore") (b := x) (As := []) (rest := []) ⟨hx, hb, hml, hown, hw⟩ (c_requireUp l dC dI cI cZ cJ cT x d w tb wa ts) ⟨callB_of 0 hw (gA0 w292) rfl rfl rfl (hw _ w40) (hw _ w289) (by decide +kernel) ⟨Nat.le_of_ble_eq_true rfl, Nat.le_of_ble_eq_true rfl⟩, (hw _ w291), (hw _ w10)⟩ ⟨kb_S, va_recv (ci := 3) (q0 := 0) hK hP rfl rfl, fun U hU hW => ⟨rfl, by rw [hU]; exact hPc, hKK.moved hW⟩⟩ rfl rfl hl.1 rfl (lv_room (Nat.le_of_ble_eq_true rfl)) dS_remove_1 ⟨Nat.le_of_ble_eq_true rfl, Nat.le_of_ble_eq_true rfl⟩) (fun _ => ?_)
  refine lv_aload_n hx hb dS_remove_4 rfl (lv_at hl 0 rfl) ?_
  refine lv_iload_n hx hb dS_remove_5 rfl (lv_at hl 1 rfl) ?_
  refine lv_iload_n hx hb dS_remove_6 rfl (lv_at hl 2 rfl) ?_
  have hPc := hP.sub (ws' := [(x, .inr (3, [.ref d, .ref tb, .ref wa, .ref ts, .int 0, .int 1, .int 0, .int 22])), (ts, .inl (cT, 3, .inr (.inr (.inr (.inr (tF t0 t1 t2)))))), (t0, .inr (2, [.ref v0, .ref vw0, .int 0, .int 0, .int 0])), (t1, .inr (2, [.ref v1, .ref vw1, .int 0, .int 0, .int 0])), (t2, .inr (2, [.ref v2, .ref vw2, .int 0, .int 0, .int 0]))]) [0, 1, 2, 3, 4] rfl
  exact tx_out (tx_runV (C := "LoggedStore") (b := x) (As := [.int t9, .int k9]) (rest := []) ⟨hx, hb, hml, hown, hw⟩ (c_viewFor_x l dC dI cI cZ cJ cT hl9 x d w tb wa ts t0 v0 vw0 t1 v1 vw1 t2 v2 vw2 t9 k9) ⟨callB_of 2 hw (gA0 w417) rfl rfl rfl (hw _ w40) (hw _ w414) (by decide +kernel) ⟨Nat.le_of_ble_eq_true rfl, Nat.le_of_ble_eq_true rfl⟩, (hw _ w416), (hw _ w12)⟩ ⟨kb_X, va_recv (ci := 3) (q0 := 0) hK hP rfl rfl, fun U hU hW => ⟨rfl, by rw [hU]; exact hPc, hKK.moved hW, hX.moved hW (by rw [hU]; exact fun _ _ h _ => h)⟩⟩ rfl rfl hl.1 rfl (lv_room (Nat.le_of_ble_eq_true rfl)) dS_remove_7 ⟨Nat.le_of_ble_eq_true rfl, Nat.le_of_ble_eq_true rfl⟩) htab hlocks

set_option maxHeartbeats 4000000 in
set_option maxRecDepth 100000 in
theorem c_next_x (l : Launch) (dC : Nat → ClassId) (dI : Nat → Nat → Nat) (cI cZ cJ cT : ClassId) (hl9 : l.stackTraces = false) (x d w tb wa ts : Nat) (t0 v0 vw0 t1 v1 vw1 t2 v2 vw2 : Nat) (t9 : Int32) (k9 : Int32) : MetX l yS_next (Cond.code yS_next cS_next 3 (some .int) :: wsA) ({ frames := 9, cells := 1, slots := 6, locals := 145 }) (va_Pc [.ref x, .int t9, .int k9] (fun U => va_P (dC, dI) vwC [(x, .inr (3, [.ref d, .ref tb, .ref wa, .ref ts, .int 0, .int 1, .int 0, .int 22])), (ts, .inl (cT, 3, .inr (.inr (.inr (.inr (tF t0 t1 t2)))))), (t0, .inr (2, [.ref v0, .ref vw0, .int 0, .int 0, .int 0])), (t1, .inr (2, [.ref v1, .ref vw1, .int 0, .int 0, .int 0])), (t2, .inr (2, [.ref v2, .ref vw2, .int 0, .int 0, .int 0])), (d, .inr (0, [.ref w, .int (-1), .int 0, .int 0]))] U.heap ∧ KK dC dI cI cZ cJ cT U ∧ KS U)) (tx_Qx "java/lang/IllegalArgumentException") 1 6 := by
  refine MetX.ofW (cc := cS_next) (maxL := 3) (ret := (some .int)) (by decide) rfl ?_
  intro p e s m args below meth c s₁ B hml htab hv
  obtain ⟨rfl, hP, hKK, hX⟩ := hv
  have hK := hKK.1
  have hx := B.exec
  have hb := B.bytes
  have hr := B.returns
  have hw : ∀ w ∈ wsA, w.before _ s = true := fun w h => atoms_spec (ws := (Cond.code yS_next cS_next 3 (some .int) :: wsA)) B.pre w (List.mem_cons_of_mem _ h)
  have hown : s.vm.findClass "LoggedStore" = some m.cls := findClass_of_methodNamed B.named
  have hlocks := B.notSynchronized
  have hl := lv_entry ([.ref x, .int t9, .int k9]) (n := 3) (Nat.le_of_ble_eq_true rfl)
  rw [lg_entry_eq]
  generalize (lg_sl ([.ref x, .int t9, .int k9]) ++ List.replicate (3 - (lg_sl ([.ref x, .int t9, .int k9])).length) Slot.unset).toArray = ls at hl ⊢
  have hl : lv_has ls 3 [(0, .ref x), (1, .int t9), (2, .int k9)] := hl
  refine lv_aload_n hx hb dS_next_0 rfl (lv_at hl 0 rfl) ?_
  have hPc := hP.sub (ws' := [(x, .inr (3, [.ref d, .ref tb, .ref wa, .ref ts, .int 0, .int 1, .int 0, .int 22])), (d, .inr (0, [.ref w, .int (-1), .int 0, .int 0]))]) [0, 5] rfl
  refine va_csv (W.runV (C := "LoggedStore") (b := x) (As := []) (rest := []) ⟨hx, hb, hml, hown, hw⟩ (c_requireUp l dC dI cI cZ cJ cT x d w tb wa ts) ⟨callB_of 0 hw (gA0 w292) rfl rfl rfl (hw _ w40) (hw _ w289) (by decide +kernel) ⟨Nat.le_of_ble_eq_true rfl, Nat.le_of_ble_eq_true rfl⟩, (hw _ w291), (hw _ w10)⟩ ⟨kb_S, va_recv (ci := 3) (q0 := 0) hK hP rfl rfl, fun U hU hW => ⟨rfl, by rw [hU]; exact hPc, hKK.moved hW⟩⟩ rfl rfl hl.1 rfl (lv_room (Nat.le_of_ble_eq_true rfl)) dS_next_1 ⟨Nat.le_of_ble_eq_true rfl, Nat.le_of_ble_eq_true rfl⟩) (fun _ => ?_)
  refine lv_aload_n hx hb dS_next_4 rfl (lv_at hl 0 rfl) ?_
  refine lv_iload_n hx hb dS_next_5 rfl (lv_at hl 1 rfl) ?_
  refine lv_iload_n hx hb dS_next_6 rfl (lv_at hl 2 rfl) ?_
  have hPc := hP.sub (ws' := [(x, .inr (3, [.ref d, .ref tb, .ref wa, .ref ts, .int 0, .int 1, .int 0, .int 22])), (ts, .inl (cT, 3, .inr (.inr (.inr (.inr (tF t0 t1 t2)))))), (t0, .inr (2, [.ref v0, .ref vw0, .int 0, .int 0, .int 0])), (t1, .inr (2, [.ref v1, .ref vw1, .int 0, .int 0, .int 0])), (t2, .inr (2, [.ref v2, .ref vw2, .int 0, .int 0, .int 0]))]) [0, 1, 2, 3, 4] rfl
  exact tx_out (tx_runV (C := "LoggedStore") (b := x) (As := [.int t9, .int k9]) (rest := []) ⟨hx, hb, hml, hown, hw⟩ (c_viewFor_x l dC dI cI cZ cJ cT hl9 x d w tb wa ts t0 v0 vw0 t1 v1 vw1 t2 v2 vw2 t9 k9) ⟨callB_of 2 hw (gA0 w417) rfl rfl rfl (hw _ w40) (hw _ w414) (by decide +kernel) ⟨Nat.le_of_ble_eq_true rfl, Nat.le_of_ble_eq_true rfl⟩, (hw _ w416), (hw _ w12)⟩ ⟨kb_X, va_recv (ci := 3) (q0 := 0) hK hP rfl rfl, fun U hU hW => ⟨rfl, by rw [hU]; exact hPc, hKK.moved hW, hX.moved hW (by rw [hU]; exact fun _ _ h _ => h)⟩⟩ rfl rfl hl.1 rfl (lv_room (Nat.le_of_ble_eq_true rfl)) dS_next_7 ⟨Nat.le_of_ble_eq_true rfl, Nat.le_of_ble_eq_true rfl⟩) htab hlocks

set_option maxHeartbeats 4000000 in
set_option maxRecDepth 100000 in
theorem c_drop_x (l : Launch) (dC : Nat → ClassId) (dI : Nat → Nat → Nat) (cI cZ cJ cT : ClassId) (hl9 : l.stackTraces = false) (x d w tb wa ts : Nat) (t0 v0 vw0 t1 v1 vw1 t2 v2 vw2 : Nat) (t9 : Int32) : MetX l yS_drop (Cond.code yS_drop cS_drop 3 (some .int) :: wsA) ({ frames := 8, cells := 1, slots := 6, locals := 123 }) (va_Pc [.ref x, .int t9] (fun U => va_P (dC, dI) vwC [(x, .inr (3, [.ref d, .ref tb, .ref wa, .ref ts, .int 0, .int 1, .int 0, .int 22])), (ts, .inl (cT, 3, .inr (.inr (.inr (.inr (tF t0 t1 t2)))))), (t0, .inr (2, [.ref v0, .ref vw0, .int 0, .int 0, .int 0])), (t1, .inr (2, [.ref v1, .ref vw1, .int 0, .int 0, .int 0])), (t2, .inr (2, [.ref v2, .ref vw2, .int 0, .int 0, .int 0])), (d, .inr (0, [.ref w, .int (-1), .int 0, .int 0]))] U.heap ∧ KK dC dI cI cZ cJ cT U ∧ KS U)) (tx_Qx "java/lang/IllegalArgumentException") 1 6 := by
  refine MetX.ofW (cc := cS_drop) (maxL := 3) (ret := (some .int)) (by decide) rfl ?_
  intro p e s m args below meth c s₁ B hml htab hv
  obtain ⟨rfl, hP, hKK, hX⟩ := hv
  have hK := hKK.1
  have hx := B.exec
  have hb := B.bytes
  have hr := B.returns
  have hw : ∀ w ∈ wsA, w.before _ s = true := fun w h => atoms_spec (ws := (Cond.code yS_drop cS_drop 3 (some .int) :: wsA)) B.pre w (List.mem_cons_of_mem _ h)
  have hown : s.vm.findClass "LoggedStore" = some m.cls := findClass_of_methodNamed B.named
  have hlocks := B.notSynchronized
  have hl := lv_entry ([.ref x, .int t9]) (n := 3) (Nat.le_of_ble_eq_true rfl)
  rw [lg_entry_eq]
  generalize (lg_sl ([.ref x, .int t9]) ++ List.replicate (3 - (lg_sl ([.ref x, .int t9])).length) Slot.unset).toArray = ls at hl ⊢
  have hl : lv_has ls 3 [(0, .ref x), (1, .int t9)] := hl
  refine lv_aload_n hx hb dS_drop_0 rfl (lv_at hl 0 rfl) ?_
  have hPc := hP.sub (ws' := [(x, .inr (3, [.ref d, .ref tb, .ref wa, .ref ts, .int 0, .int 1, .int 0, .int 22])), (d, .inr (0, [.ref w, .int (-1), .int 0, .int 0]))]) [0, 5] rfl
  refine va_csv (W.runV (C := "LoggedStore") (b := x) (As := []) (rest := []) ⟨hx, hb, hml, hown, hw⟩ (c_requireUp l dC dI cI cZ cJ cT x d w tb wa ts) ⟨callB_of 0 hw (gA0 w292) rfl rfl rfl (hw _ w40) (hw _ w289) (by decide +kernel) ⟨Nat.le_of_ble_eq_true rfl, Nat.le_of_ble_eq_true rfl⟩, (hw _ w291), (hw _ w10)⟩ ⟨kb_S, va_recv (ci := 3) (q0 := 0) hK hP rfl rfl, fun U hU hW => ⟨rfl, by rw [hU]; exact hPc, hKK.moved hW⟩⟩ rfl rfl hl.1 rfl (lv_room (Nat.le_of_ble_eq_true rfl)) dS_drop_1 ⟨Nat.le_of_ble_eq_true rfl, Nat.le_of_ble_eq_true rfl⟩) (fun _ => ?_)
  refine lv_aload_n hx hb dS_drop_4 rfl (lv_at hl 0 rfl) ?_
  refine lv_iload_n hx hb dS_drop_5 rfl (lv_at hl 1 rfl) ?_
  have hPc := hP.sub (ws' := [(x, .inr (3, [.ref d, .ref tb, .ref wa, .ref ts, .int 0, .int 1, .int 0, .int 22])), (ts, .inl (cT, 3, .inr (.inr (.inr (.inr (tF t0 t1 t2)))))), (t0, .inr (2, [.ref v0, .ref vw0, .int 0, .int 0, .int 0])), (t1, .inr (2, [.ref v1, .ref vw1, .int 0, .int 0, .int 0])), (t2, .inr (2, [.ref v2, .ref vw2, .int 0, .int 0, .int 0]))]) [0, 1, 2, 3, 4] rfl
  exact tx_out (tx_runV (C := "LoggedStore") (b := x) (As := [.int t9]) (rest := []) ⟨hx, hb, hml, hown, hw⟩ (c_rO_x l dC dI cI cZ cJ cT hl9 x d w tb wa ts t0 v0 vw0 t1 v1 vw1 t2 v2 vw2 t9) ⟨callB_of 1 hw (gA0 w421) rfl rfl rfl (hw _ w40) (hw _ w418) (by decide +kernel) ⟨Nat.le_of_ble_eq_true rfl, Nat.le_of_ble_eq_true rfl⟩, (hw _ w420), (hw _ w13)⟩ ⟨kb_X, va_recv (ci := 3) (q0 := 0) hK hP rfl rfl, fun U hU hW => ⟨rfl, by rw [hU]; exact hPc, hKK.moved hW, hX.moved hW (by rw [hU]; exact fun _ _ h _ => h)⟩⟩ rfl rfl hl.1 rfl (lv_room (Nat.le_of_ble_eq_true rfl)) dS_drop_6 ⟨Nat.le_of_ble_eq_true rfl, Nat.le_of_ble_eq_true rfl⟩) htab hlocks

set_option maxHeartbeats 4000000 in
set_option maxRecDepth 100000 in
theorem c_commit_x (l : Launch) (dC : Nat → ClassId) (dI : Nat → Nat → Nat) (cI cZ cJ cT : ClassId) (hl9 : l.stackTraces = false) (x d w tb wa ts : Nat) (t0 v0 vw0 t1 v1 vw1 t2 v2 vw2 : Nat) (t9 : Int32) : MetX l yS_commit (Cond.code yS_commit cS_commit 3 (some .int) :: wsA) ({ frames := 8, cells := 1, slots := 6, locals := 123 }) (va_Pc [.ref x, .int t9] (fun U => va_P (dC, dI) vwC [(x, .inr (3, [.ref d, .ref tb, .ref wa, .ref ts, .int 0, .int 1, .int 0, .int 22])), (ts, .inl (cT, 3, .inr (.inr (.inr (.inr (tF t0 t1 t2)))))), (t0, .inr (2, [.ref v0, .ref vw0, .int 0, .int 0, .int 0])), (t1, .inr (2, [.ref v1, .ref vw1, .int 0, .int 0, .int 0])), (t2, .inr (2, [.ref v2, .ref vw2, .int 0, .int 0, .int 0])), (d, .inr (0, [.ref w, .int (-1), .int 0, .int 0]))] U.heap ∧ KK dC dI cI cZ cJ cT U ∧ KS U)) (tx_Qx "java/lang/IllegalArgumentException") 1 6 := by
  refine MetX.ofW (cc := cS_commit) (maxL := 3) (ret := (some .int)) (by decide) rfl ?_
  intro p e s m args below meth c s₁ B hml htab hv
  obtain ⟨rfl, hP, hKK, hX⟩ := hv
  have hK := hKK.1
  have hx := B.exec
  have hb := B.bytes
  have hr := B.returns
  have hw : ∀ w ∈ wsA, w.before _ s = true := fun w h => atoms_spec (ws := (Cond.code yS_commit cS_commit 3 (some .int) :: wsA)) B.pre w (List.mem_cons_of_mem _ h)
  have hown : s.vm.findClass "LoggedStore" = some m.cls := findClass_of_methodNamed B.named
  have hlocks := B.notSynchronized
  have hl := lv_entry ([.ref x, .int t9]) (n := 3) (Nat.le_of_ble_eq_true rfl)
  rw [lg_entry_eq]
  generalize (lg_sl ([.ref x, .int t9]) ++ List.replicate (3 - (lg_sl ([.ref x, .int t9])).length) Slot.unset).toArray = ls at hl ⊢
  have hl : lv_has ls 3 [(0, .ref x), (1, .int t9)] := hl
  refine lv_aload_n hx hb dS_commit_0 rfl (lv_at hl 0 rfl) ?_
  have hPc := hP.sub (ws' := [(x, .inr (3, [.ref d, .ref tb, .ref wa, .ref ts, .int 0, .int 1, .int 0, .int 22])), (d, .inr (0, [.ref w, .int (-1), .int 0, .int 0]))]) [0, 5] rfl
  refine va_csv (W.runV (C := "LoggedStore") (b := x) (As := []) (rest := []) ⟨hx, hb, hml, hown, hw⟩ (c_requireUp l dC dI cI cZ cJ cT x d w tb wa ts) ⟨callB_of 0 hw (gA0 w292) rfl rfl rfl (hw _ w40) (hw _ w289) (by decide +kernel) ⟨Nat.le_of_ble_eq_true rfl, Nat.le_of_ble_eq_true rfl⟩, (hw _ w291), (hw _ w10)⟩ ⟨kb_S, va_recv (ci := 3) (q0 := 0) hK hP rfl rfl, fun U hU hW => ⟨rfl, by rw [hU]; exact hPc, hKK.moved hW⟩⟩ rfl rfl hl.1 rfl (lv_room (Nat.le_of_ble_eq_true rfl)) dS_commit_1 ⟨Nat.le_of_ble_eq_true rfl, Nat.le_of_ble_eq_true rfl⟩) (fun _ => ?_)
  refine lv_aload_n hx hb dS_commit_4 rfl (lv_at hl 0 rfl) ?_
  refine lv_iload_n hx hb dS_commit_5 rfl (lv_at hl 1 rfl) ?_
  have hPc := hP.sub (ws' := [(x, .inr (3, [.ref d, .ref tb, .ref wa, .ref ts, .int 0, .int 1, .int 0, .int 22])), (ts, .inl (cT, 3, .inr (.inr (.inr (.inr (tF t0 t1 t2)))))), (t0, .inr (2, [.ref v0, .ref vw0, .int 0, .int 0, .int 0])), (t1, .inr (2, [.ref v1, .ref vw1, .int 0, .int 0, .int 0])), (t2, .inr (2, [.ref v2, .ref vw2, .int 0, .int 0, .int 0]))]) [0, 1, 2, 3, 4] rfl
  exact tx_out (tx_runV (C := "LoggedStore") (b := x) (As := [.int t9]) (rest := []) ⟨hx, hb, hml, hown, hw⟩ (c_rO_x l dC dI cI cZ cJ cT hl9 x d w tb wa ts t0 v0 vw0 t1 v1 vw1 t2 v2 vw2 t9) ⟨callB_of 1 hw (gA0 w421) rfl rfl rfl (hw _ w40) (hw _ w418) (by decide +kernel) ⟨Nat.le_of_ble_eq_true rfl, Nat.le_of_ble_eq_true rfl⟩, (hw _ w420), (hw _ w13)⟩ ⟨kb_X, va_recv (ci := 3) (q0 := 0) hK hP rfl rfl, fun U hU hW => ⟨rfl, by rw [hU]; exact hPc, hKK.moved hW, hX.moved hW (by rw [hU]; exact fun _ _ h _ => h)⟩⟩ rfl rfl hl.1 rfl (lv_room (Nat.le_of_ble_eq_true rfl)) dS_commit_6 ⟨Nat.le_of_ble_eq_true rfl, Nat.le_of_ble_eq_true rfl⟩) htab hlocks

set_option maxHeartbeats 4000000 in
set_option maxRecDepth 100000 in
theorem c_begin_x (l : Launch) (dC : Nat → ClassId) (dI : Nat → Nat → Nat) (cI cZ cJ cT : ClassId) (hl9 : l.stackTraces = false) (x d w tb wa ts : Nat) (t9 : Int32) (hb9 : t9 < 0 ∨ (¬ t9 < 0 ∧ ¬ t9 < 3)) : MetX l yS_begin (Cond.code yS_begin cS_begin 2 (some .int) :: wsA) ({ frames := 7, cells := 1, slots := 6, locals := 102 }) (va_Pc [.ref x, .int t9] (fun U => va_P (dC, dI) vwC [(x, .inr (3, [.ref d, .ref tb, .ref wa, .ref ts, .int 0, .int 1, .int 0, .int 22])), (d, .inr (0, [.ref w, .int (-1), .int 0, .int 0]))] U.heap ∧ KK dC dI cI cZ cJ cT U ∧ KS U)) (tx_Qx "java/lang/IllegalArgumentException") 1 6 := by
  refine MetX.ofW (cc := cS_begin) (maxL := 2) (ret := (some .int)) (by decide) rfl ?_
  intro p e s m args below meth c s₁ B hml htab hv
  obtain ⟨rfl, hP, hKK, hX⟩ := hv
  have hK := hKK.1
  have hx := B.exec
  have hb := B.bytes
  have hr := B.returns
  have hw : ∀ w ∈ wsA, w.before _ s = true := fun w h => atoms_spec (ws := (Cond.code yS_begin cS_begin 2 (some .int) :: wsA)) B.pre w (List.mem_cons_of_mem _ h)
  have hown : s.vm.findClass "LoggedStore" = some m.cls := findClass_of_methodNamed B.named
  have hlocks := B.notSynchronized
  have hl := lv_entry ([.ref x, .int t9]) (n := 2) (Nat.le_of_ble_eq_true rfl)
  rw [lg_entry_eq]
  generalize (lg_sl ([.ref x, .int t9]) ++ List.replicate (2 - (lg_sl ([.ref x, .int t9])).length) Slot.unset).toArray = ls at hl ⊢
  have hl : lv_has ls 2 [(0, .ref x), (1, .int t9)] := hl
  refine lv_aload_n hx hb dS_begin_0 rfl (lv_at hl 0 rfl) ?_
  have hPc := hP.sub (ws' := [(x, .inr (3, [.ref d, .ref tb, .ref wa, .ref ts, .int 0, .int 1, .int 0, .int 22])), (d, .inr (0, [.ref w, .int (-1), .int 0, .int 0]))]) [0, 1] rfl
  refine va_csv (W.runV (C := "LoggedStore") (b := x) (As := []) (rest := []) ⟨hx, hb, hml, hown, hw⟩ (c_requireUp l dC dI cI cZ cJ cT x d w tb wa ts) ⟨callB_of 0 hw (gA0 w292) rfl rfl rfl (hw _ w40) (hw _ w289) (by decide +kernel) ⟨Nat.le_of_ble_eq_true rfl, Nat.le_of_ble_eq_true rfl⟩, (hw _ w291), (hw _ w10)⟩ ⟨kb_S, va_recv (ci := 3) (q0 := 0) hK hP rfl rfl, fun U hU hW => ⟨rfl, by rw [hU]; exact hPc, hKK.moved hW⟩⟩ rfl rfl hl.1 rfl (lv_room (Nat.le_of_ble_eq_true rfl)) dS_begin_1 ⟨Nat.le_of_ble_eq_true rfl, Nat.le_of_ble_eq_true rfl⟩) (fun _ => ?_)
  refine lv_iload_n hx hb dS_begin_4 rfl (lv_at hl 1 rfl) ?_
  have hPc := hP.sub (ws' := []) [] rfl
  exact tx_out (tx_runS (As := [.int t9]) (rest := []) ⟨hx, hb, hml, hown, hw⟩ (c_rT_x l dC dI cI cZ cJ cT hl9 t9 hb9) ⟨callB_of 1 hw (gA0 w365) rfl rfl rfl (hw _ w40) (hw _ w363) (by decide +kernel) ⟨Nat.le_of_ble_eq_true rfl, Nat.le_of_ble_eq_true rfl⟩, (hw _ w364)⟩ ⟨kb_X, fun U hU hW => ⟨rfl, by rw [hU]; exact hPc, hKK.moved hW, hX.moved hW (by rw [hU]; exact fun _ _ h _ => h)⟩⟩ rfl rfl hl.1 rfl (lv_room (Nat.le_of_ble_eq_true rfl)) dS_begin_5 ⟨Nat.le_of_ble_eq_true rfl, Nat.le_of_ble_eq_true rfl⟩) htab hlocks

set_option maxHeartbeats 4000000 in
set_option maxRecDepth 100000 in
theorem c_isKey_x (l : Launch) (dC : Nat → ClassId) (dI : Nat → Nat → Nat) (cI cZ cJ cT : ClassId) (k9 : Int32) (hb9 : k9 < 0 ∨ (¬ k9 < 0 ∧ ¬ k9 < 64)) : Met l yS_isKey (Cond.code yS_isKey cS_isKey 1 (some .boolean) :: wsA) ({ frames := 0, cells := 0, slots := 0, locals := 0 }) (va_Pc [.int k9] (fun U => va_P (dC, dI) vwC [] U.heap ∧ KK dC dI cI cZ cJ cT U)) (vp_Si (fun r => r = 0)) 0 0 (fun _ => False) := by
  refine Met.ofW (cc := cS_isKey) (maxL := 1) (ret := (some .boolean)) (by decide) rfl ?_
  intro p e s m args below meth c s₁ B hml hv
  obtain ⟨rfl, hP, hKK⟩ := hv
  rcases hb9 with h1 | ⟨h1, h2⟩
  · have hK := hKK.1
    have hx := B.exec
    have hb := B.bytes
    have hr := B.returns
    have hw : ∀ w ∈ wsA, w.before _ s = true := fun w h => atoms_spec (ws := (Cond.code yS_isKey cS_isKey 1 (some .boolean) :: wsA)) B.pre w (List.mem_cons_of_mem _ h)
    have hown : s.vm.findClass "LoggedStore" = some m.cls := findClass_of_methodNamed B.named
    have hlocks := B.notSynchronized
    have hl := lv_entry ([.int k9]) (n := 1) (Nat.le_of_ble_eq_true rfl)
    rw [lg_entry_eq]
    generalize (lg_sl ([.int k9]) ++ List.replicate (1 - (lg_sl ([.int k9])).length) Slot.unset).toArray = ls at hl ⊢
    have hl : lv_has ls 1 [(0, .int k9)] := hl
    refine lv_iload_n hx hb dS_isKey_0 rfl (lv_at hl 0 rfl) ?_
    refine lv_if_lt (tgt := 14) hx hb dS_isKey_1 (by decide) (fun _ => ?_) (fun h9 => absurd (h1) h9)
    refine lv_iconst (v := 0) hx hb dS_isKey_14 (by decide) ?_
    exact W.zret (v := 0) (ty := .boolean) hx hb hr (by decide) (fun t ht hW => ⟨0, rfl, rfl, ht⟩) (fun q h => by cases h) dS_isKey_15
  · have hK := hKK.1
    have hx := B.exec
    have hb := B.bytes
    have hr := B.returns
    have hw : ∀ w ∈ wsA, w.before _ s = true := fun w h => atoms_spec (ws := (Cond.code yS_isKey cS_isKey 1 (some .boolean) :: wsA)) B.pre w (List.mem_cons_of_mem _ h)
    have hown : s.vm.findClass "LoggedStore" = some m.cls := findClass_of_methodNamed B.named
    have hlocks := B.notSynchronized
    have hl := lv_entry ([.int k9]) (n := 1) (Nat.le_of_ble_eq_true rfl)
    rw [lg_entry_eq]
    generalize (lg_sl ([.int k9]) ++ List.replicate (1 - (lg_sl ([.int k9])).length) Slot.unset).toArray = ls at hl ⊢
    have hl : lv_has ls 1 [(0, .int k9)] := hl
    refine lv_iload_n hx hb dS_isKey_0 rfl (lv_at hl 0 rfl) ?_
    refine lv_if_lt (tgt := 14) hx hb dS_isKey_1 (by decide) (fun h9 => absurd h9 (h1)) (fun _ => ?_)
    refine lv_iload_n hx hb dS_isKey_4 rfl (lv_at hl 0 rfl) ?_
    refine lv_bipush (v := 64) hx hb dS_isKey_5 (by decide) ?_
    refine lv_icmp_ge (tgt := 14) hx hb dS_isKey_7 (by decide) (fun _ => ?_) (fun h9 => absurd (Int32.not_lt.mp h2) h9)
    refine lv_iconst (v := 0) hx hb dS_isKey_14 (by decide) ?_
    exact W.zret (v := 0) (ty := .boolean) hx hb hr (by decide) (fun t ht hW => ⟨0, rfl, rfl, ht⟩) (fun q h => by cases h) dS_isKey_15

set_option maxHeartbeats 4000000 in
set_option maxRecDepth 100000 in
theorem c_isKey_y (l : Launch) (dC : Nat → ClassId) (dI : Nat → Nat → Nat) (cI cZ cJ cT : ClassId) (j : Nat) (hj : j < 64) : Met l yS_isKey (Cond.code yS_isKey cS_isKey 1 (some .boolean) :: wsA) ({ frames := 0, cells := 0, slots := 0, locals := 0 }) (va_Pc [.int (nI j)] (fun U => va_P (dC, dI) vwC [] U.heap ∧ KK dC dI cI cZ cJ cT U)) (vp_Si (fun r => r = 1)) 0 0 (fun _ => False) := by
  refine Met.ofW (cc := cS_isKey) (maxL := 1) (ret := (some .boolean)) (by decide) rfl ?_
  intro p e s m args below meth c s₁ B hml hv
  obtain ⟨rfl, hP, hKK⟩ := hv
  have hK := hKK.1
  have hx := B.exec
  have hb := B.bytes
  have hr := B.returns
  have hw : ∀ w ∈ wsA, w.before _ s = true := fun w h => atoms_spec (ws := (Cond.code yS_isKey cS_isKey 1 (some .boolean) :: wsA)) B.pre w (List.mem_cons_of_mem _ h)
  have hown : s.vm.findClass "LoggedStore" = some m.cls := findClass_of_methodNamed B.named
  have hlocks := B.notSynchronized
  have hl := lv_entry ([.int (nI j)]) (n := 1) (Nat.le_of_ble_eq_true rfl)
  rw [lg_entry_eq]
  generalize (lg_sl ([.int (nI j)]) ++ List.replicate (1 - (lg_sl ([.int (nI j)])).length) Slot.unset).toArray = ls at hl ⊢
  have hl : lv_has ls 1 [(0, .int (nI j))] := hl
  refine lv_iload_n hx hb dS_isKey_0 rfl (lv_at hl 0 rfl) ?_
  refine lv_if_lt (tgt := 14) hx hb dS_isKey_1 (by decide) (fun h9 => absurd h9 (nI_pos (by omega))) (fun _ => ?_)
  refine lv_iload_n hx hb dS_isKey_4 rfl (lv_at hl 0 rfl) ?_
  refine lv_bipush (v := 64) hx hb dS_isKey_5 (by decide) ?_
  refine lv_icmp_ge (tgt := 14) hx hb dS_isKey_7 (by decide) (fun h9 => absurd h9 (nI_ge hj (by decide))) (fun _ => ?_)
  refine lv_iconst (v := 1) hx hb dS_isKey_10 (by decide) ?_
  refine lv_goto (tgt := 15) hx hb dS_isKey_11 (by decide) ?_
  exact W.zret (v := 1) (ty := .boolean) hx hb hr (by decide) (fun t ht hW => ⟨1, rfl, rfl, ht⟩) (fun q h => by cases h) dS_isKey_15

set_option maxHeartbeats 4000000 in
set_option maxRecDepth 100000 in
theorem c_rK_x (l : Launch) (dC : Nat → ClassId) (dI : Nat → Nat → Nat) (cI cZ cJ cT : ClassId) (hl9 : l.stackTraces = false) (k9 : Int32) (hb9 : k9 < 0 ∨ (¬ k9 < 0 ∧ ¬ k9 < 64)) : MetX l yS_requireKey (Cond.code yS_requireKey cS_requireKey 1 none :: wsA) ({ frames := 6, cells := 1, slots := 6, locals := 82 }) (va_Pc [.int k9] (fun U => va_P (dC, dI) vwC [] U.heap ∧ KK dC dI cI cZ cJ cT U ∧ KS U)) (tx_Qx "java/lang/IllegalArgumentException") 1 6 := by
  refine MetX.ofW (cc := cS_requireKey) (maxL := 1) (ret := none) (by decide) rfl ?_
  intro p e s m args below meth c s₁ B hml htab hv
  obtain ⟨rfl, hP, hKK, hX⟩ := hv
  have hK := hKK.1
  have hx := B.exec
  have hb := B.bytes
  have hr := B.returns
  have hw : ∀ w ∈ wsA, w.before _ s = true := fun w h => atoms_spec (ws := (Cond.code yS_requireKey cS_requireKey 1 none :: wsA)) B.pre w (List.mem_cons_of_mem _ h)
  have hown : s.vm.findClass "LoggedStore" = some m.cls := findClass_of_methodNamed B.named
  have hlocks := B.notSynchronized
  have hl := lv_entry ([.int k9]) (n := 1) (Nat.le_of_ble_eq_true rfl)
  rw [lg_entry_eq]
  generalize (lg_sl ([.int k9]) ++ List.replicate (1 - (lg_sl ([.int k9])).length) Slot.unset).toArray = ls at hl ⊢
  have hl : lv_has ls 1 [(0, .int k9)] := hl
  refine lv_iload_n hx hb dS_requireKey_0 rfl (lv_at hl 0 rfl) ?_
  have hPc := hP.sub (ws' := []) [] rfl
  refine vp_callSi (W.runS (As := [.int k9]) (rest := []) ⟨hx, hb, hml, hown, hw⟩ (c_isKey_x l dC dI cI cZ cJ cT k9 hb9) ⟨callB_of 1 hw (gA0 w247) rfl rfl rfl (hw _ w40) (hw _ w426) (by decide +kernel) ⟨Nat.le_of_ble_eq_true rfl, Nat.le_of_ble_eq_true rfl⟩, (hw _ w246)⟩ ⟨kb_S, fun U hU hW => ⟨rfl, by rw [hU]; exact hPc, hKK.moved hW⟩⟩ rfl rfl hl.1 rfl (lv_room (Nat.le_of_ble_eq_true rfl)) dS_requireKey_1 ⟨Nat.le_of_ble_eq_true rfl, Nat.le_of_ble_eq_true rfl⟩) (fun r1 e2 => ?_)
  obtain rfl : r1 = 0 := e2
  refine lv_if_ne (tgt := 17) hx hb dS_requireKey_4 (by decide) (fun h9 => absurd (by decide) h9) (fun _ => ?_)
  obtain ⟨q9, hZ⟩ := hKK.2.s191
  exact tx_throw (names := ["java/lang/RuntimeException", "java/lang/Exception"]) hx hb hl9 hown (by decide +kernel) (by decide +kernel) hX (hw _ w366) (hw _ w50) hZ (hl.1.trans hml.symm) dS_requireKey_7 dS_requireKey_10 dS_requireKey_11 dS_requireKey_13 dS_requireKey_16 htab (by decide) (by decide) (by decide) (by decide) hlocks

set_option maxHeartbeats 4000000 in
set_option maxRecDepth 100000 in
theorem c_rK_y (l : Launch) (dC : Nat → ClassId) (dI : Nat → Nat → Nat) (cI cZ cJ cT : ClassId) (j : Nat) (hj : j < 64) : Met l yS_requireKey (Cond.code yS_requireKey cS_requireKey 1 none :: wsA) ({ frames := 1, cells := 0, slots := 0, locals := 20 }) (va_Pc [.int (nI j)] (fun U => va_P (dC, dI) vwC [] U.heap ∧ KK dC dI cI cZ cJ cT U)) (va_Sv (fun _ => True)) 0 0 (fun _ => False) := by
  refine Met.ofW (cc := cS_requireKey) (maxL := 1) (ret := none) (by decide) rfl ?_
  intro p e s m args below meth c s₁ B hml hv
  obtain ⟨rfl, hP, hKK⟩ := hv
  have hK := hKK.1
  have hx := B.exec
  have hb := B.bytes
  have hr := B.returns
  have hw : ∀ w ∈ wsA, w.before _ s = true := fun w h => atoms_spec (ws := (Cond.code yS_requireKey cS_requireKey 1 none :: wsA)) B.pre w (List.mem_cons_of_mem _ h)
  have hown : s.vm.findClass "LoggedStore" = some m.cls := findClass_of_methodNamed B.named
  have hlocks := B.notSynchronized
  have hl := lv_entry ([.int (nI j)]) (n := 1) (Nat.le_of_ble_eq_true rfl)
  rw [lg_entry_eq]
  generalize (lg_sl ([.int (nI j)]) ++ List.replicate (1 - (lg_sl ([.int (nI j)])).length) Slot.unset).toArray = ls at hl ⊢
  have hl : lv_has ls 1 [(0, .int (nI j))] := hl
  refine lv_iload_n hx hb dS_requireKey_0 rfl (lv_at hl 0 rfl) ?_
  have hPc := hP.sub (ws' := []) [] rfl
  refine vp_callSi (W.runS (As := [.int (nI j)]) (rest := []) ⟨hx, hb, hml, hown, hw⟩ (c_isKey_y l dC dI cI cZ cJ cT j hj) ⟨callB_of 1 hw (gA0 w247) rfl rfl rfl (hw _ w40) (hw _ w426) (by decide +kernel) ⟨Nat.le_of_ble_eq_true rfl, Nat.le_of_ble_eq_true rfl⟩, (hw _ w246)⟩ ⟨kb_S, fun U hU hW => ⟨rfl, by rw [hU]; exact hPc, hKK.moved hW⟩⟩ rfl rfl hl.1 rfl (lv_room (Nat.le_of_ble_eq_true rfl)) dS_requireKey_1 ⟨Nat.le_of_ble_eq_true rfl, Nat.le_of_ble_eq_true rfl⟩) (fun r1 e2 => ?_)
  obtain rfl : r1 = 1 := e2
  refine lv_if_ne (tgt := 17) hx hb dS_requireKey_4 (by decide) (fun _ => ?_) (fun h9 => absurd h9 (by decide))
  exact W.vret hx hb hr (fun t ht hW => ⟨rfl, trivial, ht⟩) (fun q h => by cases h) dS_requireKey_17

set_option maxHeartbeats 4000000 in
set_option maxRecDepth 100000 in
theorem c_number_x (l : Launch) (dC : Nat → ClassId) (dI : Nat → Nat → Nat) (cI cZ cJ cT : ClassId) (hl9 : l.stackTraces = false) (x d w tb wa ts : Nat) (k9 : Int32) (hb9 : k9 < 0 ∨ (¬ k9 < 0 ∧ ¬ k9 < 64)) : MetX l yS_number (Cond.code yS_number cS_number 2 (some .int) :: wsA) ({ frames := 7, cells := 1, slots := 6, locals := 102 }) (va_Pc [.ref x, .int k9] (fun U => va_P (dC, dI) vwC [(x, .inr (3, [.ref d, .ref tb, .ref wa, .ref ts, .int 0, .int 1, .int 0, .int 22])), (d, .inr (0, [.ref w, .int (-1), .int 0, .int 0]))] U.heap ∧ KK dC dI cI cZ cJ cT U ∧ KS U)) (tx_Qx "java/lang/IllegalArgumentException") 1 6 := by
  refine MetX.ofW (cc := cS_number) (maxL := 2) (ret := (some .int)) (by decide) rfl ?_
  intro p e s m args below meth c s₁ B hml htab hv
  obtain ⟨rfl, hP, hKK, hX⟩ := hv
  have hK := hKK.1
  have hx := B.exec
  have hb := B.bytes
  have hr := B.returns
  have hw : ∀ w ∈ wsA, w.before _ s = true := fun w h => atoms_spec (ws := (Cond.code yS_number cS_number 2 (some .int) :: wsA)) B.pre w (List.mem_cons_of_mem _ h)
  have hown : s.vm.findClass "LoggedStore" = some m.cls := findClass_of_methodNamed B.named
  have hlocks := B.notSynchronized
  have hl := lv_entry ([.ref x, .int k9]) (n := 2) (Nat.le_of_ble_eq_true rfl)
  rw [lg_entry_eq]
  generalize (lg_sl ([.ref x, .int k9]) ++ List.replicate (2 - (lg_sl ([.ref x, .int k9])).length) Slot.unset).toArray = ls at hl ⊢
  have hl : lv_has ls 2 [(0, .ref x), (1, .int k9)] := hl
  refine lv_aload_n hx hb dS_number_0 rfl (lv_at hl 0 rfl) ?_
  have hPc := hP.sub (ws' := [(x, .inr (3, [.ref d, .ref tb, .ref wa, .ref ts, .int 0, .int 1, .int 0, .int 22])), (d, .inr (0, [.ref w, .int (-1), .int 0, .int 0]))]) [0, 1] rfl
  refine va_csv (W.runV (C := "LoggedStore") (b := x) (As := []) (rest := []) ⟨hx, hb, hml, hown, hw⟩ (c_requireUp l dC dI cI cZ cJ cT x d w tb wa ts) ⟨callB_of 0 hw (gA0 w292) rfl rfl rfl (hw _ w40) (hw _ w289) (by decide +kernel) ⟨Nat.le_of_ble_eq_true rfl, Nat.le_of_ble_eq_true rfl⟩, (hw _ w291), (hw _ w10)⟩ ⟨kb_S, va_recv (ci := 3) (q0 := 0) hK hP rfl rfl, fun U hU hW => ⟨rfl, by rw [hU]; exact hPc, hKK.moved hW⟩⟩ rfl rfl hl.1 rfl (lv_room (Nat.le_of_ble_eq_true rfl)) dS_number_1 ⟨Nat.le_of_ble_eq_true rfl, Nat.le_of_ble_eq_true rfl⟩) (fun _ => ?_)
  refine lv_iload_n hx hb dS_number_4 rfl (lv_at hl 1 rfl) ?_
  have hPc := hP.sub (ws' := []) [] rfl
  exact tx_out (tx_runS (As := [.int k9]) (rest := []) ⟨hx, hb, hml, hown, hw⟩ (c_rK_x l dC dI cI cZ cJ cT hl9 k9 hb9) ⟨callB_of 1 hw (gA0 w425) rfl rfl rfl (hw _ w40) (hw _ w423) (by decide +kernel) ⟨Nat.le_of_ble_eq_true rfl, Nat.le_of_ble_eq_true rfl⟩, (hw _ w424)⟩ ⟨kb_X, fun U hU hW => ⟨rfl, by rw [hU]; exact hPc, hKK.moved hW, hX.moved hW (by rw [hU]; exact fun _ _ h _ => h)⟩⟩ rfl rfl hl.1 rfl (lv_room (Nat.le_of_ble_eq_true rfl)) dS_number_5 ⟨Nat.le_of_ble_eq_true rfl, Nat.le_of_ble_eq_true rfl⟩) htab hlocks

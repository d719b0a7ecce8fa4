set_option maxRecDepth 100000 in
theorem w52 : (Cond.initialized "java/util/NoSuchElementException") ∈ wsA := List.mem_filter.mpr ⟨List.mem_of_getElem? (i := 52) rfl, rfl⟩
set_option maxRecDepth 100000 in
theorem w91 : (Cond.fieldLink "LoggedStore" 82 "LoggedStore$Table" "has" "[Z") ∈ wsA := List.mem_filter.mpr ⟨List.mem_of_getElem? (i := 91) rfl, rfl⟩
set_option maxRecDepth 100000 in
theorem w428 : (Cond.methodLink "LoggedStore" 76 yS_requireNumber) ∈ wsA := List.mem_filter.mpr ⟨List.mem_of_getElem? (i := 428) rfl, rfl⟩
set_option maxRecDepth 100000 in
theorem w429 : (Cond.static yS_requireNumber) ∈ wsA := List.mem_filter.mpr ⟨List.mem_of_getElem? (i := 429) rfl, rfl⟩
set_option maxRecDepth 100000 in
theorem w430 : (Cond.code yS_requireNumber cS_requireNumber 2 none) ∈ wsA := List.mem_filter.mpr ⟨List.mem_of_getElem? (i := 430) rfl, rfl⟩
set_option maxRecDepth 100000 in
theorem w431 : (Cond.classLink "LoggedStore" 193 "java/util/NoSuchElementException") ∈ wsA := List.mem_filter.mpr ⟨List.mem_of_getElem? (i := 431) rfl, rfl⟩
theorem dS_number_8 : decode cS_number 8 = .ok (.aload_n 0, 1) := by decide +kernel
theorem dS_number_9 : decode cS_number 9 = .ok (.getfield 19, 3) := by decide +kernel
theorem dS_number_12 : decode cS_number 12 = .ok (.iload_n 1, 1) := by decide +kernel
theorem dS_number_13 : decode cS_number 13 = .ok (.invokestatic 76, 3) := by decide +kernel
theorem dS_requireNumber_0 : decode cS_requireNumber 0 = .ok (.aload_n 0, 1) := by decide +kernel
theorem dS_requireNumber_1 : decode cS_requireNumber 1 = .ok (.getfield 82, 3) := by decide +kernel
theorem dS_requireNumber_4 : decode cS_requireNumber 4 = .ok (.iload_n 1, 1) := by decide +kernel
theorem dS_requireNumber_5 : decode cS_requireNumber 5 = .ok (.baload, 1) := by decide +kernel
theorem dS_requireNumber_6 : decode cS_requireNumber 6 = .ok (.ifCond .ne 13, 3) := by decide +kernel
theorem dS_requireNumber_9 : decode cS_requireNumber 9 = .ok (.new 193, 3) := by decide +kernel
theorem dS_requireNumber_12 : decode cS_requireNumber 12 = .ok (.dup, 1) := by decide +kernel
theorem dS_requireNumber_13 : decode cS_requireNumber 13 = .ok (.ldc 195, 2) := by decide +kernel
theorem dS_requireNumber_15 : decode cS_requireNumber 15 = .ok (.invokespecial 197, 3) := by decide +kernel
theorem dS_requireNumber_18 : decode cS_requireNumber 18 = .ok (.athrow, 1) := by decide +kernel
set_option maxHeartbeats 4000000 in
set_option maxRecDepth 100000 in
theorem c_rN_y (l : Launch) (dC : Nat → ClassId) (dI : Nat → Nat → Nat) (cI cZ cJ cT : ClassId) (hl9 : l.stackTraces = false) (tb hs ns j : Nat) (hj : j < 64) : MetX l yS_requireNumber (Cond.code yS_requireNumber cS_requireNumber 2 none :: wsA) ({ frames := 6, cells := 1, slots := 6, locals := 82 }) (va_Pc [.ref tb, .int (nI j)] (fun U => va_P (dC, dI) vwC [(tb, .inr (1, [.ref hs, .ref ns, .int 0])), (hs, .inl (cZ, 64, .inl (fun _ => 0)))] U.heap ∧ KK dC dI cI cZ cJ cT U ∧ KS2 U)) (tx_Qx "java/util/NoSuchElementException") 1 6 := by
  refine MetX.ofW (cc := cS_requireNumber) (maxL := 2) (ret := none) (by decide) rfl ?_
  intro p e s m args below meth c s₁ B hml htab hv
  obtain ⟨rfl, hP, hKK, hX⟩ := hv
  have hK := hKK.1
  have hx := B.exec
  have hb := B.bytes
  have hr := B.returns
  have hw : ∀ w ∈ wsA, w.before _ s = true := fun w h => atoms_spec (ws := (Cond.code yS_requireNumber cS_requireNumber 2 none :: wsA)) B.pre w (List.mem_cons_of_mem _ h)
  have hown : s.vm.findClass "LoggedStore" = some m.cls := findClass_of_methodNamed B.named
  have hlocks := B.notSynchronized
  have hl := lv_entry ([.ref tb, .int (nI j)]) (n := 2) (Nat.le_of_ble_eq_true rfl)
  rw [lg_entry_eq]
  generalize (lg_sl ([.ref tb, .int (nI j)]) ++ List.replicate (2 - (lg_sl ([.ref tb, .int (nI j)])).length) Slot.unset).toArray = ls at hl ⊢
  have hl : lv_has ls 2 [(0, .ref tb), (1, .int (nI j))] := hl
  refine lv_aload_n hx hb dS_requireNumber_0 rfl (lv_at hl 0 rfl) ?_
  refine va_get (D := (dC, dI)) (ci := 1) (v := .ref hs) (C := "LoggedStore$Table") (T := uT) (N := 3) hx hb hw inT hown hK hP 0 rfl rfl 0 (by decide) (hw _ w91) (fun _ h9 => h9) rfl dS_requireNumber_1 ?_
  refine lv_iload_n hx hb dS_requireNumber_4 rfl (lv_at hl 1 rfl) ?_
  refine va_zald hx hb hK hP 1 1 rfl rfl (vp_in_nI hj (by decide)) dS_requireNumber_5 ?_
  refine lv_topi (nm_r (e' := 0) (rfl) ?_)
  refine lv_if_ne (tgt := 19) hx hb dS_requireNumber_6 (by decide) (fun h9 => absurd (by decide) h9) (fun _ => ?_)
  obtain ⟨q9, hZ⟩ := hKK.2.s195
  exact tx_throw2 hx hb hl9 hown hX (hw _ w431) (hw _ w52) hZ (hl.1.trans hml.symm) dS_requireNumber_9 dS_requireNumber_12 dS_requireNumber_13 dS_requireNumber_15 dS_requireNumber_18 htab (by decide) (by decide) (by decide) (by decide) hlocks

set_option maxHeartbeats 4000000 in
set_option maxRecDepth 100000 in
theorem c_number_y (l : Launch) (dC : Nat → ClassId) (dI : Nat → Nat → Nat) (cI cZ cJ cT : ClassId) (hl9 : l.stackTraces = false) (x d w tb wa ts : Nat) (hs ns j : Nat) (hj : j < 64) : MetX l yS_number (Cond.code yS_number cS_number 2 (some .int) :: wsA) ({ frames := 7, cells := 1, slots := 6, locals := 103 }) (va_Pc [.ref x, .int (nI j)] (fun U => va_P (dC, dI) vwC [(x, .inr (3, [.ref d, .ref tb, .ref wa, .ref ts, .int 0, .int 1, .int 0, .int 22])), (d, .inr (0, [.ref w, .int (-1), .int 0, .int 0])), (tb, .inr (1, [.ref hs, .ref ns, .int 0])), (hs, .inl (cZ, 64, .inl (fun _ => 0)))] U.heap ∧ KK dC dI cI cZ cJ cT U ∧ KS2 U)) (tx_Qx "java/util/NoSuchElementException") 1 6 := by
  refine MetX.ofW (cc := cS_number) (maxL := 2) (ret := (some .int)) (by decide) rfl ?_
  intro p e s m args below meth c s₁ B hml htab hv
  obtain ⟨rfl, hP, hKK, hX⟩ := hv
  have hK := hKK.1
  have hx := B.exec
  have hb := B.bytes
  have hr := B.returns
  have hw : ∀ w ∈ wsA, w.before _ s = true := fun w h => atoms_spec (ws := (Cond.code yS_number cS_number 2 (some .int) :: wsA)) B.pre w (List.mem_cons_of_mem _ h)
  have hown : s.vm.findClass "LoggedStore" = some m.cls := findClass_of_methodNamed B.named
  have hlocks := B.notSynchronized
  have hl := lv_entry ([.ref x, .int (nI j)]) (n := 2) (Nat.le_of_ble_eq_true rfl)
  rw [lg_entry_eq]
  generalize (lg_sl ([.ref x, .int (nI j)]) ++ List.replicate (2 - (lg_sl ([.ref x, .int (nI j)])).length) Slot.unset).toArray = ls at hl ⊢
  have hl : lv_has ls 2 [(0, .ref x), (1, .int (nI j))] := hl
  refine lv_aload_n hx hb dS_number_0 rfl (lv_at hl 0 rfl) ?_
  have hPc := hP.sub (ws' := [(x, .inr (3, [.ref d, .ref tb, .ref wa, .ref ts, .int 0, .int 1, .int 0, .int 22])), (d, .inr (0, [.ref w, .int (-1), .int 0, .int 0]))]) [0, 1] rfl
  refine va_csv (W.runV (C := "LoggedStore") (b := x) (As := []) (rest := []) ⟨hx, hb, hml, hown, hw⟩ (c_requireUp l dC dI cI cZ cJ cT x d w tb wa ts) ⟨callB_of 0 hw (gA0 w292) rfl rfl rfl (hw _ w40) (hw _ w289) (by decide +kernel) ⟨Nat.le_of_ble_eq_true rfl, Nat.le_of_ble_eq_true rfl⟩, (hw _ w291), (hw _ w10)⟩ ⟨kb_S, va_recv (ci := 3) (q0 := 0) hK hP rfl rfl, fun U hU hW => ⟨rfl, by rw [hU]; exact hPc, hKK.moved hW⟩⟩ rfl rfl hl.1 rfl (lv_room (Nat.le_of_ble_eq_true rfl)) dS_number_1 ⟨Nat.le_of_ble_eq_true rfl, Nat.le_of_ble_eq_true rfl⟩) (fun _ => ?_)
  refine lv_iload_n hx hb dS_number_4 rfl (lv_at hl 1 rfl) ?_
  have hPc := hP.sub (ws' := []) [] rfl
  refine va_csv (W.runS (As := [.int (nI j)]) (rest := []) ⟨hx, hb, hml, hown, hw⟩ (c_rK_y l dC dI cI cZ cJ cT j hj) ⟨callB_of 1 hw (gA0 w425) rfl rfl rfl (hw _ w40) (hw _ w423) (by decide +kernel) ⟨Nat.le_of_ble_eq_true rfl, Nat.le_of_ble_eq_true rfl⟩, (hw _ w424)⟩ ⟨kb_S, fun U hU hW => ⟨rfl, by rw [hU]; exact hPc, hKK.moved hW⟩⟩ rfl rfl hl.1 rfl (lv_room (Nat.le_of_ble_eq_true rfl)) dS_number_5 ⟨Nat.le_of_ble_eq_true rfl, Nat.le_of_ble_eq_true rfl⟩) (fun _ => ?_)
  refine lv_aload_n hx hb dS_number_8 rfl (lv_at hl 0 rfl) ?_
  refine va_get (D := (dC, dI)) (ci := 3) (v := .ref tb) (C := "LoggedStore") (T := uS) (N := 8) hx hb hw inS hown hK hP 0 rfl rfl 1 (by decide) (hw _ w155) (fun _ h9 => h9) rfl dS_number_9 ?_
  refine lv_iload_n hx hb dS_number_12 rfl (lv_at hl 1 rfl) ?_
  have hPc := hP.sub (ws' := [(tb, .inr (1, [.ref hs, .ref ns, .int 0])), (hs, .inl (cZ, 64, .inl (fun _ => 0)))]) [2, 3] rfl
  exact tx_out (tx_runS (As := [.ref tb, .int (nI j)]) (rest := []) ⟨hx, hb, hml, hown, hw⟩ (c_rN_y l dC dI cI cZ cJ cT hl9 tb hs ns j hj) ⟨callB_of 2 hw (gA0 w430) rfl rfl rfl (hw _ w40) (hw _ w428) (by decide +kernel) ⟨Nat.le_of_ble_eq_true rfl, Nat.le_of_ble_eq_true rfl⟩, (hw _ w429)⟩ ⟨kb_Y, fun U hU hW => ⟨rfl, by rw [hU]; exact hPc, hKK.moved hW, hX.moved hW (by rw [hU]; exact fun _ _ h _ => h)⟩⟩ rfl rfl hl.1 rfl (lv_room (Nat.le_of_ble_eq_true rfl)) dS_number_13 ⟨Nat.le_of_ble_eq_true rfl, Nat.le_of_ble_eq_true rfl⟩) htab hlocks

set_option maxHeartbeats 4000000 in
set_option maxRecDepth 100000 in
theorem c_thrown_2 (l : Launch) (dC : Nat → ClassId) (dI : Nat → Nat → Nat) (cI cZ cJ cT : ClassId) (m0 md mh mn mc mo mb mk ml ms mw : Nat) : Met l yM_thrown (Cond.code yM_thrown cM_thrown 1 (some .int) :: wsA) ({ frames := 0, cells := 0, slots := 0, locals := 0 }) (va_Pc [.ref m0] (fun U => va_P (dC, dI) vwC [(m0, .inr (4, [.int 0, .ref md, .int 0, .int (-1), .int 0, .ref mh, .ref mn, .ref mc, .int 0, .int 2, .int 1, .int 0, .ref mo, .ref mb, .ref mk, .ref ml, .ref ms, .ref mw]))] U.heap ∧ KK dC dI cI cZ cJ cT U)) (vp_Si (fun r => r = 0)) 0 0 (fun _ => False) := by
  refine Met.ofW (cc := cM_thrown) (maxL := 1) (ret := (some .int)) (by decide) rfl ?_
  intro p e s m args below meth c s₁ B hml hv
  obtain ⟨rfl, hP, hKK⟩ := hv
  have hK := hKK.1
  have hx := B.exec
  have hb := B.bytes
  have hr := B.returns
  have hw : ∀ w ∈ wsA, w.before _ s = true := fun w h => atoms_spec (ws := (Cond.code yM_thrown cM_thrown 1 (some .int) :: wsA)) B.pre w (List.mem_cons_of_mem _ h)
  have hown : s.vm.findClass "LoggedStoreModel" = some m.cls := findClass_of_methodNamed B.named
  have hlocks := B.notSynchronized
  have hl := lv_entry ([.ref m0]) (n := 1) (Nat.le_of_ble_eq_true rfl)
  rw [lg_entry_eq]
  generalize (lg_sl ([.ref m0]) ++ List.replicate (1 - (lg_sl ([.ref m0])).length) Slot.unset).toArray = ls at hl ⊢
  have hl : lv_has ls 1 [(0, .ref m0)] := hl
  refine lv_aload_n hx hb dM_thrown_0 rfl (lv_at hl 0 rfl) ?_
  refine va_get (D := (dC, dI)) (ci := 4) (v := .int 0) (C := "LoggedStoreModel") (T := uM) (N := 18) hx hb hw inM hown hK hP 0 rfl rfl 0 (by decide) (hw _ w612) (fun _ h9 => h9) rfl dM_thrown_1 ?_
  exact W.iret (v := 0) hx hb hr (fun t ht hW => ⟨0, rfl, rfl, ht⟩) (fun q h => by cases h) dM_thrown_4

set_option maxRecDepth 100000 in
theorem w10 : (Cond.selects "LoggedStore" yS_requireUp yS_requireUp) ∈ wsA := List.mem_filter.mpr ⟨List.mem_of_getElem? (i := 10) rfl, rfl⟩
set_option maxRecDepth 100000 in
theorem w40 : (Cond.initialized "LoggedStore") ∈ wsA := List.mem_filter.mpr ⟨List.mem_of_getElem? (i := 40) rfl, rfl⟩
set_option maxRecDepth 100000 in
theorem w73 : (Cond.fieldLink "LoggedStore" 150 "LoggedStore$Disk" "down" "Z") ∈ wsA := List.mem_filter.mpr ⟨List.mem_of_getElem? (i := 73) rfl, rfl⟩
set_option maxRecDepth 100000 in
theorem w95 : (Cond.fieldLink "LoggedStore" 137 "LoggedStore$Table" "size" "I") ∈ wsA := List.mem_filter.mpr ⟨List.mem_of_getElem? (i := 95) rfl, rfl⟩
set_option maxRecDepth 100000 in
theorem w154 : (Cond.fieldLink "LoggedStore" 10 "LoggedStore" "disk" "LLoggedStore$Disk;") ∈ wsA := List.mem_filter.mpr ⟨List.mem_of_getElem? (i := 154) rfl, rfl⟩
set_option maxRecDepth 100000 in
theorem w155 : (Cond.fieldLink "LoggedStore" 19 "LoggedStore" "latest" "LLoggedStore$Table;") ∈ wsA := List.mem_filter.mpr ⟨List.mem_of_getElem? (i := 155) rfl, rfl⟩
set_option maxRecDepth 100000 in
theorem w158 : (Cond.fieldLink "LoggedStore" 33 "LoggedStore" "latestVersion" "I") ∈ wsA := List.mem_filter.mpr ⟨List.mem_of_getElem? (i := 158) rfl, rfl⟩
set_option maxRecDepth 100000 in
theorem w161 : (Cond.fieldLink "LoggedStore" 43 "LoggedStore" "logNext" "I") ∈ wsA := List.mem_filter.mpr ⟨List.mem_of_getElem? (i := 161) rfl, rfl⟩
set_option maxRecDepth 100000 in
theorem w196 : (Cond.code yS_isDown cS_isDown 1 (some .boolean)) ∈ wsA := List.mem_filter.mpr ⟨List.mem_of_getElem? (i := 196) rfl, rfl⟩
set_option maxRecDepth 100000 in
theorem w289 : (Cond.methodLink "LoggedStore" 50 yS_requireUp) ∈ wsA := List.mem_filter.mpr ⟨List.mem_of_getElem? (i := 289) rfl, rfl⟩
set_option maxRecDepth 100000 in
theorem w291 : (Cond.instanceMethod yS_requireUp) ∈ wsA := List.mem_filter.mpr ⟨List.mem_of_getElem? (i := 291) rfl, rfl⟩
set_option maxRecDepth 100000 in
theorem w292 : (Cond.code yS_requireUp cS_requireUp 1 none) ∈ wsA := List.mem_filter.mpr ⟨List.mem_of_getElem? (i := 292) rfl, rfl⟩
set_option maxRecDepth 100000 in
theorem w585 : (Cond.code yS_count cS_count 1 (some .int)) ∈ wsA := List.mem_filter.mpr ⟨List.mem_of_getElem? (i := 585) rfl, rfl⟩
set_option maxRecDepth 100000 in
theorem w592 : (Cond.code yS_version cS_version 1 (some .int)) ∈ wsA := List.mem_filter.mpr ⟨List.mem_of_getElem? (i := 592) rfl, rfl⟩
set_option maxRecDepth 100000 in
theorem w599 : (Cond.code yS_left cS_left 1 (some .int)) ∈ wsA := List.mem_filter.mpr ⟨List.mem_of_getElem? (i := 599) rfl, rfl⟩
set_option maxRecDepth 100000 in
theorem w612 : (Cond.fieldLink "LoggedStoreModel" 52 "LoggedStoreModel" "code" "I") ∈ wsA := List.mem_filter.mpr ⟨List.mem_of_getElem? (i := 612) rfl, rfl⟩
set_option maxRecDepth 100000 in
theorem w670 : (Cond.code yM_thrown cM_thrown 1 (some .int)) ∈ wsA := List.mem_filter.mpr ⟨List.mem_of_getElem? (i := 670) rfl, rfl⟩
theorem dM_thrown_0 : decode cM_thrown 0 = .ok (.aload_n 0, 1) := by decide +kernel
theorem dM_thrown_1 : decode cM_thrown 1 = .ok (.getfield 52, 3) := by decide +kernel
theorem dM_thrown_4 : decode cM_thrown 4 = .ok (.ireturn, 1) := by decide +kernel
theorem dS_requireUp_0 : decode cS_requireUp 0 = .ok (.aload_n 0, 1) := by decide +kernel
theorem dS_requireUp_1 : decode cS_requireUp 1 = .ok (.getfield 10, 3) := by decide +kernel
theorem dS_requireUp_4 : decode cS_requireUp 4 = .ok (.getfield 150, 3) := by decide +kernel
theorem dS_requireUp_7 : decode cS_requireUp 7 = .ok (.ifCond .eq 13, 3) := by decide +kernel
theorem dS_requireUp_20 : decode cS_requireUp 20 = .ok (.return_, 1) := by decide +kernel
theorem dS_count_0 : decode cS_count 0 = .ok (.aload_n 0, 1) := by decide +kernel
theorem dS_count_1 : decode cS_count 1 = .ok (.invokevirtual 50, 3) := by decide +kernel
theorem dS_count_4 : decode cS_count 4 = .ok (.aload_n 0, 1) := by decide +kernel
theorem dS_count_5 : decode cS_count 5 = .ok (.getfield 19, 3) := by decide +kernel
theorem dS_count_8 : decode cS_count 8 = .ok (.getfield 137, 3) := by decide +kernel
theorem dS_count_11 : decode cS_count 11 = .ok (.ireturn, 1) := by decide +kernel
theorem dS_version_0 : decode cS_version 0 = .ok (.aload_n 0, 1) := by decide +kernel
theorem dS_version_1 : decode cS_version 1 = .ok (.invokevirtual 50, 3) := by decide +kernel
theorem dS_version_4 : decode cS_version 4 = .ok (.aload_n 0, 1) := by decide +kernel
theorem dS_version_5 : decode cS_version 5 = .ok (.getfield 33, 3) := by decide +kernel
theorem dS_version_8 : decode cS_version 8 = .ok (.ireturn, 1) := by decide +kernel
theorem dS_left_0 : decode cS_left 0 = .ok (.aload_n 0, 1) := by decide +kernel
theorem dS_left_1 : decode cS_left 1 = .ok (.invokevirtual 50, 3) := by decide +kernel
theorem dS_left_4 : decode cS_left 4 = .ok (.bipush 96, 2) := by decide +kernel
theorem dS_left_6 : decode cS_left 6 = .ok (.aload_n 0, 1) := by decide +kernel
theorem dS_left_7 : decode cS_left 7 = .ok (.getfield 43, 3) := by decide +kernel
theorem dS_left_10 : decode cS_left 10 = .ok (.isub, 1) := by decide +kernel
theorem dS_left_11 : decode cS_left 11 = .ok (.ireturn, 1) := by decide +kernel
theorem dS_isDown_0 : decode cS_isDown 0 = .ok (.aload_n 0, 1) := by decide +kernel
theorem dS_isDown_1 : decode cS_isDown 1 = .ok (.getfield 10, 3) := by decide +kernel
theorem dS_isDown_4 : decode cS_isDown 4 = .ok (.getfield 150, 3) := by decide +kernel
theorem dS_isDown_7 : decode cS_isDown 7 = .ok (.ireturn, 1) := by decide +kernel
set_option maxHeartbeats 4000000 in
set_option maxRecDepth 100000 in
theorem c_thrown (l : Launch) (dC : Nat → ClassId) (dI : Nat → Nat → Nat) (cI cZ cJ cT : ClassId) (m0 md mh mn mc mo mb mk ml ms mw : Nat) (k : Int32) : Met l yM_thrown (Cond.code yM_thrown cM_thrown 1 (some .int) :: wsA) ({ frames := 0, cells := 0, slots := 0, locals := 0 }) (va_Pc [.ref m0] (fun U => va_P (dC, dI) vwC [(m0, .inr (4, [.int k, .ref md, .int 0, .int (-1), .int 0, .ref mh, .ref mn, .ref mc, .int 0, .int 1, .int 0, .int 0, .ref mo, .ref mb, .ref mk, .ref ml, .ref ms, .ref mw]))] U.heap ∧ KK dC dI cI cZ cJ cT U)) (vp_Si (fun r => r = k)) 0 0 (fun _ => False) := by
  refine Met.ofW (cc := cM_thrown) (maxL := 1) (ret := (some .int)) (by decide) rfl ?_
  intro p e s m args below meth c s₁ B hml hv
  obtain ⟨rfl, hP, hKK⟩ := hv
  have hK := hKK.1
  have hx := B.exec
  have hb := B.bytes
  have hr := B.returns
  have hw : ∀ w ∈ wsA, w.before _ s = true := fun w h => atoms_spec (ws := (Cond.code yM_thrown cM_thrown 1 (some .int) :: wsA)) B.pre w (List.mem_cons_of_mem _ h)
  have hown : s.vm.findClass "LoggedStoreModel" = some m.cls := findClass_of_methodNamed B.named
  have hlocks := B.notSynchronized
  have hl := lv_entry ([.ref m0]) (n := 1) (Nat.le_of_ble_eq_true rfl)
  rw [lg_entry_eq]
  generalize (lg_sl ([.ref m0]) ++ List.replicate (1 - (lg_sl ([.ref m0])).length) Slot.unset).toArray = ls at hl ⊢
  have hl : lv_has ls 1 [(0, .ref m0)] := hl
  refine lv_aload_n hx hb dM_thrown_0 rfl (lv_at hl 0 rfl) ?_
  refine va_get (D := (dC, dI)) (ci := 4) (v := .int k) (C := "LoggedStoreModel") (T := uM) (N := 18) hx hb hw inM hown hK hP 0 rfl rfl 0 (by decide) (hw _ w612) (fun _ h9 => h9) rfl dM_thrown_1 ?_
  exact W.iret (v := k) hx hb hr (fun t ht hW => ⟨k, rfl, rfl, ht⟩) (fun q h => by cases h) dM_thrown_4

set_option maxHeartbeats 4000000 in
set_option maxRecDepth 100000 in
theorem c_requireUp (l : Launch) (dC : Nat → ClassId) (dI : Nat → Nat → Nat) (cI cZ cJ cT : ClassId) (x d w tb wa ts : Nat) : Met l yS_requireUp (Cond.code yS_requireUp cS_requireUp 1 none :: wsA) ({ frames := 0, cells := 0, slots := 0, locals := 0 }) (va_Pc [.ref x] (fun U => va_P (dC, dI) vwC [(x, .inr (3, [.ref d, .ref tb, .ref wa, .ref ts, .int 0, .int 1, .int 0, .int 22])), (d, .inr (0, [.ref w, .int (-1), .int 0, .int 0]))] U.heap ∧ KK dC dI cI cZ cJ cT U)) (va_Sv (fun _ => True)) 0 0 (fun _ => False) := by
  refine Met.ofW (cc := cS_requireUp) (maxL := 1) (ret := none) (by decide) rfl ?_
  intro p e s m args below meth c s₁ B hml hv
  obtain ⟨rfl, hP, hKK⟩ := hv
  have hK := hKK.1
  have hx := B.exec
  have hb := B.bytes
  have hr := B.returns
  have hw : ∀ w ∈ wsA, w.before _ s = true := fun w h => atoms_spec (ws := (Cond.code yS_requireUp cS_requireUp 1 none :: wsA)) B.pre w (List.mem_cons_of_mem _ h)
  have hown : s.vm.findClass "LoggedStore" = some m.cls := findClass_of_methodNamed B.named
  have hlocks := B.notSynchronized
  have hl := lv_entry ([.ref x]) (n := 1) (Nat.le_of_ble_eq_true rfl)
  rw [lg_entry_eq]
  generalize (lg_sl ([.ref x]) ++ List.replicate (1 - (lg_sl ([.ref x])).length) Slot.unset).toArray = ls at hl ⊢
  have hl : lv_has ls 1 [(0, .ref x)] := hl
  refine lv_aload_n hx hb dS_requireUp_0 rfl (lv_at hl 0 rfl) ?_
  refine va_get (D := (dC, dI)) (ci := 3) (v := .ref d) (C := "LoggedStore") (T := uS) (N := 8) hx hb hw inS hown hK hP 0 rfl rfl 0 (by decide) (hw _ w154) (fun _ h9 => h9) rfl dS_requireUp_1 ?_
  refine va_get (D := (dC, dI)) (ci := 0) (v := .int 0) (C := "LoggedStore$Disk") (T := uD) (N := 4) hx hb hw inD hown hK hP 1 rfl rfl 3 (by decide) (hw _ w73) (fun _ h9 => h9) rfl dS_requireUp_4 ?_
  refine lv_if_eq (tgt := 20) hx hb dS_requireUp_7 (by decide) (fun _ => ?_) (fun h9 => absurd (by decide) h9)
  exact W.vret hx hb hr (fun t ht hW => ⟨rfl, trivial, ht⟩) (fun q h => by cases h) dS_requireUp_20

set_option maxHeartbeats 4000000 in
set_option maxRecDepth 100000 in
theorem c_count (l : Launch) (dC : Nat → ClassId) (dI : Nat → Nat → Nat) (cI cZ cJ cT : ClassId) (x d w tb wa ts : Nat) (hs ns : Nat) : Met l yS_count (Cond.code yS_count cS_count 1 (some .int) :: wsA) ({ frames := 1, cells := 0, slots := 0, locals := 20 }) (va_Pc [.ref x] (fun U => va_P (dC, dI) vwC [(x, .inr (3, [.ref d, .ref tb, .ref wa, .ref ts, .int 0, .int 1, .int 0, .int 22])), (d, .inr (0, [.ref w, .int (-1), .int 0, .int 0])), (tb, .inr (1, [.ref hs, .ref ns, .int 0]))] U.heap ∧ KK dC dI cI cZ cJ cT U)) (vp_Si (fun r => r = 0)) 0 0 (fun _ => False) := by
  refine Met.ofW (cc := cS_count) (maxL := 1) (ret := (some .int)) (by decide) rfl ?_
  intro p e s m args below meth c s₁ B hml hv
  obtain ⟨rfl, hP, hKK⟩ := hv
  have hK := hKK.1
  have hx := B.exec
  have hb := B.bytes
  have hr := B.returns
  have hw : ∀ w ∈ wsA, w.before _ s = true := fun w h => atoms_spec (ws := (Cond.code yS_count cS_count 1 (some .int) :: wsA)) B.pre w (List.mem_cons_of_mem _ h)
  have hown : s.vm.findClass "LoggedStore" = some m.cls := findClass_of_methodNamed B.named
  have hlocks := B.notSynchronized
  have hl := lv_entry ([.ref x]) (n := 1) (Nat.le_of_ble_eq_true rfl)
  rw [lg_entry_eq]
  generalize (lg_sl ([.ref x]) ++ List.replicate (1 - (lg_sl ([.ref x])).length) Slot.unset).toArray = ls at hl ⊢
  have hl : lv_has ls 1 [(0, .ref x)] := hl
  refine lv_aload_n hx hb dS_count_0 rfl (lv_at hl 0 rfl) ?_
  have hPc := hP.sub (ws' := [(x, .inr (3, [.ref d, .ref tb, .ref wa, .ref ts, .int 0, .int 1, .int 0, .int 22])), (d, .inr (0, [.ref w, .int (-1), .int 0, .int 0]))]) [0, 1] rfl
  refine va_csv (W.runV (C := "LoggedStore") (b := x) (As := []) (rest := []) ⟨hx, hb, hml, hown, hw⟩ (c_requireUp l dC dI cI cZ cJ cT x d w tb wa ts) ⟨callB_of 0 hw (gA0 w292) rfl rfl rfl (hw _ w40) (hw _ w289) (by decide +kernel) ⟨Nat.le_of_ble_eq_true rfl, Nat.le_of_ble_eq_true rfl⟩, (hw _ w291), (hw _ w10)⟩ ⟨kb_S, va_recv (ci := 3) (q0 := 0) hK hP rfl rfl, fun U hU hW => ⟨rfl, by rw [hU]; exact hPc, hKK.moved hW⟩⟩ rfl rfl hl.1 rfl (lv_room (Nat.le_of_ble_eq_true rfl)) dS_count_1 ⟨Nat.le_of_ble_eq_true rfl, Nat.le_of_ble_eq_true rfl⟩) (fun _ => ?_)
  refine lv_aload_n hx hb dS_count_4 rfl (lv_at hl 0 rfl) ?_
  refine va_get (D := (dC, dI)) (ci := 3) (v := .ref tb) (C := "LoggedStore") (T := uS) (N := 8) hx hb hw inS hown hK hP 0 rfl rfl 1 (by decide) (hw _ w155) (fun _ h9 => h9) rfl dS_count_5 ?_
  refine va_get (D := (dC, dI)) (ci := 1) (v := .int 0) (C := "LoggedStore$Table") (T := uT) (N := 3) hx hb hw inT hown hK hP 2 rfl rfl 2 (by decide) (hw _ w95) (fun _ h9 => h9) rfl dS_count_8 ?_
  exact W.iret (v := 0) hx hb hr (fun t ht hW => ⟨0, rfl, rfl, ht⟩) (fun q h => by cases h) dS_count_11

set_option maxHeartbeats 4000000 in
set_option maxRecDepth 100000 in
theorem c_version (l : Launch) (dC : Nat → ClassId) (dI : Nat → Nat → Nat) (cI cZ cJ cT : ClassId) (x d w tb wa ts : Nat) : Met l yS_version (Cond.code yS_version cS_version 1 (some .int) :: wsA) ({ frames := 1, cells := 0, slots := 0, locals := 20 }) (va_Pc [.ref x] (fun U => va_P (dC, dI) vwC [(x, .inr (3, [.ref d, .ref tb, .ref wa, .ref ts, .int 0, .int 1, .int 0, .int 22])), (d, .inr (0, [.ref w, .int (-1), .int 0, .int 0]))] U.heap ∧ KK dC dI cI cZ cJ cT U)) (vp_Si (fun r => r = 0)) 0 0 (fun _ => False) := by
  refine Met.ofW (cc := cS_version) (maxL := 1) (ret := (some .int)) (by decide) rfl ?_
  intro p e s m args below meth c s₁ B hml hv
  obtain ⟨rfl, hP, hKK⟩ := hv
  have hK := hKK.1
  have hx := B.exec
  have hb := B.bytes
  have hr := B.returns
  have hw : ∀ w ∈ wsA, w.before _ s = true := fun w h => atoms_spec (ws := (Cond.code yS_version cS_version 1 (some .int) :: wsA)) B.pre w (List.mem_cons_of_mem _ h)
  have hown : s.vm.findClass "LoggedStore" = some m.cls := findClass_of_methodNamed B.named
  have hlocks := B.notSynchronized
  have hl := lv_entry ([.ref x]) (n := 1) (Nat.le_of_ble_eq_true rfl)
  rw [lg_entry_eq]
  generalize (lg_sl ([.ref x]) ++ List.replicate (1 - (lg_sl ([.ref x])).length) Slot.unset).toArray = ls at hl ⊢
  have hl : lv_has ls 1 [(0, .ref x)] := hl
  refine lv_aload_n hx hb dS_version_0 rfl (lv_at hl 0 rfl) ?_
  have hPc := hP.sub (ws' := [(x, .inr (3, [.ref d, .ref tb, .ref wa, .ref ts, .int 0, .int 1, .int 0, .int 22])), (d, .inr (0, [.ref w, .int (-1), .int 0, .int 0]))]) [0, 1] rfl
  refine va_csv (W.runV (C := "LoggedStore") (b := x) (As := []) (rest := []) ⟨hx, hb, hml, hown, hw⟩ (c_requireUp l dC dI cI cZ cJ cT x d w tb wa ts) ⟨callB_of 0 hw (gA0 w292) rfl rfl rfl (hw _ w40) (hw _ w289) (by decide +kernel) ⟨Nat.le_of_ble_eq_true rfl, Nat.le_of_ble_eq_true rfl⟩, (hw _ w291), (hw _ w10)⟩ ⟨kb_S, va_recv (ci := 3) (q0 := 0) hK hP rfl rfl, fun U hU hW => ⟨rfl, by rw [hU]; exact hPc, hKK.moved hW⟩⟩ rfl rfl hl.1 rfl (lv_room (Nat.le_of_ble_eq_true rfl)) dS_version_1 ⟨Nat.le_of_ble_eq_true rfl, Nat.le_of_ble_eq_true rfl⟩) (fun _ => ?_)
  refine lv_aload_n hx hb dS_version_4 rfl (lv_at hl 0 rfl) ?_
  refine va_get (D := (dC, dI)) (ci := 3) (v := .int 0) (C := "LoggedStore") (T := uS) (N := 8) hx hb hw inS hown hK hP 0 rfl rfl 4 (by decide) (hw _ w158) (fun _ h9 => h9) rfl dS_version_5 ?_
  exact W.iret (v := 0) hx hb hr (fun t ht hW => ⟨0, rfl, rfl, ht⟩) (fun q h => by cases h) dS_version_8

set_option maxHeartbeats 4000000 in
set_option maxRecDepth 100000 in
theorem c_left (l : Launch) (dC : Nat → ClassId) (dI : Nat → Nat → Nat) (cI cZ cJ cT : ClassId) (x d w tb wa ts : Nat) : Met l yS_left (Cond.code yS_left cS_left 1 (some .int) :: wsA) ({ frames := 1, cells := 0, slots := 0, locals := 20 }) (va_Pc [.ref x] (fun U => va_P (dC, dI) vwC [(x, .inr (3, [.ref d, .ref tb, .ref wa, .ref ts, .int 0, .int 1, .int 0, .int 22])), (d, .inr (0, [.ref w, .int (-1), .int 0, .int 0]))] U.heap ∧ KK dC dI cI cZ cJ cT U)) (vp_Si (fun r => r = 74)) 0 0 (fun _ => False) := by
  refine Met.ofW (cc := cS_left) (maxL := 1) (ret := (some .int)) (by decide) rfl ?_
  intro p e s m args below meth c s₁ B hml hv
  obtain ⟨rfl, hP, hKK⟩ := hv
  have hK := hKK.1
  have hx := B.exec
  have hb := B.bytes
  have hr := B.returns
  have hw : ∀ w ∈ wsA, w.before _ s = true := fun w h => atoms_spec (ws := (Cond.code yS_left cS_left 1 (some .int) :: wsA)) B.pre w (List.mem_cons_of_mem _ h)
  have hown : s.vm.findClass "LoggedStore" = some m.cls := findClass_of_methodNamed B.named
  have hlocks := B.notSynchronized
  have hl := lv_entry ([.ref x]) (n := 1) (Nat.le_of_ble_eq_true rfl)
  rw [lg_entry_eq]
  generalize (lg_sl ([.ref x]) ++ List.replicate (1 - (lg_sl ([.ref x])).length) Slot.unset).toArray = ls at hl ⊢
  have hl : lv_has ls 1 [(0, .ref x)] := hl
  refine lv_aload_n hx hb dS_left_0 rfl (lv_at hl 0 rfl) ?_
  have hPc := hP.sub (ws' := [(x, .inr (3, [.ref d, .ref tb, .ref wa, .ref ts, .int 0, .int 1, .int 0, .int 22])), (d, .inr (0, [.ref w, .int (-1), .int 0, .int 0]))]) [0, 1] rfl
  refine va_csv (W.runV (C := "LoggedStore") (b := x) (As := []) (rest := []) ⟨hx, hb, hml, hown, hw⟩ (c_requireUp l dC dI cI cZ cJ cT x d w tb wa ts) ⟨callB_of 0 hw (gA0 w292) rfl rfl rfl (hw _ w40) (hw _ w289) (by decide +kernel) ⟨Nat.le_of_ble_eq_true rfl, Nat.le_of_ble_eq_true rfl⟩, (hw _ w291), (hw _ w10)⟩ ⟨kb_S, va_recv (ci := 3) (q0 := 0) hK hP rfl rfl, fun U hU hW => ⟨rfl, by rw [hU]; exact hPc, hKK.moved hW⟩⟩ rfl rfl hl.1 rfl (lv_room (Nat.le_of_ble_eq_true rfl)) dS_left_1 ⟨Nat.le_of_ble_eq_true rfl, Nat.le_of_ble_eq_true rfl⟩) (fun _ => ?_)
  refine lv_bipush (v := 96) hx hb dS_left_4 (by decide) ?_
  refine lv_aload_n hx hb dS_left_6 rfl (lv_at hl 0 rfl) ?_
  refine va_get (D := (dC, dI)) (ci := 3) (v := .int 22) (C := "LoggedStore") (T := uS) (N := 8) hx hb hw inS hown hK hP 0 rfl rfl 7 (by decide) (hw _ w161) (fun _ h9 => h9) rfl dS_left_7 ?_
  refine lv_isub hx hb dS_left_10 ?_
  refine lv_topi (nm_r (e' := 74) (by decide +kernel) ?_)
  exact W.iret (v := 74) hx hb hr (fun t ht hW => ⟨74, rfl, rfl, ht⟩) (fun q h => by cases h) dS_left_11

set_option maxHeartbeats 4000000 in
set_option maxRecDepth 100000 in
theorem c_isDown (l : Launch) (dC : Nat → ClassId) (dI : Nat → Nat → Nat) (cI cZ cJ cT : ClassId) (x d w tb wa ts : Nat) : Met l yS_isDown (Cond.code yS_isDown cS_isDown 1 (some .boolean) :: wsA) ({ frames := 0, cells := 0, slots := 0, locals := 0 }) (va_Pc [.ref x] (fun U => va_P (dC, dI) vwC [(x, .inr (3, [.ref d, .ref tb, .ref wa, .ref ts, .int 0, .int 1, .int 0, .int 22])), (d, .inr (0, [.ref w, .int (-1), .int 0, .int 0]))] U.heap ∧ KK dC dI cI cZ cJ cT U)) (vp_Si (fun r => r = 0)) 0 0 (fun _ => False) := by
  refine Met.ofW (cc := cS_isDown) (maxL := 1) (ret := (some .boolean)) (by decide) rfl ?_
  intro p e s m args below meth c s₁ B hml hv
  obtain ⟨rfl, hP, hKK⟩ := hv
  have hK := hKK.1
  have hx := B.exec
  have hb := B.bytes
  have hr := B.returns
  have hw : ∀ w ∈ wsA, w.before _ s = true := fun w h => atoms_spec (ws := (Cond.code yS_isDown cS_isDown 1 (some .boolean) :: wsA)) B.pre w (List.mem_cons_of_mem _ h)
  have hown : s.vm.findClass "LoggedStore" = some m.cls := findClass_of_methodNamed B.named
  have hlocks := B.notSynchronized
  have hl := lv_entry ([.ref x]) (n := 1) (Nat.le_of_ble_eq_true rfl)
  rw [lg_entry_eq]
  generalize (lg_sl ([.ref x]) ++ List.replicate (1 - (lg_sl ([.ref x])).length) Slot.unset).toArray = ls at hl ⊢
  have hl : lv_has ls 1 [(0, .ref x)] := hl
  refine lv_aload_n hx hb dS_isDown_0 rfl (lv_at hl 0 rfl) ?_
  refine va_get (D := (dC, dI)) (ci := 3) (v := .ref d) (C := "LoggedStore") (T := uS) (N := 8) hx hb hw inS hown hK hP 0 rfl rfl 0 (by decide) (hw _ w154) (fun _ h9 => h9) rfl dS_isDown_1 ?_
  refine va_get (D := (dC, dI)) (ci := 0) (v := .int 0) (C := "LoggedStore$Disk") (T := uD) (N := 4) hx hb hw inD hown hK hP 1 rfl rfl 3 (by decide) (hw _ w73) (fun _ h9 => h9) rfl dS_isDown_4 ?_
  exact W.zret (v := 0) (ty := .boolean) hx hb hr (by decide) (fun t ht hW => ⟨0, rfl, rfl, ht⟩) (fun q h => by cases h) dS_isDown_7

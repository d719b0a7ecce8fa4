set_option maxRecDepth 100000 in
theorem w398 : (Cond.methodLink "LoggedStore" 68 yR_start) ∈ wsA := List.mem_filter.mpr ⟨List.mem_of_getElem? (i := 398) rfl, rfl⟩
set_option maxRecDepth 100000 in
theorem w399 : (Cond.instanceMethod yR_start) ∈ wsA := List.mem_filter.mpr ⟨List.mem_of_getElem? (i := 399) rfl, rfl⟩
set_option maxRecDepth 100000 in
theorem w400 : (Cond.selects "LoggedStore$Transaction" yR_start yR_start) ∈ wsA := List.mem_filter.mpr ⟨List.mem_of_getElem? (i := 400) rfl, rfl⟩
theorem dS_begin_8 : decode cS_begin 8 = .ok (.aload_n 0, 1) := by decide +kernel
theorem dS_begin_9 : decode cS_begin 9 = .ok (.getfield 29, 3) := by decide +kernel
theorem dS_begin_12 : decode cS_begin 12 = .ok (.iload_n 1, 1) := by decide +kernel
theorem dS_begin_13 : decode cS_begin 13 = .ok (.aaload, 1) := by decide +kernel
theorem dS_begin_14 : decode cS_begin 14 = .ok (.getfield 57, 3) := by decide +kernel
theorem dS_begin_17 : decode cS_begin 17 = .ok (.ifCond .eq 13, 3) := by decide +kernel
theorem dS_begin_30 : decode cS_begin 30 = .ok (.aload_n 0, 1) := by decide +kernel
theorem dS_begin_31 : decode cS_begin 31 = .ok (.getfield 29, 3) := by decide +kernel
theorem dS_begin_34 : decode cS_begin 34 = .ok (.iload_n 1, 1) := by decide +kernel
theorem dS_begin_35 : decode cS_begin 35 = .ok (.aaload, 1) := by decide +kernel
theorem dS_begin_36 : decode cS_begin 36 = .ok (.aload_n 0, 1) := by decide +kernel
theorem dS_begin_37 : decode cS_begin 37 = .ok (.getfield 19, 3) := by decide +kernel
theorem dS_begin_40 : decode cS_begin 40 = .ok (.aload_n 0, 1) := by decide +kernel
theorem dS_begin_41 : decode cS_begin 41 = .ok (.getfield 33, 3) := by decide +kernel
theorem dS_begin_44 : decode cS_begin 44 = .ok (.invokevirtual 68, 3) := by decide +kernel
theorem dS_begin_47 : decode cS_begin 47 = .ok (.aload_n 0, 1) := by decide +kernel
theorem dS_begin_48 : decode cS_begin 48 = .ok (.getfield 33, 3) := by decide +kernel
theorem dS_begin_51 : decode cS_begin 51 = .ok (.ireturn, 1) := by decide +kernel
set_option maxHeartbeats 4000000 in
set_option maxRecDepth 100000 in
theorem c_begin_0 (l : Launch) (dC : Nat → ClassId) (dI : Nat → Nat → Nat) (cI cZ cJ cT : ClassId) (x d w tb hs ns wa ts t0 v0 vh0 vn0 vw0 t1 v1 vh1 vn1 vw1 t2 v2 vh2 vn2 vw2 : Nat) (sz : Nat) : Met l yS_begin (Cond.code yS_begin cS_begin 2 (some .int) :: wsA) ({ frames := 2, cells := 0, slots := 0, locals := 45 }) (va_Pc [.ref x, .int 0] (fun U => U.heap.size = sz ∧ va_P (dC, dI) vwC [(x, .inr (3, [.ref d, .ref tb, .ref wa, .ref ts, .int 0, .int 1, .int 0, .int 22])), (d, .inr (0, [.ref w, .int (-1), .int 0, .int 0])), (tb, .inr (1, [.ref hs, .ref ns, .int 0])), (hs, .inl (cZ, 64, .inl (fun _ => 0))), (ns, .inl (cI, 64, .inl (fun _ => 0))), (ts, .inl (cT, 3, .inr (.inr (.inr (.inr (tF t0 t1 t2)))))), (t0, .inr (2, [.ref v0, .ref vw0, .int 0, .int 0, .int 0])), (v0, .inr (1, [.ref vh0, .ref vn0, .int 0])), (vh0, .inl (cZ, 64, .inl (fun _ => 0))), (vn0, .inl (cI, 64, .inl (fun _ => 0))), (vw0, .inl (cZ, 64, .inl (fun _ => 0)))] U.heap ∧ KK dC dI cI cZ cJ cT U ∧ va_D (fun _ => True) [(x, .inr (3, [.ref d, .ref tb, .ref wa, .ref ts, .int 0, .int 1, .int 0, .int 22])), (d, .inr (0, [.ref w, .int (-1), .int 0, .int 0])), (tb, .inr (1, [.ref hs, .ref ns, .int 0])), (hs, .inl (cZ, 64, .inl (fun _ => 0))), (ns, .inl (cI, 64, .inl (fun _ => 0))), (ts, .inl (cT, 3, .inr (.inr (.inr (.inr (tF t0 t1 t2)))))), (t0, .inr (2, [.ref v0, .ref vw0, .int 0, .int 0, .int 0])), (v0, .inr (1, [.ref vh0, .ref vn0, .int 0])), (vh0, .inl (cZ, 64, .inl (fun _ => 0))), (vn0, .inl (cI, 64, .inl (fun _ => 0))), (vw0, .inl (cZ, 64, .inl (fun _ => 0)))])) (va_Qi (S := Nat → Nat) (fun r _ => r = 0) (fun _ _ => True) (va_A [(x, .inr (3, [.ref d, .ref tb, .ref wa, .ref ts, .int 0, .int 1, .int 0, .int 22])), (d, .inr (0, [.ref w, .int (-1), .int 0, .int 0])), (tb, .inr (1, [.ref hs, .ref ns, .int 0])), (hs, .inl (cZ, 64, .inl (fun _ => 0))), (ns, .inl (cI, 64, .inl (fun _ => 0))), (ts, .inl (cT, 3, .inr (.inr (.inr (.inr (tF t0 t1 t2)))))), (t0, .inr (2, [.ref v0, .ref vw0, .int 0, .int 0, .int 0])), (v0, .inr (1, [.ref vh0, .ref vn0, .int 0])), (vh0, .inl (cZ, 64, .inl (fun _ => 0))), (vn0, .inl (cI, 64, .inl (fun _ => 0))), (vw0, .inl (cZ, 64, .inl (fun _ => 0)))] sz)) 0 0 (va_A [(x, .inr (3, [.ref d, .ref tb, .ref wa, .ref ts, .int 0, .int 1, .int 0, .int 22])), (d, .inr (0, [.ref w, .int (-1), .int 0, .int 0])), (tb, .inr (1, [.ref hs, .ref ns, .int 0])), (hs, .inl (cZ, 64, .inl (fun _ => 0))), (ns, .inl (cI, 64, .inl (fun _ => 0))), (ts, .inl (cT, 3, .inr (.inr (.inr (.inr (tF t0 t1 t2)))))), (t0, .inr (2, [.ref v0, .ref vw0, .int 0, .int 0, .int 0])), (v0, .inr (1, [.ref vh0, .ref vn0, .int 0])), (vh0, .inl (cZ, 64, .inl (fun _ => 0))), (vn0, .inl (cI, 64, .inl (fun _ => 0))), (vw0, .inl (cZ, 64, .inl (fun _ => 0)))] sz) := by
  refine Met.ofW (cc := cS_begin) (maxL := 2) (ret := (some .int)) (by decide) rfl ?_
  intro p e s m args below meth c s₁ B hml hv
  obtain ⟨rfl, hsz, hP, hKK, hD0⟩ := hv
  have hK := hKK.1
  have hx := B.exec
  have hb := B.bytes
  have hr := B.returns
  have hw : ∀ w ∈ wsA, w.before _ s = true := fun w h => atoms_spec (ws := (Cond.code yS_begin cS_begin 2 (some .int) :: wsA)) B.pre w (List.mem_cons_of_mem _ h)
  have hown : s.vm.findClass "LoggedStore" = some m.cls := findClass_of_methodNamed B.named
  have hlocks := B.notSynchronized
  subst hsz
  have hD := hD0.self (sz := s.heap.size)
  generalize hAe : va_A [(x, .inr (3, [.ref d, .ref tb, .ref wa, .ref ts, .int 0, .int 1, .int 0, .int 22])), (d, .inr (0, [.ref w, .int (-1), .int 0, .int 0])), (tb, .inr (1, [.ref hs, .ref ns, .int 0])), (hs, .inl (cZ, 64, .inl (fun _ => 0))), (ns, .inl (cI, 64, .inl (fun _ => 0))), (ts, .inl (cT, 3, .inr (.inr (.inr (.inr (tF t0 t1 t2)))))), (t0, .inr (2, [.ref v0, .ref vw0, .int 0, .int 0, .int 0])), (v0, .inr (1, [.ref vh0, .ref vn0, .int 0])), (vh0, .inl (cZ, 64, .inl (fun _ => 0))), (vn0, .inl (cI, 64, .inl (fun _ => 0))), (vw0, .inl (cZ, 64, .inl (fun _ => 0)))] s.heap.size = A at hD ⊢
  have hA : ∀ q : Nat, s.heap.size ≤ q → A q := fun q h => by rw [← hAe]; exact Or.inr h
  have hS : va_S A s.heap s.heap [] := va_S.rf
  have hl := lv_entry ([.ref x, .int 0]) (n := 2) (Nat.le_of_ble_eq_true rfl)
  rw [lg_entry_eq]
  generalize (lg_sl ([.ref x, .int 0]) ++ List.replicate (2 - (lg_sl ([.ref x, .int 0])).length) Slot.unset).toArray = ls at hl ⊢
  have hl : lv_has ls 2 [(0, .ref x), (1, .int 0)] := hl
  refine lv_aload_n hx hb dS_begin_0 rfl (lv_at hl 0 rfl) ?_
  have hPc := hP.sub (ws' := [(x, .inr (3, [.ref d, .ref tb, .ref wa, .ref ts, .int 0, .int 1, .int 0, .int 22])), (d, .inr (0, [.ref w, .int (-1), .int 0, .int 0]))]) [0, 1] rfl
  refine va_csv (W.runV (C := "LoggedStore") (b := x) (As := []) (rest := []) ⟨hx, hb, hml, hown, hw⟩ (c_requireUp l dC dI cI cZ cJ cT x d w tb wa ts) ⟨callB_of 0 hw (gA0 w292) rfl rfl rfl (hw _ w40) (hw _ w289) (by decide +kernel) ⟨Nat.le_of_ble_eq_true rfl, Nat.le_of_ble_eq_true rfl⟩, (hw _ w291), (hw _ w10)⟩ ⟨kb_S, va_recv (ci := 3) (q0 := 0) hK hP rfl rfl, fun U hU hW => ⟨rfl, by rw [hU]; exact hPc, hKK.moved hW⟩⟩ rfl rfl hl.1 rfl (lv_room (Nat.le_of_ble_eq_true rfl)) dS_begin_1 ⟨Nat.le_of_ble_eq_true rfl, Nat.le_of_ble_eq_true rfl⟩) (fun _ => ?_)
  refine lv_iload_n hx hb dS_begin_4 rfl (lv_at hl 1 rfl) ?_
  have hPc := hP.sub (ws' := []) [] rfl
  refine va_csv (W.runS (As := [.int 0]) (rest := []) ⟨hx, hb, hml, hown, hw⟩ (c_rT_0 l dC dI cI cZ cJ cT) ⟨callB_of 1 hw (gA0 w365) rfl rfl rfl (hw _ w40) (hw _ w363) (by decide +kernel) ⟨Nat.le_of_ble_eq_true rfl, Nat.le_of_ble_eq_true rfl⟩, (hw _ w364)⟩ ⟨kb_S, fun U hU hW => ⟨rfl, by rw [hU]; exact hPc, hKK.moved hW⟩⟩ rfl rfl hl.1 rfl (lv_room (Nat.le_of_ble_eq_true rfl)) dS_begin_5 ⟨Nat.le_of_ble_eq_true rfl, Nat.le_of_ble_eq_true rfl⟩) (fun _ => ?_)
  refine lv_aload_n hx hb dS_begin_8 rfl (lv_at hl 0 rfl) ?_
  refine va_get (D := (dC, dI)) (ci := 3) (v := .ref ts) (C := "LoggedStore") (T := uS) (N := 8) hx hb hw inS hown hK hP 0 rfl rfl 3 (by decide) (hw _ w157) (fun _ h9 => h9) rfl dS_begin_9 ?_
  refine lv_iload_n hx hb dS_begin_12 rfl (lv_at hl 1 rfl) ?_
  refine va_aldq hx hb hK hP 5 3 rfl rfl (tv_in (by decide +kernel)) dS_begin_13 ?_
  refine W.eq (g2 := F0 m 14 ls [.ref t0]) rfl ?_
  refine va_get (D := (dC, dI)) (ci := 2) (v := .int 0) (C := "LoggedStore$Transaction") (T := uR) (N := 5) hx hb hw inR hown hK hP 6 rfl rfl 4 (by decide) (hw _ w122) (fun _ h9 => h9) rfl dS_begin_14 ?_
  refine lv_if_eq (tgt := 30) hx hb dS_begin_17 (by decide) (fun _ => ?_) (fun h9 => absurd (by decide) h9)
  refine lv_aload_n hx hb dS_begin_30 rfl (lv_at hl 0 rfl) ?_
  refine va_get (D := (dC, dI)) (ci := 3) (v := .ref ts) (C := "LoggedStore") (T := uS) (N := 8) hx hb hw inS hown hK hP 0 rfl rfl 3 (by decide) (hw _ w157) (fun _ h9 => h9) rfl dS_begin_31 ?_
  refine lv_iload_n hx hb dS_begin_34 rfl (lv_at hl 1 rfl) ?_
  refine va_aldq hx hb hK hP 5 3 rfl rfl (tv_in (by decide +kernel)) dS_begin_35 ?_
  refine W.eq (g2 := F0 m 36 ls [.ref t0]) rfl ?_
  refine lv_aload_n hx hb dS_begin_36 rfl (lv_at hl 0 rfl) ?_
  refine va_get (D := (dC, dI)) (ci := 3) (v := .ref tb) (C := "LoggedStore") (T := uS) (N := 8) hx hb hw inS hown hK hP 0 rfl rfl 1 (by decide) (hw _ w155) (fun _ h9 => h9) rfl dS_begin_37 ?_
  refine lv_aload_n hx hb dS_begin_40 rfl (lv_at hl 0 rfl) ?_
  refine va_get (D := (dC, dI)) (ci := 3) (v := .int 0) (C := "LoggedStore") (T := uS) (N := 8) hx hb hw inS hown hK hP 0 rfl rfl 4 (by decide) (hw _ w158) (fun _ h9 => h9) rfl dS_begin_41 ?_
  have hPc := hP.sub (ws' := [(t0, .inr (2, [.ref v0, .ref vw0, .int 0, .int 0, .int 0])), (v0, .inr (1, [.ref vh0, .ref vn0, .int 0])), (vh0, .inl (cZ, 64, .inl (fun _ => 0))), (vn0, .inl (cI, 64, .inl (fun _ => 0))), (vw0, .inl (cZ, 64, .inl (fun _ => 0))), (tb, .inr (1, [.ref hs, .ref ns, .int 0])), (hs, .inl (cZ, 64, .inl (fun _ => 0))), (ns, .inl (cI, 64, .inl (fun _ => 0)))]) [6, 7, 8, 9, 10, 2, 3, 4] rfl
  have hDc := hD.sub (ws' := [(t0, .inr (2, [.ref v0, .ref vw0, .int 0, .int 0, .int 0])), (v0, .inr (1, [.ref vh0, .ref vn0, .int 0])), (vh0, .inl (cZ, 64, .inl (fun _ => 0))), (vn0, .inl (cI, 64, .inl (fun _ => 0))), (vw0, .inl (cZ, 64, .inl (fun _ => 0))), (tb, .inr (1, [.ref hs, .ref ns, .int 0])), (hs, .inl (cZ, 64, .inl (fun _ => 0))), (ns, .inl (cI, 64, .inl (fun _ => 0)))]) [6, 7, 8, 9, 10, 2, 3, 4] (by decide) rfl
  have hFc := va_free (wc := [(t0, .inr (2, [.ref v0, .ref vw0, .int 0, .int 0, .int 0])), (v0, .inr (1, [.ref vh0, .ref vn0, .int 0])), (vh0, .inl (cZ, 64, .inl (fun _ => 0))), (vn0, .inl (cI, 64, .inl (fun _ => 0))), (vw0, .inl (cZ, 64, .inl (fun _ => 0))), (tb, .inr (1, [.ref hs, .ref ns, .int 0])), (hs, .inl (cZ, 64, .inl (fun _ => 0))), (ns, .inl (cI, 64, .inl (fun _ => 0)))]) hD hS hA [6, 7, 8, 9, 10, 2, 3, 4] rfl
  refine va_callv (va_runV (C := "LoggedStore$Transaction") (b := t0) (As := [.ref tb, .int 0]) (rest := []) ⟨hx, hb, hml, hown, hw⟩ (c_start l dC dI cI cZ cJ cT t0 v0 vh0 vn0 vw0 tb hs ns s.heap.size) ⟨callB_of 2 hw (gA0 w401) rfl rfl rfl (hw _ w43) (hw _ w398) (by decide +kernel) ⟨Nat.le_of_ble_eq_true rfl, Nat.le_of_ble_eq_true rfl⟩, (hw _ w399), (hw _ w400)⟩ ⟨kb_Q, va_recv (ci := 2) (q0 := 6) hK hP rfl rfl, fun U hU hW => ⟨rfl, by rw [hU], by rw [hU]; exact hPc, hKK.moved hW, hDc.weaken (fun _ _ _ _ => trivial)⟩⟩ rfl rfl hl.1 rfl (lv_room (Nat.le_of_ble_eq_true rfl)) dS_begin_44 ⟨Nat.le_of_ble_eq_true rfl, Nat.le_of_ble_eq_true rfl⟩) hS (fun q _ h => hFc q h) hFc (fun u2 t H1 locs ht hvm he9 hB hz1 hk1 hS => ?_)
  obtain ⟨hP, hD⟩ := va_join (wr := [(x, .inr (3, [.ref d, .ref tb, .ref wa, .ref ts, .int 0, .int 1, .int 0, .int 22])), (d, .inr (0, [.ref w, .int (-1), .int 0, .int 0])), (ts, .inl (cT, 3, .inr (.inr (.inr (.inr (tF t0 t1 t2))))))]) (w1 := []) hP hD [6, 7, 8, 9, 10, 2, 3, 4] [0, 1, 5] rfl rfl (by decide) (by decide) hk1 hFc tk_P0 tk_D0
  generalize H1 = H at hP hS ⊢
  have hP : va_P (dC, dI) vwC [(x, .inr (3, [.ref d, .ref tb, .ref wa, .ref ts, .int 0, .int 1, .int 0, .int 22])), (d, .inr (0, [.ref w, .int (-1), .int 0, .int 0])), (ts, .inl (cT, 3, .inr (.inr (.inr (.inr (tF t0 t1 t2))))))] H := hP
  have hD : va_D A [(x, .inr (3, [.ref d, .ref tb, .ref wa, .ref ts, .int 0, .int 1, .int 0, .int 22])), (d, .inr (0, [.ref w, .int (-1), .int 0, .int 0])), (ts, .inl (cT, 3, .inr (.inr (.inr (.inr (tF t0 t1 t2))))))] := hD
  refine lv_aload_n hx hb dS_begin_47 rfl (lv_at hl 0 rfl) ?_
  refine va_get (D := (dC, dI)) (ci := 3) (v := .int 0) (C := "LoggedStore") (T := uS) (N := 8) hx hb hw inS hown hK hP 0 rfl rfl 4 (by decide) (hw _ w158) (fun _ h9 => h9) rfl dS_begin_48 ?_
  refine W.widen (k := 0) (n := 0) (by decide) (by decide) ?_
  exact W.iret (v := 0) hx hb hr (fun t ht hW => ⟨⟨0, fun _ => 0, rfl, rfl, trivial⟩, hS.F ht⟩) hS.2.2 dS_begin_51

set_option maxHeartbeats 4000000 in
set_option maxRecDepth 100000 in
theorem c_begin_1 (l : Launch) (dC : Nat → ClassId) (dI : Nat → Nat → Nat) (cI cZ cJ cT : ClassId) (x d w tb hs ns wa ts t0 v0 vh0 vn0 vw0 t1 v1 vh1 vn1 vw1 t2 v2 vh2 vn2 vw2 : Nat) (sz : Nat) : Met l yS_begin (Cond.code yS_begin cS_begin 2 (some .int) :: wsA) ({ frames := 2, cells := 0, slots := 0, locals := 45 }) (va_Pc [.ref x, .int 1] (fun U => U.heap.size = sz ∧ va_P (dC, dI) vwC [(x, .inr (3, [.ref d, .ref tb, .ref wa, .ref ts, .int 0, .int 1, .int 0, .int 22])), (d, .inr (0, [.ref w, .int (-1), .int 0, .int 0])), (tb, .inr (1, [.ref hs, .ref ns, .int 0])), (hs, .inl (cZ, 64, .inl (fun _ => 0))), (ns, .inl (cI, 64, .inl (fun _ => 0))), (ts, .inl (cT, 3, .inr (.inr (.inr (.inr (tF t0 t1 t2)))))), (t1, .inr (2, [.ref v1, .ref vw1, .int 0, .int 0, .int 0])), (v1, .inr (1, [.ref vh1, .ref vn1, .int 0])), (vh1, .inl (cZ, 64, .inl (fun _ => 0))), (vn1, .inl (cI, 64, .inl (fun _ => 0))), (vw1, .inl (cZ, 64, .inl (fun _ => 0)))] U.heap ∧ KK dC dI cI cZ cJ cT U ∧ va_D (fun _ => True) [(x, .inr (3, [.ref d, .ref tb, .ref wa, .ref ts, .int 0, .int 1, .int 0, .int 22])), (d, .inr (0, [.ref w, .int (-1), .int 0, .int 0])), (tb, .inr (1, [.ref hs, .ref ns, .int 0])), (hs, .inl (cZ, 64, .inl (fun _ => 0))), (ns, .inl (cI, 64, .inl (fun _ => 0))), (ts, .inl (cT, 3, .inr (.inr (.inr (.inr (tF t0 t1 t2)))))), (t1, .inr (2, [.ref v1, .ref vw1, .int 0, .int 0, .int 0])), (v1, .inr (1, [.ref vh1, .ref vn1, .int 0])), (vh1, .inl (cZ, 64, .inl (fun _ => 0))), (vn1, .inl (cI, 64, .inl (fun _ => 0))), (vw1, .inl (cZ, 64, .inl (fun _ => 0)))])) (va_Qi (S := Nat → Nat) (fun r _ => r = 0) (fun _ _ => True) (va_A [(x, .inr (3, [.ref d, .ref tb, .ref wa, .ref ts, .int 0, .int 1, .int 0, .int 22])), (d, .inr (0, [.ref w, .int (-1), .int 0, .int 0])), (tb, .inr (1, [.ref hs, .ref ns, .int 0])), (hs, .inl (cZ, 64, .inl (fun _ => 0))), (ns, .inl (cI, 64, .inl (fun _ => 0))), (ts, .inl (cT, 3, .inr (.inr (.inr (.inr (tF t0 t1 t2)))))), (t1, .inr (2, [.ref v1, .ref vw1, .int 0, .int 0, .int 0])), (v1, .inr (1, [.ref vh1, .ref vn1, .int 0])), (vh1, .inl (cZ, 64, .inl (fun _ => 0))), (vn1, .inl (cI, 64, .inl (fun _ => 0))), (vw1, .inl (cZ, 64, .inl (fun _ => 0)))] sz)) 0 0 (va_A [(x, .inr (3, [.ref d, .ref tb, .ref wa, .ref ts, .int 0, .int 1, .int 0, .int 22])), (d, .inr (0, [.ref w, .int (-1), .int 0, .int 0])), (tb, .inr (1, [.ref hs, .ref ns, .int 0])), (hs, .inl (cZ, 64, .inl (fun _ => 0))), (ns, .inl (cI, 64, .inl (fun _ => 0))), (ts, .inl (cT, 3, .inr (.inr (.inr (.inr (tF t0 t1 t2)))))), (t1, .inr (2, [.ref v1, .ref vw1, .int 0, .int 0, .int 0])), (v1, .inr (1, [.ref vh1, .ref vn1, .int 0])), (vh1, .inl (cZ, 64, .inl (fun _ => 0))), (vn1, .inl (cI, 64, .inl (fun _ => 0))), (vw1, .inl (cZ, 64, .inl (fun _ => 0)))] sz) := by
  refine Met.ofW (cc := cS_begin) (maxL := 2) (ret := (some .int)) (by decide) rfl ?_
  intro p e s m args below meth c s₁ B hml hv
  obtain ⟨rfl, hsz, hP, hKK, hD0⟩ := hv
  have hK := hKK.1
  have hx := B.exec
  have hb := B.bytes
  have hr := B.returns
  have hw : ∀ w ∈ wsA, w.before _ s = true := fun w h => atoms_spec (ws := (Cond.code yS_begin cS_begin 2 (some .int) :: wsA)) B.pre w (List.mem_cons_of_mem _ h)
  have hown : s.vm.findClass "LoggedStore" = some m.cls := findClass_of_methodNamed B.named
  have hlocks := B.notSynchronized
  subst hsz
  have hD := hD0.self (sz := s.heap.size)
  generalize hAe : va_A [(x, .inr (3, [.ref d, .ref tb, .ref wa, .ref ts, .int 0, .int 1, .int 0, .int 22])), (d, .inr (0, [.ref w, .int (-1), .int 0, .int 0])), (tb, .inr (1, [.ref hs, .ref ns, .int 0])), (hs, .inl (cZ, 64, .inl (fun _ => 0))), (ns, .inl (cI, 64, .inl (fun _ => 0))), (ts, .inl (cT, 3, .inr (.inr (.inr (.inr (tF t0 t1 t2)))))), (t1, .inr (2, [.ref v1, .ref vw1, .int 0, .int 0, .int 0])), (v1, .inr (1, [.ref vh1, .ref vn1, .int 0])), (vh1, .inl (cZ, 64, .inl (fun _ => 0))), (vn1, .inl (cI, 64, .inl (fun _ => 0))), (vw1, .inl (cZ, 64, .inl (fun _ => 0)))] s.heap.size = A at hD ⊢
  have hA : ∀ q : Nat, s.heap.size ≤ q → A q := fun q h => by rw [← hAe]; exact Or.inr h
  have hS : va_S A s.heap s.heap [] := va_S.rf
  have hl := lv_entry ([.ref x, .int 1]) (n := 2) (Nat.le_of_ble_eq_true rfl)
  rw [lg_entry_eq]
  generalize (lg_sl ([.ref x, .int 1]) ++ List.replicate (2 - (lg_sl ([.ref x, .int 1])).length) Slot.unset).toArray = ls at hl ⊢
  have hl : lv_has ls 2 [(0, .ref x), (1, .int 1)] := hl
  refine lv_aload_n hx hb dS_begin_0 rfl (lv_at hl 0 rfl) ?_
  have hPc := hP.sub (ws' := [(x, .inr (3, [.ref d, .ref tb, .ref wa, .ref ts, .int 0, .int 1, .int 0, .int 22])), (d, .inr (0, [.ref w, .int (-1), .int 0, .int 0]))]) [0, 1] rfl
  refine va_csv (W.runV (C := "LoggedStore") (b := x) (As := []) (rest := []) ⟨hx, hb, hml, hown, hw⟩ (c_requireUp l dC dI cI cZ cJ cT x d w tb wa ts) ⟨callB_of 0 hw (gA0 w292) rfl rfl rfl (hw _ w40) (hw _ w289) (by decide +kernel) ⟨Nat.le_of_ble_eq_true rfl, Nat.le_of_ble_eq_true rfl⟩, (hw _ w291), (hw _ w10)⟩ ⟨kb_S, va_recv (ci := 3) (q0 := 0) hK hP rfl rfl, fun U hU hW => ⟨rfl, by rw [hU]; exact hPc, hKK.moved hW⟩⟩ rfl rfl hl.1 rfl (lv_room (Nat.le_of_ble_eq_true rfl)) dS_begin_1 ⟨Nat.le_of_ble_eq_true rfl, Nat.le_of_ble_eq_true rfl⟩) (fun _ => ?_)
  refine lv_iload_n hx hb dS_begin_4 rfl (lv_at hl 1 rfl) ?_
  have hPc := hP.sub (ws' := []) [] rfl
  refine va_csv (W.runS (As := [.int 1]) (rest := []) ⟨hx, hb, hml, hown, hw⟩ (c_rT_1 l dC dI cI cZ cJ cT) ⟨callB_of 1 hw (gA0 w365) rfl rfl rfl (hw _ w40) (hw _ w363) (by decide +kernel) ⟨Nat.le_of_ble_eq_true rfl, Nat.le_of_ble_eq_true rfl⟩, (hw _ w364)⟩ ⟨kb_S, fun U hU hW => ⟨rfl, by rw [hU]; exact hPc, hKK.moved hW⟩⟩ rfl rfl hl.1 rfl (lv_room (Nat.le_of_ble_eq_true rfl)) dS_begin_5 ⟨Nat.le_of_ble_eq_true rfl, Nat.le_of_ble_eq_true rfl⟩) (fun _ => ?_)
  refine lv_aload_n hx hb dS_begin_8 rfl (lv_at hl 0 rfl) ?_
  refine va_get (D := (dC, dI)) (ci := 3) (v := .ref ts) (C := "LoggedStore") (T := uS) (N := 8) hx hb hw inS hown hK hP 0 rfl rfl 3 (by decide) (hw _ w157) (fun _ h9 => h9) rfl dS_begin_9 ?_
  refine lv_iload_n hx hb dS_begin_12 rfl (lv_at hl 1 rfl) ?_
  refine va_aldq hx hb hK hP 5 3 rfl rfl (tv_in (by decide +kernel)) dS_begin_13 ?_
  refine W.eq (g2 := F0 m 14 ls [.ref t1]) rfl ?_
  refine va_get (D := (dC, dI)) (ci := 2) (v := .int 0) (C := "LoggedStore$Transaction") (T := uR) (N := 5) hx hb hw inR hown hK hP 6 rfl rfl 4 (by decide) (hw _ w122) (fun _ h9 => h9) rfl dS_begin_14 ?_
  refine lv_if_eq (tgt := 30) hx hb dS_begin_17 (by decide) (fun _ => ?_) (fun h9 => absurd (by decide) h9)
  refine lv_aload_n hx hb dS_begin_30 rfl (lv_at hl 0 rfl) ?_
  refine va_get (D := (dC, dI)) (ci := 3) (v := .ref ts) (C := "LoggedStore") (T := uS) (N := 8) hx hb hw inS hown hK hP 0 rfl rfl 3 (by decide) (hw _ w157) (fun _ h9 => h9) rfl dS_begin_31 ?_
  refine lv_iload_n hx hb dS_begin_34 rfl (lv_at hl 1 rfl) ?_
  refine va_aldq hx hb hK hP 5 3 rfl rfl (tv_in (by decide +kernel)) dS_begin_35 ?_
  refine W.eq (g2 := F0 m 36 ls [.ref t1]) rfl ?_
  refine lv_aload_n hx hb dS_begin_36 rfl (lv_at hl 0 rfl) ?_
  refine va_get (D := (dC, dI)) (ci := 3) (v := .ref tb) (C := "LoggedStore") (T := uS) (N := 8) hx hb hw inS hown hK hP 0 rfl rfl 1 (by decide) (hw _ w155) (fun _ h9 => h9) rfl dS_begin_37 ?_
  refine lv_aload_n hx hb dS_begin_40 rfl (lv_at hl 0 rfl) ?_
  refine va_get (D := (dC, dI)) (ci := 3) (v := .int 0) (C := "LoggedStore") (T := uS) (N := 8) hx hb hw inS hown hK hP 0 rfl rfl 4 (by decide) (hw _ w158) (fun _ h9 => h9) rfl dS_begin_41 ?_
  have hPc := hP.sub (ws' := [(t1, .inr (2, [.ref v1, .ref vw1, .int 0, .int 0, .int 0])), (v1, .inr (1, [.ref vh1, .ref vn1, .int 0])), (vh1, .inl (cZ, 64, .inl (fun _ => 0))), (vn1, .inl (cI, 64, .inl (fun _ => 0))), (vw1, .inl (cZ, 64, .inl (fun _ => 0))), (tb, .inr (1, [.ref hs, .ref ns, .int 0])), (hs, .inl (cZ, 64, .inl (fun _ => 0))), (ns, .inl (cI, 64, .inl (fun _ => 0)))]) [6, 7, 8, 9, 10, 2, 3, 4] rfl
  have hDc := hD.sub (ws' := [(t1, .inr (2, [.ref v1, .ref vw1, .int 0, .int 0, .int 0])), (v1, .inr (1, [.ref vh1, .ref vn1, .int 0])), (vh1, .inl (cZ, 64, .inl (fun _ => 0))), (vn1, .inl (cI, 64, .inl (fun _ => 0))), (vw1, .inl (cZ, 64, .inl (fun _ => 0))), (tb, .inr (1, [.ref hs, .ref ns, .int 0])), (hs, .inl (cZ, 64, .inl (fun _ => 0))), (ns, .inl (cI, 64, .inl (fun _ => 0)))]) [6, 7, 8, 9, 10, 2, 3, 4] (by decide) rfl
  have hFc := va_free (wc := [(t1, .inr (2, [.ref v1, .ref vw1, .int 0, .int 0, .int 0])), (v1, .inr (1, [.ref vh1, .ref vn1, .int 0])), (vh1, .inl (cZ, 64, .inl (fun _ => 0))), (vn1, .inl (cI, 64, .inl (fun _ => 0))), (vw1, .inl (cZ, 64, .inl (fun _ => 0))), (tb, .inr (1, [.ref hs, .ref ns, .int 0])), (hs, .inl (cZ, 64, .inl (fun _ => 0))), (ns, .inl (cI, 64, .inl (fun _ => 0)))]) hD hS hA [6, 7, 8, 9, 10, 2, 3, 4] rfl
  refine va_callv (va_runV (C := "LoggedStore$Transaction") (b := t1) (As := [.ref tb, .int 0]) (rest := []) ⟨hx, hb, hml, hown, hw⟩ (c_start l dC dI cI cZ cJ cT t1 v1 vh1 vn1 vw1 tb hs ns s.heap.size) ⟨callB_of 2 hw (gA0 w401) rfl rfl rfl (hw _ w43) (hw _ w398) (by decide +kernel) ⟨Nat.le_of_ble_eq_true rfl, Nat.le_of_ble_eq_true rfl⟩, (hw _ w399), (hw _ w400)⟩ ⟨kb_Q, va_recv (ci := 2) (q0 := 6) hK hP rfl rfl, fun U hU hW => ⟨rfl, by rw [hU], by rw [hU]; exact hPc, hKK.moved hW, hDc.weaken (fun _ _ _ _ => trivial)⟩⟩ rfl rfl hl.1 rfl (lv_room (Nat.le_of_ble_eq_true rfl)) dS_begin_44 ⟨Nat.le_of_ble_eq_true rfl, Nat.le_of_ble_eq_true rfl⟩) hS (fun q _ h => hFc q h) hFc (fun u2 t H1 locs ht hvm he9 hB hz1 hk1 hS => ?_)
  obtain ⟨hP, hD⟩ := va_join (wr := [(x, .inr (3, [.ref d, .ref tb, .ref wa, .ref ts, .int 0, .int 1, .int 0, .int 22])), (d, .inr (0, [.ref w, .int (-1), .int 0, .int 0])), (ts, .inl (cT, 3, .inr (.inr (.inr (.inr (tF t0 t1 t2))))))]) (w1 := []) hP hD [6, 7, 8, 9, 10, 2, 3, 4] [0, 1, 5] rfl rfl (by decide) (by decide) hk1 hFc tk_P0 tk_D0
  generalize H1 = H at hP hS ⊢
  have hP : va_P (dC, dI) vwC [(x, .inr (3, [.ref d, .ref tb, .ref wa, .ref ts, .int 0, .int 1, .int 0, .int 22])), (d, .inr (0, [.ref w, .int (-1), .int 0, .int 0])), (ts, .inl (cT, 3, .inr (.inr (.inr (.inr (tF t0 t1 t2))))))] H := hP
  have hD : va_D A [(x, .inr (3, [.ref d, .ref tb, .ref wa, .ref ts, .int 0, .int 1, .int 0, .int 22])), (d, .inr (0, [.ref w, .int (-1), .int 0, .int 0])), (ts, .inl (cT, 3, .inr (.inr (.inr (.inr (tF t0 t1 t2))))))] := hD
  refine lv_aload_n hx hb dS_begin_47 rfl (lv_at hl 0 rfl) ?_
  refine va_get (D := (dC, dI)) (ci := 3) (v := .int 0) (C := "LoggedStore") (T := uS) (N := 8) hx hb hw inS hown hK hP 0 rfl rfl 4 (by decide) (hw _ w158) (fun _ h9 => h9) rfl dS_begin_48 ?_
  refine W.widen (k := 0) (n := 0) (by decide) (by decide) ?_
  exact W.iret (v := 0) hx hb hr (fun t ht hW => ⟨⟨0, fun _ => 0, rfl, rfl, trivial⟩, hS.F ht⟩) hS.2.2 dS_begin_51

set_option maxHeartbeats 4000000 in
set_option maxRecDepth 100000 in
theorem c_begin_2 (l : Launch) (dC : Nat → ClassId) (dI : Nat → Nat → Nat) (cI cZ cJ cT : ClassId) (x d w tb hs ns wa ts t0 v0 vh0 vn0 vw0 t1 v1 vh1 vn1 vw1 t2 v2 vh2 vn2 vw2 : Nat) (sz : Nat) : Met l yS_begin (Cond.code yS_begin cS_begin 2 (some .int) :: wsA) ({ frames := 2, cells := 0, slots := 0, locals := 45 }) (va_Pc [.ref x, .int 2] (fun U => U.heap.size = sz ∧ va_P (dC, dI) vwC [(x, .inr (3, [.ref d, .ref tb, .ref wa, .ref ts, .int 0, .int 1, .int 0, .int 22])), (d, .inr (0, [.ref w, .int (-1), .int 0, .int 0])), (tb, .inr (1, [.ref hs, .ref ns, .int 0])), (hs, .inl (cZ, 64, .inl (fun _ => 0))), (ns, .inl (cI, 64, .inl (fun _ => 0))), (ts, .inl (cT, 3, .inr (.inr (.inr (.inr (tF t0 t1 t2)))))), (t2, .inr (2, [.ref v2, .ref vw2, .int 0, .int 0, .int 0])), (v2, .inr (1, [.ref vh2, .ref vn2, .int 0])), (vh2, .inl (cZ, 64, .inl (fun _ => 0))), (vn2, .inl (cI, 64, .inl (fun _ => 0))), (vw2, .inl (cZ, 64, .inl (fun _ => 0)))] U.heap ∧ KK dC dI cI cZ cJ cT U ∧ va_D (fun _ => True) [(x, .inr (3, [.ref d, .ref tb, .ref wa, .ref ts, .int 0, .int 1, .int 0, .int 22])), (d, .inr (0, [.ref w, .int (-1), .int 0, .int 0])), (tb, .inr (1, [.ref hs, .ref ns, .int 0])), (hs, .inl (cZ, 64, .inl (fun _ => 0))), (ns, .inl (cI, 64, .inl (fun _ => 0))), (ts, .inl (cT, 3, .inr (.inr (.inr (.inr (tF t0 t1 t2)))))), (t2, .inr (2, [.ref v2, .ref vw2, .int 0, .int 0, .int 0])), (v2, .inr (1, [.ref vh2, .ref vn2, .int 0])), (vh2, .inl (cZ, 64, .inl (fun _ => 0))), (vn2, .inl (cI, 64, .inl (fun _ => 0))), (vw2, .inl (cZ, 64, .inl (fun _ => 0)))])) (va_Qi (S := Nat → Nat) (fun r _ => r = 0) (fun _ _ => True) (va_A [(x, .inr (3, [.ref d, .ref tb, .ref wa, .ref ts, .int 0, .int 1, .int 0, .int 22])), (d, .inr (0, [.ref w, .int (-1), .int 0, .int 0])), (tb, .inr (1, [.ref hs, .ref ns, .int 0])), (hs, .inl (cZ, 64, .inl (fun _ => 0))), (ns, .inl (cI, 64, .inl (fun _ => 0))), (ts, .inl (cT, 3, .inr (.inr (.inr (.inr (tF t0 t1 t2)))))), (t2, .inr (2, [.ref v2, .ref vw2, .int 0, .int 0, .int 0])), (v2, .inr (1, [.ref vh2, .ref vn2, .int 0])), (vh2, .inl (cZ, 64, .inl (fun _ => 0))), (vn2, .inl (cI, 64, .inl (fun _ => 0))), (vw2, .inl (cZ, 64, .inl (fun _ => 0)))] sz)) 0 0 (va_A [(x, .inr (3, [.ref d, .ref tb, .ref wa, .ref ts, .int 0, .int 1, .int 0, .int 22])), (d, .inr (0, [.ref w, .int (-1), .int 0, .int 0])), (tb, .inr (1, [.ref hs, .ref ns, .int 0])), (hs, .inl (cZ, 64, .inl (fun _ => 0))), (ns, .inl (cI, 64, .inl (fun _ => 0))), (ts, .inl (cT, 3, .inr (.inr (.inr (.inr (tF t0 t1 t2)))))), (t2, .inr (2, [.ref v2, .ref vw2, .int 0, .int 0, .int 0])), (v2, .inr (1, [.ref vh2, .ref vn2, .int 0])), (vh2, .inl (cZ, 64, .inl (fun _ => 0))), (vn2, .inl (cI, 64, .inl (fun _ => 0))), (vw2, .inl (cZ, 64, .inl (fun _ => 0)))] sz) := by
  refine Met.ofW (cc := cS_begin) (maxL := 2) (ret := (some .int)) (by decide) rfl ?_
  intro p e s m args below meth c s₁ B hml hv
  obtain ⟨rfl, hsz, hP, hKK, hD0⟩ := hv
  have hK := hKK.1
  have hx := B.exec
  have hb := B.bytes
  have hr := B.returns
  have hw : ∀ w ∈ wsA, w.before _ s = true := fun w h => atoms_spec (ws := (Cond.code yS_begin cS_begin 2 (some .int) :: wsA)) B.pre w (List.mem_cons_of_mem _ h)
  have hown : s.vm.findClass "LoggedStore" = some m.cls := findClass_of_methodNamed B.named
  have hlocks := B.notSynchronized
  subst hsz
  have hD := hD0.self (sz := s.heap.size)
  generalize hAe : va_A [(x, .inr (3, [.ref d, .ref tb, .ref wa, .ref ts, .int 0, .int 1, .int 0, .int 22])), (d, .inr (0, [.ref w, .int (-1), .int 0, .int 0])), (tb, .inr (1, [.ref hs, .ref ns, .int 0])), (hs, .inl (cZ, 64, .inl (fun _ => 0))), (ns, .inl (cI, 64, .inl (fun _ => 0))), (ts, .inl (cT, 3, .inr (.inr (.inr (.inr (tF t0 t1 t2)))))), (t2, .inr (2, [.ref v2, .ref vw2, .int 0, .int 0, .int 0])), (v2, .inr (1, [.ref vh2, .ref vn2, .int 0])), (vh2, .inl (cZ, 64, .inl (fun _ => 0))), (vn2, .inl (cI, 64, .inl (fun _ => 0))), (vw2, .inl (cZ, 64, .inl (fun _ => 0)))] s.heap.size = A at hD ⊢
  have hA : ∀ q : Nat, s.heap.size ≤ q → A q := fun q h => by rw [← hAe]; exact Or.inr h
  have hS : va_S A s.heap s.heap [] := va_S.rf
  have hl := lv_entry ([.ref x, .int 2]) (n := 2) (Nat.le_of_ble_eq_true rfl)
  rw [lg_entry_eq]
  generalize (lg_sl ([.ref x, .int 2]) ++ List.replicate (2 - (lg_sl ([.ref x, .int 2])).length) Slot.unset).toArray = ls at hl ⊢
  have hl : lv_has ls 2 [(0, .ref x), (1, .int 2)] := hl
  refine lv_aload_n hx hb dS_begin_0 rfl (lv_at hl 0 rfl) ?_
  have hPc := hP.sub (ws' := [(x, .inr (3, [.ref d, .ref tb, .ref wa, .ref ts, .int 0, .int 1, .int 0, .int 22])), (d, .inr (0, [.ref w, .int (-1), .int 0, .int 0]))]) [0, 1] rfl
  refine va_csv (W.runV (C := "LoggedStore") (b := x) (As := []) (rest := []) ⟨hx, hb, hml, hown, hw⟩ (c_requireUp l dC dI cI cZ cJ cT x d w tb wa ts) ⟨callB_of 0 hw (gA0 w292) rfl rfl rfl (hw _ w40) (hw _ w289) (by decide +kernel) ⟨Nat.le_of_ble_eq_true rfl, Nat.le_of_ble_eq_true rfl⟩, (hw _ w291), (hw _ w10)⟩ ⟨kb_S, va_recv (ci := 3) (q0 := 0) hK hP rfl rfl, fun U hU hW => ⟨rfl, by rw [hU]; exact hPc, hKK.moved hW⟩⟩ rfl rfl hl.1 rfl (lv_room (Nat.le_of_ble_eq_true rfl)) dS_begin_1 ⟨Nat.le_of_ble_eq_true rfl, Nat.le_of_ble_eq_true rfl⟩) (fun _ => ?_)
  refine lv_iload_n hx hb dS_begin_4 rfl (lv_at hl 1 rfl) ?_
  have hPc := hP.sub (ws' := []) [] rfl
  refine va_csv (W.runS (As := [.int 2]) (rest := []) ⟨hx, hb, hml, hown, hw⟩ (c_rT_2 l dC dI cI cZ cJ cT) ⟨callB_of 1 hw (gA0 w365) rfl rfl rfl (hw _ w40) (hw _ w363) (by decide +kernel) ⟨Nat.le_of_ble_eq_true rfl, Nat.le_of_ble_eq_true rfl⟩, (hw _ w364)⟩ ⟨kb_S, fun U hU hW => ⟨rfl, by rw [hU]; exact hPc, hKK.moved hW⟩⟩ rfl rfl hl.1 rfl (lv_room (Nat.le_of_ble_eq_true rfl)) dS_begin_5 ⟨Nat.le_of_ble_eq_true rfl, Nat.le_of_ble_eq_true rfl⟩) (fun _ => ?_)
  refine lv_aload_n hx hb dS_begin_8 rfl (lv_at hl 0 rfl) ?_
  refine va_get (D := (dC, dI)) (ci := 3) (v := .ref ts) (C := "LoggedStore") (T := uS) (N := 8) hx hb hw inS hown hK hP 0 rfl rfl 3 (by decide) (hw _ w157) (fun _ h9 => h9) rfl dS_begin_9 ?_
  refine lv_iload_n hx hb dS_begin_12 rfl (lv_at hl 1 rfl) ?_
  refine va_aldq hx hb hK hP 5 3 rfl rfl (tv_in (by decide +kernel)) dS_begin_13 ?_
  refine W.eq (g2 := F0 m 14 ls [.ref t2]) rfl ?_
  refine va_get (D := (dC, dI)) (ci := 2) (v := .int 0) (C := "LoggedStore$Transaction") (T := uR) (N := 5) hx hb hw inR hown hK hP 6 rfl rfl 4 (by decide) (hw _ w122) (fun _ h9 => h9) rfl dS_begin_14 ?_
  refine lv_if_eq (tgt := 30) hx hb dS_begin_17 (by decide) (fun _ => ?_) (fun h9 => absurd (by decide) h9)
  refine lv_aload_n hx hb dS_begin_30 rfl (lv_at hl 0 rfl) ?_
  refine va_get (D := (dC, dI)) (ci := 3) (v := .ref ts) (C := "LoggedStore") (T := uS) (N := 8) hx hb hw inS hown hK hP 0 rfl rfl 3 (by decide) (hw _ w157) (fun _ h9 => h9) rfl dS_begin_31 ?_
  refine lv_iload_n hx hb dS_begin_34 rfl (lv_at hl 1 rfl) ?_
  refine va_aldq hx hb hK hP 5 3 rfl rfl (tv_in (by decide +kernel)) dS_begin_35 ?_
  refine W.eq (g2 := F0 m 36 ls [.ref t2]) rfl ?_
  refine lv_aload_n hx hb dS_begin_36 rfl (lv_at hl 0 rfl) ?_
  refine va_get (D := (dC, dI)) (ci := 3) (v := .ref tb) (C := "LoggedStore") (T := uS) (N := 8) hx hb hw inS hown hK hP 0 rfl rfl 1 (by decide) (hw _ w155) (fun _ h9 => h9) rfl dS_begin_37 ?_
  refine lv_aload_n hx hb dS_begin_40 rfl (lv_at hl 0 rfl) ?_
  refine va_get (D := (dC, dI)) (ci := 3) (v := .int 0) (C := "LoggedStore") (T := uS) (N := 8) hx hb hw inS hown hK hP 0 rfl rfl 4 (by decide) (hw _ w158) (fun _ h9 => h9) rfl dS_begin_41 ?_
  have hPc := hP.sub (ws' := [(t2, .inr (2, [.ref v2, .ref vw2, .int 0, .int 0, .int 0])), (v2, .inr (1, [.ref vh2, .ref vn2, .int 0])), (vh2, .inl (cZ, 64, .inl (fun _ => 0))), (vn2, .inl (cI, 64, .inl (fun _ => 0))), (vw2, .inl (cZ, 64, .inl (fun _ => 0))), (tb, .inr (1, [.ref hs, .ref ns, .int 0])), (hs, .inl (cZ, 64, .inl (fun _ => 0))), (ns, .inl (cI, 64, .inl (fun _ => 0)))]) [6, 7, 8, 9, 10, 2, 3, 4] rfl
  have hDc := hD.sub (ws' := [(t2, .inr (2, [.ref v2, .ref vw2, .int 0, .int 0, .int 0])), (v2, .inr (1, [.ref vh2, .ref vn2, .int 0])), (vh2, .inl (cZ, 64, .inl (fun _ => 0))), (vn2, .inl (cI, 64, .inl (fun _ => 0))), (vw2, .inl (cZ, 64, .inl (fun _ => 0))), (tb, .inr (1, [.ref hs, .ref ns, .int 0])), (hs, .inl (cZ, 64, .inl (fun _ => 0))), (ns, .inl (cI, 64, .inl (fun _ => 0)))]) [6, 7, 8, 9, 10, 2, 3, 4] (by decide) rfl
  have hFc := va_free (wc := [(t2, .inr (2, [.ref v2, .ref vw2, .int 0, .int 0, .int 0])), (v2, .inr (1, [.ref vh2, .ref vn2, .int 0])), (vh2, .inl (cZ, 64, .inl (fun _ => 0))), (vn2, .inl (cI, 64, .inl (fun _ => 0))), (vw2, .inl (cZ, 64, .inl (fun _ => 0))), (tb, .inr (1, [.ref hs, .ref ns, .int 0])), (hs, .inl (cZ, 64, .inl (fun _ => 0))), (ns, .inl (cI, 64, .inl (fun _ => 0)))]) hD hS hA [6, 7, 8, 9, 10, 2, 3, 4] rfl
  refine va_callv (va_runV (C := "LoggedStore$Transaction") (b := t2) (As := [.ref tb, .int 0]) (rest := []) ⟨hx, hb, hml, hown, hw⟩ (c_start l dC dI cI cZ cJ cT t2 v2 vh2 vn2 vw2 tb hs ns s.heap.size) ⟨callB_of 2 hw (gA0 w401) rfl rfl rfl (hw _ w43) (hw _ w398) (by decide +kernel) ⟨Nat.le_of_ble_eq_true rfl, Nat.le_of_ble_eq_true rfl⟩, (hw _ w399), (hw _ w400)⟩ ⟨kb_Q, va_recv (ci := 2) (q0 := 6) hK hP rfl rfl, fun U hU hW => ⟨rfl, by rw [hU], by rw [hU]; exact hPc, hKK.moved hW, hDc.weaken (fun _ _ _ _ => trivial)⟩⟩ rfl rfl hl.1 rfl (lv_room (Nat.le_of_ble_eq_true rfl)) dS_begin_44 ⟨Nat.le_of_ble_eq_true rfl, Nat.le_of_ble_eq_true rfl⟩) hS (fun q _ h => hFc q h) hFc (fun u2 t H1 locs ht hvm he9 hB hz1 hk1 hS => ?_)
  obtain ⟨hP, hD⟩ := va_join (wr := [(x, .inr (3, [.ref d, .ref tb, .ref wa, .ref ts, .int 0, .int 1, .int 0, .int 22])), (d, .inr (0, [.ref w, .int (-1), .int 0, .int 0])), (ts, .inl (cT, 3, .inr (.inr (.inr (.inr (tF t0 t1 t2))))))]) (w1 := []) hP hD [6, 7, 8, 9, 10, 2, 3, 4] [0, 1, 5] rfl rfl (by decide) (by decide) hk1 hFc tk_P0 tk_D0
  generalize H1 = H at hP hS ⊢
  have hP : va_P (dC, dI) vwC [(x, .inr (3, [.ref d, .ref tb, .ref wa, .ref ts, .int 0, .int 1, .int 0, .int 22])), (d, .inr (0, [.ref w, .int (-1), .int 0, .int 0])), (ts, .inl (cT, 3, .inr (.inr (.inr (.inr (tF t0 t1 t2))))))] H := hP
  have hD : va_D A [(x, .inr (3, [.ref d, .ref tb, .ref wa, .ref ts, .int 0, .int 1, .int 0, .int 22])), (d, .inr (0, [.ref w, .int (-1), .int 0, .int 0])), (ts, .inl (cT, 3, .inr (.inr (.inr (.inr (tF t0 t1 t2))))))] := hD
  refine lv_aload_n hx hb dS_begin_47 rfl (lv_at hl 0 rfl) ?_
  refine va_get (D := (dC, dI)) (ci := 3) (v := .int 0) (C := "LoggedStore") (T := uS) (N := 8) hx hb hw inS hown hK hP 0 rfl rfl 4 (by decide) (hw _ w158) (fun _ h9 => h9) rfl dS_begin_48 ?_
  refine W.widen (k := 0) (n := 0) (by decide) (by decide) ?_
  exact W.iret (v := 0) hx hb hr (fun t ht hW => ⟨⟨0, fun _ => 0, rfl, rfl, trivial⟩, hS.F ht⟩) hS.2.2 dS_begin_51

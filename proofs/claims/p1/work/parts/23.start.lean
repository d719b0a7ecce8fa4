set_option maxRecDepth 100000 in
theorem w55 : (Cond.classLink "LoggedStoreLaw" 8 "LoggedStore") ∈ wsA := List.mem_filter.mpr ⟨List.mem_of_getElem? (i := 55) rfl, rfl⟩
set_option maxRecDepth 100000 in
theorem w56 : (Cond.instantiable "LoggedStore" 8) ∈ wsA := List.mem_filter.mpr ⟨List.mem_of_getElem? (i := 56) rfl, rfl⟩
set_option maxRecDepth 100000 in
theorem w57 : (Cond.methodLink "LoggedStoreLaw" 60 yS_init) ∈ wsA := List.mem_filter.mpr ⟨List.mem_of_getElem? (i := 57) rfl, rfl⟩
set_option maxRecDepth 100000 in
theorem w58 : (Cond.instanceMethod yS_init) ∈ wsA := List.mem_filter.mpr ⟨List.mem_of_getElem? (i := 58) rfl, rfl⟩
set_option maxRecDepth 100000 in
theorem w600 : (Cond.classLink "LoggedStoreLaw" 61 "LoggedStoreModel") ∈ wsA := List.mem_filter.mpr ⟨List.mem_of_getElem? (i := 600) rfl, rfl⟩
set_option maxRecDepth 100000 in
theorem w601 : (Cond.instantiable "LoggedStoreModel" 18) ∈ wsA := List.mem_filter.mpr ⟨List.mem_of_getElem? (i := 601) rfl, rfl⟩
set_option maxRecDepth 100000 in
theorem w602 : (Cond.methodLink "LoggedStoreLaw" 63 yM_init) ∈ wsA := List.mem_filter.mpr ⟨List.mem_of_getElem? (i := 602) rfl, rfl⟩
set_option maxRecDepth 100000 in
theorem w603 : (Cond.instanceMethod yM_init) ∈ wsA := List.mem_filter.mpr ⟨List.mem_of_getElem? (i := 603) rfl, rfl⟩
set_option maxRecDepth 100000 in
theorem w810 : (Cond.arrayClass .long) ∈ wsA := List.mem_filter.mpr ⟨List.mem_of_getElem? (i := 810) rfl, rfl⟩
theorem dL_law_0 : decode cL_law 0 = .ok (.new 8, 3) := by decide +kernel
theorem dL_law_3 : decode cL_law 3 = .ok (.dup, 1) := by decide +kernel
theorem dL_law_4 : decode cL_law 4 = .ok (.invokespecial 60, 3) := by decide +kernel
theorem dL_law_7 : decode cL_law 7 = .ok (.astore_n 1, 1) := by decide +kernel
theorem dL_law_8 : decode cL_law 8 = .ok (.new 61, 3) := by decide +kernel
theorem dL_law_11 : decode cL_law 11 = .ok (.dup, 1) := by decide +kernel
theorem dL_law_12 : decode cL_law 12 = .ok (.invokespecial 63, 3) := by decide +kernel
theorem dL_law_15 : decode cL_law 15 = .ok (.astore_n 2, 1) := by decide +kernel
theorem dL_law_16 : decode cL_law 16 = .ok (.iconst 1, 1) := by decide +kernel
theorem dL_law_17 : decode cL_law 17 = .ok (.newarray .long, 2) := by decide +kernel
theorem dL_law_19 : decode cL_law 19 = .ok (.astore_n 3, 1) := by decide +kernel
theorem dL_law_20 : decode cL_law 20 = .ok (.iconst 0, 1) := by decide +kernel
theorem dL_law_21 : decode cL_law 21 = .ok (.istore 4, 2) := by decide +kernel
theorem dL_law_32 : decode cL_law 32 = .ok (.aload_n 0, 1) := by decide +kernel
theorem dL_law_33 : decode cL_law 33 = .ok (.iload 4, 2) := by decide +kernel
theorem dL_law_35 : decode cL_law 35 = .ok (.iaload, 1) := by decide +kernel
theorem dL_law_36 : decode cL_law 36 = .ok (.bipush 15, 2) := by decide +kernel
theorem dL_law_38 : decode cL_law 38 = .ok (.iand, 1) := by decide +kernel
theorem tx_arg {s : State} {A A' : Array Value} {L : List Cond} {w : Cond} (hw : tx_okw L w = true) (h : w.before A s = true) : w.before A' s = true := by
  by_cases hg : (w.onTables && w.keeps) = true
  · exact va_tabs (by simp only [Bool.and_eq_true] at hg; exact hg.1) rfl h
  · cases w with
    | declares x => exact va_tabs rfl rfl h
    | castable C T => exact va_tabs rfl rfl h
    | laysStatic O f d => exact h
    | isRef t =>
      cases t with
      | static O f d => exact h
      | _ => exact absurd hw hg
    | _ => exact absurd hw hg

theorem st_words {s : State} {b : Nat} (hts : ∀ w ∈ lw_tbl, w.before #[Value.ref b] s = true) (hgv : (Jvm.Cond.and given_1 narrow_1).before #[Value.ref b] s = true) {L : List Cond} (hin : L.all (fun w => lw_tbl.contains w || (flatC (Jvm.Cond.and given_1 narrow_1)).contains w) = true) (hok : L.all (tx_okw L) = true) : ∀ w ∈ L, w.before #[] s = true := by
  intro w hw
  have h1 := List.all_eq_true.mp hin w hw
  refine tx_arg (A := #[Value.ref b]) (List.all_eq_true.mp hok w hw) ?_
  rcases Bool.or_eq_true _ _ |>.mp h1 with h2 | h2
  · exact hts w (by simpa using h2)
  · exact flat_of_before _ hgv w (by simpa using h2)

theorem st_in1 : (Bundle.ownAtoms "LoggedStore" 184 "java/lang/IllegalArgumentException" ["java/lang/RuntimeException", "java/lang/Exception"]).all (fun w => lw_tbl.contains w || (flatC (Jvm.Cond.and given_1 narrow_1)).contains w) = true := by decide +kernel

theorem st_ok1 : (Bundle.ownAtoms "LoggedStore" 184 "java/lang/IllegalArgumentException" ["java/lang/RuntimeException", "java/lang/Exception"]).all (tx_okw (Bundle.ownAtoms "LoggedStore" 184 "java/lang/IllegalArgumentException" ["java/lang/RuntimeException", "java/lang/Exception"])) = true := by decide +kernel

theorem st_in2 : nseL.all (fun w => lw_tbl.contains w || (flatC (Jvm.Cond.and given_1 narrow_1)).contains w) = true := by decide +kernel

theorem st_ok2 : nseL.all (tx_okw nseL) = true := by decide +kernel

theorem st_KS {p : Program} {s : State} {m : MethodId} {meth : Method} {c : Code} {b L : Nat} {xs : Nat → Int32} (C0 : lw_At p s m meth c b L xs) : KS s := by
  obtain ⟨hx, hb, hr, hml, hown, hts, hXs, hbl, hlocks, hgv⟩ := C0
  exact ⟨st_ok1, st_words hts hgv st_in1 st_ok1⟩

theorem st_KS2 {p : Program} {s : State} {m : MethodId} {meth : Method} {c : Code} {b L : Nat} {xs : Nat → Int32} (C0 : lw_At p s m meth c b L xs) : KS2 s := by
  obtain ⟨hx, hb, hr, hml, hown, hts, hXs, hbl, hlocks, hgv⟩ := C0
  exact ⟨st_ok2, st_words hts hgv st_in2 st_ok2⟩

set_option maxHeartbeats 4000000 in
set_option maxRecDepth 100000 in
theorem st_KN {p : Program} {s : State} {m : MethodId} {meth : Method} {c : Code} {b L : Nat} {xs : Nat → Int32} (C0 : lw_At p s m meth c b L xs) : KN s := by
  obtain ⟨hx, hb, hr, hml, hown, hts, hXs, hbl, hlocks, hgv⟩ := C0
  have hw : ∀ w ∈ wsA, w.before #[Value.ref b] s = true := fun w h => hts w (List.mem_filter.mp h).1
  obtain ⟨c3, i3, k3⟩ := u_known hw inS (hw _ w56)
  obtain ⟨-, hfc, -⟩ := k3
  have g182 := hts (.stringRef "LoggedStore" 182 "there is no such transaction") (List.mem_of_getElem? (i := 375) rfl)
  obtain ⟨-, -, -, q182, -, -, -, -, -, e182⟩ := Cond.stringRef_spec hfc g182
  have g185 := hts (.stringRef "LoggedStore" 185 "the transaction is not open") (List.mem_of_getElem? (i := 422) rfl)
  obtain ⟨-, -, -, q185, -, -, -, -, -, e185⟩ := Cond.stringRef_spec hfc g185
  have g191 := hts (.stringRef "LoggedStore" 191 "there is no such key") (List.mem_of_getElem? (i := 427) rfl)
  obtain ⟨-, -, -, q191, -, -, -, -, -, e191⟩ := Cond.stringRef_spec hfc g191
  have g195 := hts (.stringRef "LoggedStore" 195 "the key has no number") (List.mem_of_getElem? (i := 440) rfl)
  obtain ⟨-, -, -, q195, -, -, -, -, -, e195⟩ := Cond.stringRef_spec hfc g195
  exact ⟨va_Nw.of rfl (hts (.methodLinkNest "LoggedStore" 9 yD_init "LoggedStore") (List.mem_of_getElem? (i := 65) rfl)),
    va_Nw.of rfl (hts (.methodLinkNest "LoggedStore" 18 yT_init "LoggedStore") (List.mem_of_getElem? (i := 86) rfl)),
    va_Nw.of rfl (hts (.methodLinkNest "LoggedStore" 46 yR_init "LoggedStore") (List.mem_of_getElem? (i := 107) rfl)),
    va_Nw.of rfl (hts (.methodLinkNest "LoggedStore$Transaction" 11 yT_init "LoggedStore") (List.mem_of_getElem? (i := 112) rfl)),
    va_Nw.of rfl (hts (.methodLinkNest "LoggedStore$Disk" 26 yS_headerBlock "LoggedStore") (List.mem_of_getElem? (i := 138) rfl)),
    va_Nw.of rfl (hts (.methodLinkNest "LoggedStore$Table" 31 yS_isKey "LoggedStore") (List.mem_of_getElem? (i := 245) rfl)),
    va_AO.of (hts (.arrayOver (.object "LoggedStore$Transaction")) (List.mem_of_getElem? (i := 105) rfl)),
    ⟨q182, vk_R.of g182 e182⟩,
    ⟨q185, vk_R.of g185 e185⟩,
    ⟨q191, vk_R.of g191 e191⟩,
    ⟨q195, vk_R.of g195 e195⟩,
    va_Nc.of (flat_of_before _ hgv (Cond.not (.castable "java/lang/IllegalArgumentException" "java/lang/IllegalStateException")) (by decide +kernel)),
    va_Nc.of (flat_of_before _ hgv (Cond.not (.castable "java/util/NoSuchElementException" "java/lang/IllegalStateException")) (by decide +kernel)),
    va_Nc.of (flat_of_before _ hgv (Cond.not (.castable "java/util/NoSuchElementException" "java/lang/IllegalArgumentException")) (by decide +kernel)),
    va_Nw.of rfl (hts (.castable "java/lang/IllegalArgumentException" "java/lang/IllegalArgumentException") (List.mem_of_getElem? (i := 368) rfl)),
    va_Nw.of rfl (hts (.castable "java/util/NoSuchElementException" "java/util/NoSuchElementException") (List.mem_of_getElem? (i := 433) rfl))⟩

set_option maxHeartbeats 4000000 in
set_option maxRecDepth 100000 in
theorem st_KK {p : Program} {s : State} {m : MethodId} {meth : Method} {c : Code} {b L : Nat} {xs : Nat → Int32} (C0 : lw_At p s m meth c b L xs) : ∃ (dC : Nat → ClassId) (dI : Nat → Nat → Nat) (cI cZ cJ cT : ClassId), KK dC dI cI cZ cJ cT s := by
  have hN := st_KN C0
  obtain ⟨hx, hb, hr, hml, hown, hts, hXs, hbl, hlocks, hgv⟩ := C0
  have hw : ∀ w ∈ wsA, w.before #[Value.ref b] s = true := fun w h => hts w (List.mem_filter.mp h).1
  obtain ⟨c0, i0, k0⟩ := u_known hw inD (hw _ w64)
  obtain ⟨c1, i1, k1⟩ := u_known hw inT (hw _ w85)
  obtain ⟨c2, i2, k2⟩ := u_known hw inR (hw _ w106)
  obtain ⟨c3, i3, k3⟩ := u_known hw inS (hw _ w56)
  obtain ⟨c4, i4, k4⟩ := u_known hw inM (hw _ w601)
  obtain ⟨cI, hcI⟩ := tk_prim (ty := .int) (fun _ h => by cases h) (hw _ w83)
  obtain ⟨cZ, hcZ⟩ := tk_prim (ty := .boolean) (fun _ h => by cases h) (hw _ w103)
  obtain ⟨cJ, hcJ⟩ := tk_prim (ty := .long) (fun _ h => by cases h) (hw _ w810)
  obtain ⟨cT, hcT⟩ := tk_obj (C := "LoggedStore$Transaction") (hts (.arrayOver (.object "LoggedStore$Transaction")) (List.mem_of_getElem? (i := 105) rfl))
  refine ⟨fun k => match k with | 0 => c0 | 1 => c1 | 2 => c2 | 3 => c3 | _ => c4, fun k => match k with | 0 => i0 | 1 => i1 | 2 => i2 | 3 => i3 | _ => i4, cI, cZ, cJ, cT, ⟨?_, ?_⟩, hN⟩
  · intro c9 q h
    have hlt : c9 < 5 := by
      rcases Nat.lt_or_ge c9 5 with h5 | h5
      · exact h5
      · have h6 : (vwC)[c9]? = none := List.getElem?_eq_none h5
        rw [h6] at h; cases h
    have h9 : c9 = 0 ∨ c9 = 1 ∨ c9 = 2 ∨ c9 = 3 ∨ c9 = 4 := by omega
    rcases h9 with rfl | rfl | rfl | rfl | rfl
    · obtain rfl := Option.some.inj (show some (("LoggedStore$Disk", uD, 4) : vw_C) = some q from h); exact k0
    · obtain rfl := Option.some.inj (show some (("LoggedStore$Table", uT, 3) : vw_C) = some q from h); exact k1
    · obtain rfl := Option.some.inj (show some (("LoggedStore$Transaction", uR, 5) : vw_C) = some q from h); exact k2
    · obtain rfl := Option.some.inj (show some (("LoggedStore", uS, 8) : vw_C) = some q from h); exact k3
    · obtain rfl := Option.some.inj (show some (("LoggedStoreModel", uM, 18) : vw_C) = some q from h); exact k4
  · intro c9 q h
    have hlt : c9 < 4 := by
      rcases Nat.lt_or_ge c9 4 with h5 | h5
      · exact h5
      · have h6 : (tyA cI cZ cJ cT)[c9]? = none := List.getElem?_eq_none h5
        rw [h6] at h; cases h
    have h9 : c9 = 0 ∨ c9 = 1 ∨ c9 = 2 ∨ c9 = 3 := by omega
    rcases h9 with rfl | rfl | rfl | rfl
    · obtain rfl := Option.some.inj (show some ((cI, .int) : ClassId × FieldType) = some q from h); exact hcI
    · obtain rfl := Option.some.inj (show some ((cZ, .boolean) : ClassId × FieldType) = some q from h); exact hcZ
    · obtain rfl := Option.some.inj (show some ((cJ, .long) : ClassId × FieldType) = some q from h); exact hcJ
    · obtain rfl := Option.some.inj (show some ((cT, .object "LoggedStore$Transaction") : ClassId × FieldType) = some q from h); exact hcT

theorem dL_law_39 : decode cL_law 39 = .ok (.tableswitch 846 0 15 #[77, 133, 201, 288, 336, 404, 460, 516, 560, 616, 660, 704, 748, 783, 796, 809], 77) := by decide +kernel
set_option maxHeartbeats 8000000 in
set_option maxRecDepth 100000 in
theorem whole_start {p : Program} {e : Env} {s : State} {m : MethodId} {below : List Frame} {meth : Method} {c : Code} (l : Launch) (hl9 : l.stackTraces = false) {b L : Nat} {xs : Nat → Int32} (hL : L ≤ 4) (C0 : lw_At p s m meth c b L xs) : W p l e room_1 s m #[Value.ref b] below meth c s.heap [] 0 0 (lw_Z below #[Value.ref b] s) (entryFrame m ([Value.ref b] : List Value).toArray 7) := by
  have C00 := C0
  obtain ⟨dC, dI, cI, cZ, cJ, cT, hKK⟩ := st_KK C0
  have hX := st_KS C0
  have hX2 := st_KS2 C0
  have hK := hKK.1
  obtain ⟨hx, hb, hr, hml, hown, hts, hXs, hbl, hlocks, hgv⟩ := C0
  have hown : s.vm.findClass "LoggedStoreLaw" = some m.cls := hown
  have hw : ∀ w ∈ wsA, w.before #[Value.ref b] s = true := fun w h => hts w (List.mem_filter.mp h).1
  obtain ⟨A, hAe⟩ : ∃ A : Nat → Prop, A = fun q => s.heap.size ≤ q := ⟨_, rfl⟩
  have hbA : ¬ A b := by rw [hAe]; exact Nat.not_le.mpr hbl
  have hA : ∀ q : Nat, s.heap.size ≤ q → A q := by rw [hAe]; exact fun q h => h
  have hP : va_P (dC, dI) vwC [] s.heap := tk_P0
  have hD : va_D A [] := tk_D0
  have hS : va_S A s.heap s.heap [] := va_S.rf
  have hl := lv_entry ([.ref b]) (n := 7) (Nat.le_of_ble_eq_true rfl)
  rw [lg_entry_eq]
  generalize (lg_sl ([.ref b]) ++ List.replicate (7 - (lg_sl ([.ref b])).length) Slot.unset).toArray = ls at hl ⊢
  have hl : lv_has ls 7 [(0, .ref b)] := hl
  refine va_new (ci := 3) (fs := [.null, .null, .null, .null, .int 0, .int 0, .int 0, .int 0]) (C := "LoggedStore") (T := uS) (N := 8) hx hb hw inS tyS tyS_ok hown (hw _ w55) (hw _ w56) (hw _ w40) hK hP hD hS hA rfl (fun j hj => by (have : j = 0 ∨ j = 1 ∨ j = 2 ∨ j = 3 ∨ j = 4 ∨ j = 5 ∨ j = 6 ∨ j = 7 := by omega); rcases this with rfl | rfl | rfl | rfl | rfl | rfl | rfl | rfl <;> rfl) (Nat.le_of_ble_eq_true rfl) (Nat.le_of_ble_eq_true rfl) dL_law_0 (fun q1 H hP hD hS => ?_)
  have hP : va_P (dC, dI) vwC [(q1, .inr (3, [.null, .null, .null, .null, .int 0, .int 0, .int 0, .int 0]))] H := hP
  have hD : va_D A [(q1, .inr (3, [.null, .null, .null, .null, .int 0, .int 0, .int 0, .int 0]))] := hD
  refine lv_dup hx hb dL_law_3 rfl ?_
  have hPc := hP.sub (ws' := [(q1, .inr (3, [.null, .null, .null, .null, .int 0, .int 0, .int 0, .int 0]))]) [0] rfl
  have hDc := hD.sub (ws' := [(q1, .inr (3, [.null, .null, .null, .null, .int 0, .int 0, .int 0, .int 0]))]) [0] (by decide) rfl
  have hFc := va_free (wc := [(q1, .inr (3, [.null, .null, .null, .null, .int 0, .int 0, .int 0, .int 0]))]) hD hS hA [0] rfl
  refine va_callv (va_runI (b := q1) (As := []) (rest := [.ref q1]) ⟨hx, hb, hml, hown, hw⟩ (c_S_init l dC dI cI cZ cJ cT q1 H.size) ⟨callB_of 0 hw (gA0 w59) rfl rfl rfl (hw _ w40) (hw _ w57) (by decide +kernel) ⟨Nat.le_of_ble_eq_true rfl, Nat.le_of_ble_eq_true rfl⟩, rfl, (hw _ w58)⟩ ⟨kb_Q, fun U hU hW => ⟨rfl, by rw [hU], by rw [hU]; exact hPc, hKK.moved hW, hDc.weaken (fun _ _ _ _ => trivial)⟩⟩ rfl rfl hl.1 rfl (lv_room (Nat.le_of_ble_eq_true rfl)) dL_law_4 ⟨Nat.le_of_ble_eq_true rfl, Nat.le_of_ble_eq_true rfl⟩) hS (fun q _ h => hFc q h) hFc (fun u3 t H1 locs ht hvm he9 hB hz1 hk1 hS => ?_)
  obtain ⟨hP1, hD1⟩ := hB
  rw [ht] at hP1
  obtain ⟨hP, hD⟩ := va_join (wr := []) (w1 := [(q1, .inr (3, [.ref (u3 0), .ref (u3 2), .ref (u3 5), .ref (u3 6), .int 0, .int 1, .int 0, .int 22])), ((u3 0), .inr (0, [.ref (u3 1), .int (-1), .int 0, .int 0])), ((u3 1), .inl (cI, 384, .inl W0)), ((u3 2), .inr (1, [.ref (u3 3), .ref (u3 4), .int 0])), ((u3 3), .inl (cZ, 64, .inl (fun _ => 0))), ((u3 4), .inl (cI, 64, .inl (fun _ => 0))), ((u3 5), .inl (cI, 64, .inl (fun _ => 0))), ((u3 6), .inl (cT, 3, .inr (.inr (.inr (.inr (tF (u3 7) (u3 12) (u3 17))))))), ((u3 7), .inr (2, [.ref (u3 8), .ref (u3 11), .int 0, .int 0, .int 0])), ((u3 8), .inr (1, [.ref (u3 9), .ref (u3 10), .int 0])), ((u3 9), .inl (cZ, 64, .inl (fun _ => 0))), ((u3 10), .inl (cI, 64, .inl (fun _ => 0))), ((u3 11), .inl (cZ, 64, .inl (fun _ => 0))), ((u3 12), .inr (2, [.ref (u3 13), .ref (u3 16), .int 0, .int 0, .int 0])), ((u3 13), .inr (1, [.ref (u3 14), .ref (u3 15), .int 0])), ((u3 14), .inl (cZ, 64, .inl (fun _ => 0))), ((u3 15), .inl (cI, 64, .inl (fun _ => 0))), ((u3 16), .inl (cZ, 64, .inl (fun _ => 0))), ((u3 17), .inr (2, [.ref (u3 18), .ref (u3 21), .int 0, .int 0, .int 0])), ((u3 18), .inr (1, [.ref (u3 19), .ref (u3 20), .int 0])), ((u3 19), .inl (cZ, 64, .inl (fun _ => 0))), ((u3 20), .inl (cI, 64, .inl (fun _ => 0))), ((u3 21), .inl (cZ, 64, .inl (fun _ => 0)))]) hP hD [0] [] rfl rfl (by decide) (by decide) hk1 hFc hP1 hD1
  generalize H1 = H at hP hS ⊢
  have hP : va_P (dC, dI) vwC [(q1, .inr (3, [.ref (u3 0), .ref (u3 2), .ref (u3 5), .ref (u3 6), .int 0, .int 1, .int 0, .int 22])), ((u3 0), .inr (0, [.ref (u3 1), .int (-1), .int 0, .int 0])), ((u3 1), .inl (cI, 384, .inl W0)), ((u3 2), .inr (1, [.ref (u3 3), .ref (u3 4), .int 0])), ((u3 3), .inl (cZ, 64, .inl (fun _ => 0))), ((u3 4), .inl (cI, 64, .inl (fun _ => 0))), ((u3 5), .inl (cI, 64, .inl (fun _ => 0))), ((u3 6), .inl (cT, 3, .inr (.inr (.inr (.inr (tF (u3 7) (u3 12) (u3 17))))))), ((u3 7), .inr (2, [.ref (u3 8), .ref (u3 11), .int 0, .int 0, .int 0])), ((u3 8), .inr (1, [.ref (u3 9), .ref (u3 10), .int 0])), ((u3 9), .inl (cZ, 64, .inl (fun _ => 0))), ((u3 10), .inl (cI, 64, .inl (fun _ => 0))), ((u3 11), .inl (cZ, 64, .inl (fun _ => 0))), ((u3 12), .inr (2, [.ref (u3 13), .ref (u3 16), .int 0, .int 0, .int 0])), ((u3 13), .inr (1, [.ref (u3 14), .ref (u3 15), .int 0])), ((u3 14), .inl (cZ, 64, .inl (fun _ => 0))), ((u3 15), .inl (cI, 64, .inl (fun _ => 0))), ((u3 16), .inl (cZ, 64, .inl (fun _ => 0))), ((u3 17), .inr (2, [.ref (u3 18), .ref (u3 21), .int 0, .int 0, .int 0])), ((u3 18), .inr (1, [.ref (u3 19), .ref (u3 20), .int 0])), ((u3 19), .inl (cZ, 64, .inl (fun _ => 0))), ((u3 20), .inl (cI, 64, .inl (fun _ => 0))), ((u3 21), .inl (cZ, 64, .inl (fun _ => 0)))] H := hP
  have hD : va_D A [(q1, .inr (3, [.ref (u3 0), .ref (u3 2), .ref (u3 5), .ref (u3 6), .int 0, .int 1, .int 0, .int 22])), ((u3 0), .inr (0, [.ref (u3 1), .int (-1), .int 0, .int 0])), ((u3 1), .inl (cI, 384, .inl W0)), ((u3 2), .inr (1, [.ref (u3 3), .ref (u3 4), .int 0])), ((u3 3), .inl (cZ, 64, .inl (fun _ => 0))), ((u3 4), .inl (cI, 64, .inl (fun _ => 0))), ((u3 5), .inl (cI, 64, .inl (fun _ => 0))), ((u3 6), .inl (cT, 3, .inr (.inr (.inr (.inr (tF (u3 7) (u3 12) (u3 17))))))), ((u3 7), .inr (2, [.ref (u3 8), .ref (u3 11), .int 0, .int 0, .int 0])), ((u3 8), .inr (1, [.ref (u3 9), .ref (u3 10), .int 0])), ((u3 9), .inl (cZ, 64, .inl (fun _ => 0))), ((u3 10), .inl (cI, 64, .inl (fun _ => 0))), ((u3 11), .inl (cZ, 64, .inl (fun _ => 0))), ((u3 12), .inr (2, [.ref (u3 13), .ref (u3 16), .int 0, .int 0, .int 0])), ((u3 13), .inr (1, [.ref (u3 14), .ref (u3 15), .int 0])), ((u3 14), .inl (cZ, 64, .inl (fun _ => 0))), ((u3 15), .inl (cI, 64, .inl (fun _ => 0))), ((u3 16), .inl (cZ, 64, .inl (fun _ => 0))), ((u3 17), .inr (2, [.ref (u3 18), .ref (u3 21), .int 0, .int 0, .int 0])), ((u3 18), .inr (1, [.ref (u3 19), .ref (u3 20), .int 0])), ((u3 19), .inl (cZ, 64, .inl (fun _ => 0))), ((u3 20), .inl (cI, 64, .inl (fun _ => 0))), ((u3 21), .inl (cZ, 64, .inl (fun _ => 0)))] := hD
  refine lv_astore_n hx hb dL_law_7 rfl hl (by decide) rfl (fun ls hl => ?_)
  have hl : lv_has ls 7 [(1, .ref q1), (0, .ref b)] := hl
  refine va_new (ci := 4) (fs := [.int 0, .null, .int 0, .int 0, .int 0, .null, .null, .null, .int 0, .int 0, .int 0, .int 0, .null, .null, .null, .null, .null, .null]) (C := "LoggedStoreModel") (T := uM) (N := 18) hx hb hw inM tyM tyM_ok hown (hw _ w600) (hw _ w601) (hw _ w45) hK hP hD hS hA rfl (fun j hj => by (have : j = 0 ∨ j = 1 ∨ j = 2 ∨ j = 3 ∨ j = 4 ∨ j = 5 ∨ j = 6 ∨ j = 7 ∨ j = 8 ∨ j = 9 ∨ j = 10 ∨ j = 11 ∨ j = 12 ∨ j = 13 ∨ j = 14 ∨ j = 15 ∨ j = 16 ∨ j = 17 := by omega); rcases this with rfl | rfl | rfl | rfl | rfl | rfl | rfl | rfl | rfl | rfl | rfl | rfl | rfl | rfl | rfl | rfl | rfl | rfl <;> rfl) (Nat.le_of_ble_eq_true rfl) (Nat.le_of_ble_eq_true rfl) dL_law_8 (fun q4 H hP hD hS => ?_)
  have hP : va_P (dC, dI) vwC [(q1, .inr (3, [.ref (u3 0), .ref (u3 2), .ref (u3 5), .ref (u3 6), .int 0, .int 1, .int 0, .int 22])), ((u3 0), .inr (0, [.ref (u3 1), .int (-1), .int 0, .int 0])), ((u3 1), .inl (cI, 384, .inl W0)), ((u3 2), .inr (1, [.ref (u3 3), .ref (u3 4), .int 0])), ((u3 3), .inl (cZ, 64, .inl (fun _ => 0))), ((u3 4), .inl (cI, 64, .inl (fun _ => 0))), ((u3 5), .inl (cI, 64, .inl (fun _ => 0))), ((u3 6), .inl (cT, 3, .inr (.inr (.inr (.inr (tF (u3 7) (u3 12) (u3 17))))))), ((u3 7), .inr (2, [.ref (u3 8), .ref (u3 11), .int 0, .int 0, .int 0])), ((u3 8), .inr (1, [.ref (u3 9), .ref (u3 10), .int 0])), ((u3 9), .inl (cZ, 64, .inl (fun _ => 0))), ((u3 10), .inl (cI, 64, .inl (fun _ => 0))), ((u3 11), .inl (cZ, 64, .inl (fun _ => 0))), ((u3 12), .inr (2, [.ref (u3 13), .ref (u3 16), .int 0, .int 0, .int 0])), ((u3 13), .inr (1, [.ref (u3 14), .ref (u3 15), .int 0])), ((u3 14), .inl (cZ, 64, .inl (fun _ => 0))), ((u3 15), .inl (cI, 64, .inl (fun _ => 0))), ((u3 16), .inl (cZ, 64, .inl (fun _ => 0))), ((u3 17), .inr (2, [.ref (u3 18), .ref (u3 21), .int 0, .int 0, .int 0])), ((u3 18), .inr (1, [.ref (u3 19), .ref (u3 20), .int 0])), ((u3 19), .inl (cZ, 64, .inl (fun _ => 0))), ((u3 20), .inl (cI, 64, .inl (fun _ => 0))), ((u3 21), .inl (cZ, 64, .inl (fun _ => 0))), (q4, .inr (4, [.int 0, .null, .int 0, .int 0, .int 0, .null, .null, .null, .int 0, .int 0, .int 0, .int 0, .null, .null, .null, .null, .null, .null]))] H := hP
  have hD : va_D A [(q1, .inr (3, [.ref (u3 0), .ref (u3 2), .ref (u3 5), .ref (u3 6), .int 0, .int 1, .int 0, .int 22])), ((u3 0), .inr (0, [.ref (u3 1), .int (-1), .int 0, .int 0])), ((u3 1), .inl (cI, 384, .inl W0)), ((u3 2), .inr (1, [.ref (u3 3), .ref (u3 4), .int 0])), ((u3 3), .inl (cZ, 64, .inl (fun _ => 0))), ((u3 4), .inl (cI, 64, .inl (fun _ => 0))), ((u3 5), .inl (cI, 64, .inl (fun _ => 0))), ((u3 6), .inl (cT, 3, .inr (.inr (.inr (.inr (tF (u3 7) (u3 12) (u3 17))))))), ((u3 7), .inr (2, [.ref (u3 8), .ref (u3 11), .int 0, .int 0, .int 0])), ((u3 8), .inr (1, [.ref (u3 9), .ref (u3 10), .int 0])), ((u3 9), .inl (cZ, 64, .inl (fun _ => 0))), ((u3 10), .inl (cI, 64, .inl (fun _ => 0))), ((u3 11), .inl (cZ, 64, .inl (fun _ => 0))), ((u3 12), .inr (2, [.ref (u3 13), .ref (u3 16), .int 0, .int 0, .int 0])), ((u3 13), .inr (1, [.ref (u3 14), .ref (u3 15), .int 0])), ((u3 14), .inl (cZ, 64, .inl (fun _ => 0))), ((u3 15), .inl (cI, 64, .inl (fun _ => 0))), ((u3 16), .inl (cZ, 64, .inl (fun _ => 0))), ((u3 17), .inr (2, [.ref (u3 18), .ref (u3 21), .int 0, .int 0, .int 0])), ((u3 18), .inr (1, [.ref (u3 19), .ref (u3 20), .int 0])), ((u3 19), .inl (cZ, 64, .inl (fun _ => 0))), ((u3 20), .inl (cI, 64, .inl (fun _ => 0))), ((u3 21), .inl (cZ, 64, .inl (fun _ => 0))), (q4, .inr (4, [.int 0, .null, .int 0, .int 0, .int 0, .null, .null, .null, .int 0, .int 0, .int 0, .int 0, .null, .null, .null, .null, .null, .null]))] := hD
  refine lv_dup hx hb dL_law_11 rfl ?_
  have hPc := hP.sub (ws' := [(q4, .inr (4, [.int 0, .null, .int 0, .int 0, .int 0, .null, .null, .null, .int 0, .int 0, .int 0, .int 0, .null, .null, .null, .null, .null, .null]))]) [23] rfl
  have hDc := hD.sub (ws' := [(q4, .inr (4, [.int 0, .null, .int 0, .int 0, .int 0, .null, .null, .null, .int 0, .int 0, .int 0, .int 0, .null, .null, .null, .null, .null, .null]))]) [23] (by decide) rfl
  have hFc := va_free (wc := [(q4, .inr (4, [.int 0, .null, .int 0, .int 0, .int 0, .null, .null, .null, .int 0, .int 0, .int 0, .int 0, .null, .null, .null, .null, .null, .null]))]) hD hS hA [23] rfl
  refine va_callv (va_runI (b := q4) (As := []) (rest := [.ref q4]) ⟨hx, hb, hml, hown, hw⟩ (c_M_init l dC dI cI cZ cJ cT q4 H.size) ⟨callB_of 0 hw (gA0 w604) rfl rfl rfl (hw _ w45) (hw _ w602) (by decide +kernel) ⟨Nat.le_of_ble_eq_true rfl, Nat.le_of_ble_eq_true rfl⟩, rfl, (hw _ w603)⟩ ⟨kb_Q, fun U hU hW => ⟨rfl, by rw [hU], by rw [hU]; exact hPc, hKK.moved hW, hDc.weaken (fun _ _ _ _ => trivial)⟩⟩ rfl rfl hl.1 rfl (lv_room (Nat.le_of_ble_eq_true rfl)) dL_law_12 ⟨Nat.le_of_ble_eq_true rfl, Nat.le_of_ble_eq_true rfl⟩) hS (fun q _ h => hFc q h) hFc (fun u6 t H1 locs ht hvm he9 hB hz1 hk1 hS => ?_)
  obtain ⟨hP1, hD1⟩ := hB
  rw [ht] at hP1
  obtain ⟨hP, hD⟩ := va_join (wr := [(q1, .inr (3, [.ref (u3 0), .ref (u3 2), .ref (u3 5), .ref (u3 6), .int 0, .int 1, .int 0, .int 22])), ((u3 0), .inr (0, [.ref (u3 1), .int (-1), .int 0, .int 0])), ((u3 1), .inl (cI, 384, .inl W0)), ((u3 2), .inr (1, [.ref (u3 3), .ref (u3 4), .int 0])), ((u3 3), .inl (cZ, 64, .inl (fun _ => 0))), ((u3 4), .inl (cI, 64, .inl (fun _ => 0))), ((u3 5), .inl (cI, 64, .inl (fun _ => 0))), ((u3 6), .inl (cT, 3, .inr (.inr (.inr (.inr (tF (u3 7) (u3 12) (u3 17))))))), ((u3 7), .inr (2, [.ref (u3 8), .ref (u3 11), .int 0, .int 0, .int 0])), ((u3 8), .inr (1, [.ref (u3 9), .ref (u3 10), .int 0])), ((u3 9), .inl (cZ, 64, .inl (fun _ => 0))), ((u3 10), .inl (cI, 64, .inl (fun _ => 0))), ((u3 11), .inl (cZ, 64, .inl (fun _ => 0))), ((u3 12), .inr (2, [.ref (u3 13), .ref (u3 16), .int 0, .int 0, .int 0])), ((u3 13), .inr (1, [.ref (u3 14), .ref (u3 15), .int 0])), ((u3 14), .inl (cZ, 64, .inl (fun _ => 0))), ((u3 15), .inl (cI, 64, .inl (fun _ => 0))), ((u3 16), .inl (cZ, 64, .inl (fun _ => 0))), ((u3 17), .inr (2, [.ref (u3 18), .ref (u3 21), .int 0, .int 0, .int 0])), ((u3 18), .inr (1, [.ref (u3 19), .ref (u3 20), .int 0])), ((u3 19), .inl (cZ, 64, .inl (fun _ => 0))), ((u3 20), .inl (cI, 64, .inl (fun _ => 0))), ((u3 21), .inl (cZ, 64, .inl (fun _ => 0)))]) (w1 := [(q4, .inr (4, [.int 0, .ref (u6 0), .int 0, .int (-1), .int 0, .ref (u6 1), .ref (u6 2), .ref (u6 3), .int 0, .int 1, .int 0, .int 0, .ref (u6 4), .ref (u6 5), .ref (u6 6), .ref (u6 7), .ref (u6 8), .ref (u6 9)])), ((u6 0), .inl (cI, 384, .inl MW0)), ((u6 1), .inl (cZ, 64, .inl (fun _ => 0))), ((u6 2), .inl (cI, 64, .inl (fun _ => 0))), ((u6 3), .inl (cI, 64, .inl (fun _ => 0))), ((u6 4), .inl (cZ, 3, .inl (fun _ => 0))), ((u6 5), .inl (cI, 3, .inl (fun _ => 0))), ((u6 6), .inl (cZ, 192, .inl (fun _ => 0))), ((u6 7), .inl (cI, 192, .inl (fun _ => 0))), ((u6 8), .inl (cI, 192, .inl (fun _ => 0))), ((u6 9), .inl (cI, 192, .inl (fun _ => 0)))]) hP hD [23] [0, 1, 2, 3, 4, 5, 6, 7, 8, 9, 10, 11, 12, 13, 14, 15, 16, 17, 18, 19, 20, 21, 22] rfl rfl (by decide) (by decide) hk1 hFc hP1 hD1
  generalize H1 = H at hP hS ⊢
  have hP : va_P (dC, dI) vwC [(q1, .inr (3, [.ref (u3 0), .ref (u3 2), .ref (u3 5), .ref (u3 6), .int 0, .int 1, .int 0, .int 22])), ((u3 0), .inr (0, [.ref (u3 1), .int (-1), .int 0, .int 0])), ((u3 1), .inl (cI, 384, .inl W0)), ((u3 2), .inr (1, [.ref (u3 3), .ref (u3 4), .int 0])), ((u3 3), .inl (cZ, 64, .inl (fun _ => 0))), ((u3 4), .inl (cI, 64, .inl (fun _ => 0))), ((u3 5), .inl (cI, 64, .inl (fun _ => 0))), ((u3 6), .inl (cT, 3, .inr (.inr (.inr (.inr (tF (u3 7) (u3 12) (u3 17))))))), ((u3 7), .inr (2, [.ref (u3 8), .ref (u3 11), .int 0, .int 0, .int 0])), ((u3 8), .inr (1, [.ref (u3 9), .ref (u3 10), .int 0])), ((u3 9), .inl (cZ, 64, .inl (fun _ => 0))), ((u3 10), .inl (cI, 64, .inl (fun _ => 0))), ((u3 11), .inl (cZ, 64, .inl (fun _ => 0))), ((u3 12), .inr (2, [.ref (u3 13), .ref (u3 16), .int 0, .int 0, .int 0])), ((u3 13), .inr (1, [.ref (u3 14), .ref (u3 15), .int 0])), ((u3 14), .inl (cZ, 64, .inl (fun _ => 0))), ((u3 15), .inl (cI, 64, .inl (fun _ => 0))), ((u3 16), .inl (cZ, 64, .inl (fun _ => 0))), ((u3 17), .inr (2, [.ref (u3 18), .ref (u3 21), .int 0, .int 0, .int 0])), ((u3 18), .inr (1, [.ref (u3 19), .ref (u3 20), .int 0])), ((u3 19), .inl (cZ, 64, .inl (fun _ => 0))), ((u3 20), .inl (cI, 64, .inl (fun _ => 0))), ((u3 21), .inl (cZ, 64, .inl (fun _ => 0))), (q4, .inr (4, [.int 0, .ref (u6 0), .int 0, .int (-1), .int 0, .ref (u6 1), .ref (u6 2), .ref (u6 3), .int 0, .int 1, .int 0, .int 0, .ref (u6 4), .ref (u6 5), .ref (u6 6), .ref (u6 7), .ref (u6 8), .ref (u6 9)])), ((u6 0), .inl (cI, 384, .inl MW0)), ((u6 1), .inl (cZ, 64, .inl (fun _ => 0))), ((u6 2), .inl (cI, 64, .inl (fun _ => 0))), ((u6 3), .inl (cI, 64, .inl (fun _ => 0))), ((u6 4), .inl (cZ, 3, .inl (fun _ => 0))), ((u6 5), .inl (cI, 3, .inl (fun _ => 0))), ((u6 6), .inl (cZ, 192, .inl (fun _ => 0))), ((u6 7), .inl (cI, 192, .inl (fun _ => 0))), ((u6 8), .inl (cI, 192, .inl (fun _ => 0))), ((u6 9), .inl (cI, 192, .inl (fun _ => 0)))] H := hP
  have hD : va_D A [(q1, .inr (3, [.ref (u3 0), .ref (u3 2), .ref (u3 5), .ref (u3 6), .int 0, .int 1, .int 0, .int 22])), ((u3 0), .inr (0, [.ref (u3 1), .int (-1), .int 0, .int 0])), ((u3 1), .inl (cI, 384, .inl W0)), ((u3 2), .inr (1, [.ref (u3 3), .ref (u3 4), .int 0])), ((u3 3), .inl (cZ, 64, .inl (fun _ => 0))), ((u3 4), .inl (cI, 64, .inl (fun _ => 0))), ((u3 5), .inl (cI, 64, .inl (fun _ => 0))), ((u3 6), .inl (cT, 3, .inr (.inr (.inr (.inr (tF (u3 7) (u3 12) (u3 17))))))), ((u3 7), .inr (2, [.ref (u3 8), .ref (u3 11), .int 0, .int 0, .int 0])), ((u3 8), .inr (1, [.ref (u3 9), .ref (u3 10), .int 0])), ((u3 9), .inl (cZ, 64, .inl (fun _ => 0))), ((u3 10), .inl (cI, 64, .inl (fun _ => 0))), ((u3 11), .inl (cZ, 64, .inl (fun _ => 0))), ((u3 12), .inr (2, [.ref (u3 13), .ref (u3 16), .int 0, .int 0, .int 0])), ((u3 13), .inr (1, [.ref (u3 14), .ref (u3 15), .int 0])), ((u3 14), .inl (cZ, 64, .inl (fun _ => 0))), ((u3 15), .inl (cI, 64, .inl (fun _ => 0))), ((u3 16), .inl (cZ, 64, .inl (fun _ => 0))), ((u3 17), .inr (2, [.ref (u3 18), .ref (u3 21), .int 0, .int 0, .int 0])), ((u3 18), .inr (1, [.ref (u3 19), .ref (u3 20), .int 0])), ((u3 19), .inl (cZ, 64, .inl (fun _ => 0))), ((u3 20), .inl (cI, 64, .inl (fun _ => 0))), ((u3 21), .inl (cZ, 64, .inl (fun _ => 0))), (q4, .inr (4, [.int 0, .ref (u6 0), .int 0, .int (-1), .int 0, .ref (u6 1), .ref (u6 2), .ref (u6 3), .int 0, .int 1, .int 0, .int 0, .ref (u6 4), .ref (u6 5), .ref (u6 6), .ref (u6 7), .ref (u6 8), .ref (u6 9)])), ((u6 0), .inl (cI, 384, .inl MW0)), ((u6 1), .inl (cZ, 64, .inl (fun _ => 0))), ((u6 2), .inl (cI, 64, .inl (fun _ => 0))), ((u6 3), .inl (cI, 64, .inl (fun _ => 0))), ((u6 4), .inl (cZ, 3, .inl (fun _ => 0))), ((u6 5), .inl (cI, 3, .inl (fun _ => 0))), ((u6 6), .inl (cZ, 192, .inl (fun _ => 0))), ((u6 7), .inl (cI, 192, .inl (fun _ => 0))), ((u6 8), .inl (cI, 192, .inl (fun _ => 0))), ((u6 9), .inl (cI, 192, .inl (fun _ => 0)))] := hD
  refine lv_astore_n hx hb dL_law_15 rfl hl (by decide) rfl (fun ls hl => ?_)
  have hl : lv_has ls 7 [(2, .ref q4), (1, .ref q1), (0, .ref b)] := hl
  refine lv_iconst (v := 1) hx hb dL_law_16 (by decide) ?_
  refine va_newa (atype := .long) (a0 := (1, .inr (.inl (fun _ => 0)))) (ty := .long) hx hb (hw _ w810) rfl hK hP hD hS hA (fun _ => rfl) (by decide) (by decide) (by decide) (Nat.le_of_ble_eq_true rfl) (Nat.le_of_ble_eq_true rfl) dL_law_17 (fun q7 cA H hK hP hD hS => ?_)
  obtain rfl := tk_eq hK (i := 2) (j := 4) rfl rfl
  have hK := hK.sub (tys' := tyA cI cZ cJ cT) [0, 1, 2, 3] rfl
  have hP : va_P (dC, dI) vwC [(q1, .inr (3, [.ref (u3 0), .ref (u3 2), .ref (u3 5), .ref (u3 6), .int 0, .int 1, .int 0, .int 22])), ((u3 0), .inr (0, [.ref (u3 1), .int (-1), .int 0, .int 0])), ((u3 1), .inl (cI, 384, .inl W0)), ((u3 2), .inr (1, [.ref (u3 3), .ref (u3 4), .int 0])), ((u3 3), .inl (cZ, 64, .inl (fun _ => 0))), ((u3 4), .inl (cI, 64, .inl (fun _ => 0))), ((u3 5), .inl (cI, 64, .inl (fun _ => 0))), ((u3 6), .inl (cT, 3, .inr (.inr (.inr (.inr (tF (u3 7) (u3 12) (u3 17))))))), ((u3 7), .inr (2, [.ref (u3 8), .ref (u3 11), .int 0, .int 0, .int 0])), ((u3 8), .inr (1, [.ref (u3 9), .ref (u3 10), .int 0])), ((u3 9), .inl (cZ, 64, .inl (fun _ => 0))), ((u3 10), .inl (cI, 64, .inl (fun _ => 0))), ((u3 11), .inl (cZ, 64, .inl (fun _ => 0))), ((u3 12), .inr (2, [.ref (u3 13), .ref (u3 16), .int 0, .int 0, .int 0])), ((u3 13), .inr (1, [.ref (u3 14), .ref (u3 15), .int 0])), ((u3 14), .inl (cZ, 64, .inl (fun _ => 0))), ((u3 15), .inl (cI, 64, .inl (fun _ => 0))), ((u3 16), .inl (cZ, 64, .inl (fun _ => 0))), ((u3 17), .inr (2, [.ref (u3 18), .ref (u3 21), .int 0, .int 0, .int 0])), ((u3 18), .inr (1, [.ref (u3 19), .ref (u3 20), .int 0])), ((u3 19), .inl (cZ, 64, .inl (fun _ => 0))), ((u3 20), .inl (cI, 64, .inl (fun _ => 0))), ((u3 21), .inl (cZ, 64, .inl (fun _ => 0))), (q4, .inr (4, [.int 0, .ref (u6 0), .int 0, .int (-1), .int 0, .ref (u6 1), .ref (u6 2), .ref (u6 3), .int 0, .int 1, .int 0, .int 0, .ref (u6 4), .ref (u6 5), .ref (u6 6), .ref (u6 7), .ref (u6 8), .ref (u6 9)])), ((u6 0), .inl (cI, 384, .inl MW0)), ((u6 1), .inl (cZ, 64, .inl (fun _ => 0))), ((u6 2), .inl (cI, 64, .inl (fun _ => 0))), ((u6 3), .inl (cI, 64, .inl (fun _ => 0))), ((u6 4), .inl (cZ, 3, .inl (fun _ => 0))), ((u6 5), .inl (cI, 3, .inl (fun _ => 0))), ((u6 6), .inl (cZ, 192, .inl (fun _ => 0))), ((u6 7), .inl (cI, 192, .inl (fun _ => 0))), ((u6 8), .inl (cI, 192, .inl (fun _ => 0))), ((u6 9), .inl (cI, 192, .inl (fun _ => 0))), (q7, .inl (cJ, 1, .inr (.inl (fun _ => 0))))] H := hP
  have hD : va_D A [(q1, .inr (3, [.ref (u3 0), .ref (u3 2), .ref (u3 5), .ref (u3 6), .int 0, .int 1, .int 0, .int 22])), ((u3 0), .inr (0, [.ref (u3 1), .int (-1), .int 0, .int 0])), ((u3 1), .inl (cI, 384, .inl W0)), ((u3 2), .inr (1, [.ref (u3 3), .ref (u3 4), .int 0])), ((u3 3), .inl (cZ, 64, .inl (fun _ => 0))), ((u3 4), .inl (cI, 64, .inl (fun _ => 0))), ((u3 5), .inl (cI, 64, .inl (fun _ => 0))), ((u3 6), .inl (cT, 3, .inr (.inr (.inr (.inr (tF (u3 7) (u3 12) (u3 17))))))), ((u3 7), .inr (2, [.ref (u3 8), .ref (u3 11), .int 0, .int 0, .int 0])), ((u3 8), .inr (1, [.ref (u3 9), .ref (u3 10), .int 0])), ((u3 9), .inl (cZ, 64, .inl (fun _ => 0))), ((u3 10), .inl (cI, 64, .inl (fun _ => 0))), ((u3 11), .inl (cZ, 64, .inl (fun _ => 0))), ((u3 12), .inr (2, [.ref (u3 13), .ref (u3 16), .int 0, .int 0, .int 0])), ((u3 13), .inr (1, [.ref (u3 14), .ref (u3 15), .int 0])), ((u3 14), .inl (cZ, 64, .inl (fun _ => 0))), ((u3 15), .inl (cI, 64, .inl (fun _ => 0))), ((u3 16), .inl (cZ, 64, .inl (fun _ => 0))), ((u3 17), .inr (2, [.ref (u3 18), .ref (u3 21), .int 0, .int 0, .int 0])), ((u3 18), .inr (1, [.ref (u3 19), .ref (u3 20), .int 0])), ((u3 19), .inl (cZ, 64, .inl (fun _ => 0))), ((u3 20), .inl (cI, 64, .inl (fun _ => 0))), ((u3 21), .inl (cZ, 64, .inl (fun _ => 0))), (q4, .inr (4, [.int 0, .ref (u6 0), .int 0, .int (-1), .int 0, .ref (u6 1), .ref (u6 2), .ref (u6 3), .int 0, .int 1, .int 0, .int 0, .ref (u6 4), .ref (u6 5), .ref (u6 6), .ref (u6 7), .ref (u6 8), .ref (u6 9)])), ((u6 0), .inl (cI, 384, .inl MW0)), ((u6 1), .inl (cZ, 64, .inl (fun _ => 0))), ((u6 2), .inl (cI, 64, .inl (fun _ => 0))), ((u6 3), .inl (cI, 64, .inl (fun _ => 0))), ((u6 4), .inl (cZ, 3, .inl (fun _ => 0))), ((u6 5), .inl (cI, 3, .inl (fun _ => 0))), ((u6 6), .inl (cZ, 192, .inl (fun _ => 0))), ((u6 7), .inl (cI, 192, .inl (fun _ => 0))), ((u6 8), .inl (cI, 192, .inl (fun _ => 0))), ((u6 9), .inl (cI, 192, .inl (fun _ => 0))), (q7, .inl (cJ, 1, .inr (.inl (fun _ => 0))))] := hD
  refine lv_astore_n hx hb dL_law_19 rfl hl (by decide) rfl (fun ls hl => ?_)
  have hl : lv_has ls 7 [(3, .ref q7), (2, .ref q4), (1, .ref q1), (0, .ref b)] := hl
  refine lv_iconst (v := 0) hx hb dL_law_20 (by decide) ?_
  refine lv_istore hx hb dL_law_21 hl (by decide) rfl (fun ls hl => ?_)
  have hl : lv_has ls 7 [(4, .int 0), (3, .ref q7), (2, .ref q4), (1, .ref q1), (0, .ref b)] := hl
  refine lv_iload hx hb dL_law_23 (lv_at hl 0 rfl) ?_
  refine lv_aload_n hx hb dL_law_25 rfl (lv_at hl 4 rfl) ?_
  refine va_slen hx hb hXs hbl hbA hS dL_law_26 ?_
  refine lv_iconst (v := 4) hx hb dL_law_27 (by decide) ?_
  refine lv_isub hx hb dL_law_28 ?_
  refine lv_icmp_gt (tgt := 891) hx hb dL_law_29 (by decide) (fun _ => ?_) (fun h9 => ?_)
  · refine lv_iconst (v := 1) hx hb dL_law_891 (by decide) ?_
    refine va_forget (fun q h => by have h2 := hS.2.2 q h; rw [hAe] at h2; exact h2) ?_
    refine W.widen (k := 600002) (n := 7302232) (by decide) (by decide) ?_
    exact lw_ret hx hb hr hlocks dL_law_892
  · have h8 : L = 0 ∨ L = 1 ∨ L = 2 ∨ L = 3 ∨ L = 4 := by omega
    obtain rfl : L = 4 := by
      rcases h8 with rfl | rfl | rfl | rfl | rfl
      · exact absurd (by decide +kernel) h9
      · exact absurd (by decide +kernel) h9
      · exact absurd (by decide +kernel) h9
      · exact absurd (by decide +kernel) h9
      · rfl
    refine lv_aload_n hx hb dL_law_32 rfl (lv_at hl 4 rfl) ?_
    refine lv_iload hx hb dL_law_33 (lv_at hl 0 rfl) ?_
    refine va_sld hx hb hXs hbl hbA hS (tv_in (by decide +kernel)) dL_law_35 ?_
    refine lv_topi (nm_r (e' := xs 0) (congrArg xs (by decide +kernel : (0 : Int32).toNatClampNeg = 0)) ?_)
    refine lv_bipush (v := 15) hx hb dL_law_36 (by decide) ?_
    refine lv_iand hx hb dL_law_38 ?_
    obtain ⟨k, hk, hkv⟩ := tk_and15 (xs 0)
    refine lv_topi (nm_r (e' := nI k) hkv ?_)
    refine W.widen (k := 35) (n := 2563) (by decide) (by decide) ?_
    have hk9 : k = 0 ∨ k = 1 ∨ k = 2 ∨ k = 3 ∨ k = 4 ∨ k = 5 ∨ k = 6 ∨ k = 7 ∨ k = 8 ∨ k = 9 ∨ k = 10 ∨ k = 11 ∨ k = 12 ∨ k = 13 ∨ k = 14 ∨ k = 15 := by omega
    rcases hk9 with rfl | rfl | rfl | rfl | rfl | rfl | rfl | rfl | rfl | rfl | rfl | rfl | rfl | rfl | rfl | rfl
    · refine lv_tableIn (off := 77) (tgt := 116) hx hb dL_law_39 (by decide +kernel) (by decide +kernel) (by decide +kernel) (by decide) ?_
      exact law_0 (u := u3) (v := u6) l hl9 C00 hKK hX hX2 hAe hP hD hS hl
    · refine lv_tableIn (off := 133) (tgt := 172) hx hb dL_law_39 (by decide +kernel) (by decide +kernel) (by decide +kernel) (by decide) ?_
      exact law_1 (u := u3) (v := u6) l hl9 C00 hKK hX hX2 hAe hP hD hS hl
    · refine lv_tableIn (off := 201) (tgt := 240) hx hb dL_law_39 (by decide +kernel) (by decide +kernel) (by decide +kernel) (by decide) ?_
      exact law_2 (u := u3) (v := u6) l hl9 C00 hKK hX hX2 hAe hP hD hS hl
    · refine lv_tableIn (off := 288) (tgt := 327) hx hb dL_law_39 (by decide +kernel) (by decide +kernel) (by decide +kernel) (by decide) ?_
      exact law_3 (u := u3) (v := u6) l hl9 C00 hKK hX hX2 hAe hP hD hS hl
    · refine lv_tableIn (off := 336) (tgt := 375) hx hb dL_law_39 (by decide +kernel) (by decide +kernel) (by decide +kernel) (by decide) ?_
      exact law_4 (u := u3) (v := u6) l hl9 C00 hKK hX hX2 hAe hP hD hS hl
    · refine lv_tableIn (off := 404) (tgt := 443) hx hb dL_law_39 (by decide +kernel) (by decide +kernel) (by decide +kernel) (by decide) ?_
      exact law_5 (u := u3) (v := u6) l hl9 C00 hKK hX hX2 hAe hP hD hS hl
    · refine lv_tableIn (off := 460) (tgt := 499) hx hb dL_law_39 (by decide +kernel) (by decide +kernel) (by decide +kernel) (by decide) ?_
      exact law_6 (u := u3) (v := u6) l hl9 C00 hKK hX hX2 hAe hP hD hS hl
    · refine lv_tableIn (off := 516) (tgt := 555) hx hb dL_law_39 (by decide +kernel) (by decide +kernel) (by decide +kernel) (by decide) ?_
      exact law_7 (u := u3) (v := u6) l hl9 C00 hKK hX hX2 hAe hP hD hS hl
    · refine lv_tableIn (off := 560) (tgt := 599) hx hb dL_law_39 (by decide +kernel) (by decide +kernel) (by decide +kernel) (by decide) ?_
      exact law_8 (u := u3) (v := u6) l hl9 C00 hKK hX hX2 hAe hP hD hS hl
    · refine lv_tableIn (off := 616) (tgt := 655) hx hb dL_law_39 (by decide +kernel) (by decide +kernel) (by decide +kernel) (by decide) ?_
      exact law_9 (u := u3) (v := u6) l hl9 C00 hKK hX hX2 hAe hP hD hS hl
    · refine lv_tableIn (off := 660) (tgt := 699) hx hb dL_law_39 (by decide +kernel) (by decide +kernel) (by decide +kernel) (by decide) ?_
      exact law_10 (u := u3) (v := u6) l hl9 C00 hKK hX hX2 hAe hP hD hS hl
    · refine lv_tableIn (off := 704) (tgt := 743) hx hb dL_law_39 (by decide +kernel) (by decide +kernel) (by decide +kernel) (by decide) ?_
      exact law_11 (u := u3) (v := u6) l hl9 C00 hKK hX hX2 hAe hP hD hS hl
    · refine lv_tableIn (off := 748) (tgt := 787) hx hb dL_law_39 (by decide +kernel) (by decide +kernel) (by decide +kernel) (by decide) ?_
      exact law_12 (u := u3) (v := u6) l hl9 C00 hKK hX hX2 hAe hP hD hS hl
    · refine lv_tableIn (off := 783) (tgt := 822) hx hb dL_law_39 (by decide +kernel) (by decide +kernel) (by decide +kernel) (by decide) ?_
      exact law_13 (u := u3) (v := u6) l hl9 C00 hKK hX hX2 hAe hP hD hS hl
    · refine lv_tableIn (off := 796) (tgt := 835) hx hb dL_law_39 (by decide +kernel) (by decide +kernel) (by decide +kernel) (by decide) ?_
      exact law_14 (u := u3) (v := u6) l hl9 C00 hKK hX hX2 hAe hP hD hS hl
    · refine lv_tableIn (off := 809) (tgt := 848) hx hb dL_law_39 (by decide +kernel) (by decide +kernel) (by decide +kernel) (by decide) ?_
      exact law_15 (u := u3) (v := u6) l hl9 C00 hKK hX hX2 hAe hP hD hS hl

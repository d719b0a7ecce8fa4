/-! throw new X(text) where X's own constructor hands on to Y's by another pool number than the library's bundle: over the library's own laws. -/
section TXN
/-- the words of such a throw -/
def tx_at2 (own : String) (ic : Nat) (X Y : String) (ix : Nat) (bytes : ByteArray) (names : List String) : List Cond :=
  Bundle.throwableAtoms ++ (Bundle.throwableSAtoms ++ (Bundle.passSAtoms X Y ix bytes ++ (Bundle.chainSAtoms Y names ++
  [.methodLink own ic (Bundle.initS X), .instantiable X 6, .castable X X, .selects X Bundle.tFill0 Bundle.tFill0, .selects X Bundle.tFill Bundle.tFill,
   .lays X Bundle.tN "cause" "Ljava/lang/Throwable;", .lays X Bundle.tN "stackTrace" Bundle.steD, .lays X Bundle.tN "suppressedExceptions" Bundle.listD, .lays X Bundle.tN "detailMessage" "Ljava/lang/String;",
   .isRef (.static Bundle.tN "UNASSIGNED_STACK" Bundle.steD), .isRef (.static Bundle.tN "SUPPRESSED_SENTINEL" Bundle.listD),
   .fieldLink Bundle.tN 198 Bundle.tN "backtrace" "Ljava/lang/Object;", .lays Bundle.tN Bundle.tN "backtrace" "Ljava/lang/Object;", .lays X Bundle.tN "backtrace" "Ljava/lang/Object;"])))
variable {p : Program} {l : Launch} {e : Env} {R : Room} {s : State} {m : MethodId} {args : Array Value} {below : List Frame} {meth : Method} {c : Code} {V : State}
set_option maxHeartbeats 2000000 in
theorem tx_ctor2 (X : Stand p l e R s m args below meth c V [] 1 6) (hexec : p.tables.exec = Jvm.exec) (htr : e.platform.stackTraces = false) {own cls Y0 : String} {names : List String} {ic ix : Nat} {bytes : ByteArray}
    (hown : s.vm.findClass own = some m.cls) (hcls : Bundle.fit cls = true) (hY0 : Bundle.fit Y0 = true) (hnames : ∀ n ∈ names, Bundle.fit n = true)
    (b0 : decode bytes 0 = .ok (.aload_n 0, 1)) (b1 : decode bytes 1 = .ok (.aload_n 1, 1)) (b2 : decode bytes 2 = .ok (.invokespecial ix, 3)) (b5 : decode bytes 5 = .ok (.return_, 1))
    (h : ∀ w ∈ tx_at2 own ic cls Y0 ix bytes names, w.before args s = true)
    {a : Addr} {cX : ClassId} {kX : Class} (hfoundX : s.vm.findClass cls = some cX) (hkX : s.vm.classes[cX]? = some kX) (hcell : V.heap[a]? = some (freshCell cX kX)) (hnew : s.heap.size ≤ a)
    {msg : Value} (hmsg : msg.isRef = true)
    {g : JFrame} (hg : g.method = m) (hsize : g.locals.size = c.maxLocals) (hlocked : g.locked = none) (hentered : g.entered = []) (hstack : g.stack = [msg, .ref a, .ref a])
    (hd6 : decode c.code g.pc = .ok (.invokespecial ic, 3)) (hd9 : decode c.code (g.pc + 3) = .ok (.athrow, 1)) (hout : ∀ x ∈ c.exceptionTable.toList, covers x (g.pc + 3) = false)
    (hRframes : names.length + 4 < R.frames) (hRlocals : 2 * g.monitorRoom + (([Value.ref a] : List Value).map fun v => v.category).sum + (13 * (names.length + 2) + 42) ≤ R.locals) (hlocks : meth.locks = false) :
    ∃ U : State, Steps p.tables e below (V.setTop g) U ∧ U.status = .running ∧ Ended U below (.threw a) ∧ s.WarmedH U.vm ∧ s.sameButNew ({ U with vm := s.vm } : State) [] 1 6 ∧
      ∃ ce : Cell, U.heap[a]? = some ce ∧ ce.vm = .none ∧ s.vm.findClass cls = some ce.cls := by
  have howns : e.platform.frameOwnsMonitors = true := by rw [X.admits.platform]
  have hfin : e.platform.finalization = false := by rw [X.admits.platform]
  have hpl : e.platform.magicAccessors = ({} : Platform).magicAccessors := by rw [X.admits.platform]
  have hq : ∀ w, w ∈ tx_at2 own ic cls Y0 ix bytes names → w.holds args s none s [] = true := fun w hw => h w hw
  obtain ⟨T, Z0, L, -, Y⟩ := ThrowableC.of_atoms (args := args) howns hfin hpl (fun w hw => h w (by simp [tx_at2, hw]))
  obtain ⟨Z, M, LZ, LM, hnZ⟩ := Init0T.ofS_atoms (args := args) hpl L Y (fun w hw => h w (by simp [tx_at2, hw]))
  obtain ⟨P0, L0, hP0m, hP0s⟩ := PassC.ofS_atoms (args := args) (s := s) hpl (X := cls) (Y := Y0) (index := ix) (bytes := bytes) (Bundle.fit_spec hcls).1 (Bundle.fit_spec hY0).2 b0 b1 b2 b5 (fun w hw => h w (by simp [tx_at2, hw]))
  obtain ⟨P1, Ps, hlen, L1, hL, hP1m, hlink1, hlink⟩ := Bundle.chainS (args := args) hpl hnZ names Y0 hY0 hnames (fun w hw => h w (by simp [tx_at2, hw]))
  have hlink0 : P0.sup = P1.m := Option.some.inj (hP0s.symm.trans hP1m)
  have hfound : s.vm.findClass cls = some P0.m.cls := findClass_of_methodNamed hP0m
  cases Option.some.inj (hfoundX.symm.trans hfound)
  obtain ⟨c1, kX', hc1, hk, hord, -, -, hn6⟩ := Cond.instantiable_spec (hq (.instantiable cls 6) (by simp [tx_at2]))
  cases Option.some.inj (hc1.symm.trans hfound)
  cases Option.some.inj (hkX.symm.trans hk)
  have hsel0 : selectMethod e.platform s.vm P0.m.cls T.fill0 = .method T.fill0 := by
    obtain ⟨c2, r2, m2, q1, q2, q3, q4, -⟩ := Cond.selects_spec (hq (.selects cls Bundle.tFill0 Bundle.tFill0) (by simp [tx_at2]))
    cases Option.some.inj (q1.symm.trans hfound)
    cases Option.some.inj (q2.symm.trans (State.methodFound?_of_named Y.fill0 (by decide)))
    cases Option.some.inj (q3.symm.trans Y.fill0)
    rw [Launch.admits_selectMethod X.admits]; exact q4
  have hselF : selectMethod e.platform s.vm P0.m.cls T.fill = .method T.fill := by
    obtain ⟨c2, r2, m2, q1, q2, q3, q4, -⟩ := Cond.selects_spec (hq (.selects cls Bundle.tFill Bundle.tFill) (by simp [tx_at2]))
    cases Option.some.inj (q1.symm.trans hfound)
    cases Option.some.inj (q2.symm.trans (State.methodFound?_of_named Y.fill (by decide)))
    cases Option.some.inj (q3.symm.trans Y.fill)
    rw [Launch.admits_selectMethod X.admits]; exact q4
  obtain ⟨cellS0, hcS0, hiss⟩ := Y.statics
  obtain ⟨u0, hu0⟩ := Cond.staticRefV Y.unassigned L.unassignedStatic L.statics hcS0 hiss (hq (.isRef (.static Bundle.tN "UNASSIGNED_STACK" Bundle.steD)) (by simp [tx_at2]))
  obtain ⟨sen, hsen⟩ := Cond.staticRefV Y.sentinel L.sentinelStatic L.statics hcS0 hiss (hq (.isRef (.static Bundle.tN "SUPPRESSED_SENTINEL" Bundle.listD)) (by simp [tx_at2]))
  obtain ⟨ci198, i198, fB, hk198, hg198, ha198, hsB, -, hnB, htB, hffB⟩ := Cond.ownField (t := .object "java/lang/Object") Y.found L.cls (by decide +kernel) (hq (.fieldLink Bundle.tN 198 Bundle.tN "backtrace" "Ljava/lang/Object;") (by simp [tx_at2])) (hq (.lays Bundle.tN Bundle.tN "backtrace" "Ljava/lang/Object;") (by simp [tx_at2])) e.platform hpl
  have hold : V.heap[T.aS]? = some cellS0 := X.same.old_cell hcS0
  have hknownS : cellS0.vm ≠ .unknown := by
    intro hu
    rw [hu] at hiss
    cases hiss
  have hneS : T.aS ≠ a := Nat.ne_of_lt (Nat.lt_of_lt_of_le (Array.getElem?_eq_some_iff.mp hcS0).1 hnew)
  obtain ⟨iM, hffM⟩ := Y.msg
  obtain ⟨tyC, dC, hdC, hdnC⟩ := Cond.laysAt hfound hk Y.cause (hq (.lays cls Bundle.tN "cause" "Ljava/lang/Throwable;") (by simp [tx_at2]))
  obtain ⟨tyS, dS, hdS, hdnS⟩ := Cond.laysAt hfound hk Y.stack (hq (.lays cls Bundle.tN "stackTrace" Bundle.steD) (by simp [tx_at2]))
  obtain ⟨tyP, dP, hdP, hdnP⟩ := Cond.laysAt hfound hk Y.supp (hq (.lays cls Bundle.tN "suppressedExceptions" Bundle.listD) (by simp [tx_at2]))
  obtain ⟨tyM, dM, hdM, hdnM⟩ := Cond.laysAt hfound hk hffM (hq (.lays cls Bundle.tN "detailMessage" "Ljava/lang/String;") (by simp [tx_at2]))
  obtain ⟨tyB, dB, hdB, hdnB⟩ := Cond.laysAt hfound hk hffB (hq (.lays cls Bundle.tN "backtrace" "Ljava/lang/Object;") (by simp [tx_at2]))
  have bC := Cond.laysApart hdB hdC hdnB hdnC (by rw [hnB, Y.causeName]; decide)
  have bS := Cond.laysApart hdB hdS hdnB hdnS (by rw [hnB, Y.stackName]; decide)
  have bP := Cond.laysApart hdB hdP hdnB hdnP (by rw [hnB, Y.suppName]; decide)
  have hskip : SkipFacts T e.platform s (fun u => u) u0 ((preparedCellV T.toThrowableT (freshCell P0.m.cls kX) a u0 sen).withEntry V.cur) :=
    ⟨{ ci198 := ci198, i198 := i198, fBack := fB }, ⟨hk198, hg198, ha198, hsB⟩, by
      have hdef := fresh_default (c := P0.m.cls) tyB
      rw [htB] at hdef
      simpa [preparedCellV, Cell.setSlot, Cell.withEntry, Array.getElem?_setIfInBounds, bC, bS, bP, bC.symm, bS.symm, bP.symm, defaultValue] using hdef, fun _ _ => rfl⟩
  obtain ⟨tm, methC, cdC, kC, vm₁, hnC, -, -, -, -, -, -, -, hW₁, st1⟩ := Steps.initColdS (tb := p.tables) (e := e) (below := below) (s := s) (U := V) X.here hexec X.warmed hpl hown (t := Bundle.initS cls) rfl rfl (Bundle.fit_spec hcls).2
    (hq (.methodLink own ic (Bundle.initS cls)) (by simp [tx_at2])) (h (.instanceMethod (Bundle.initS cls)) (by simp [tx_at2, Bundle.passSAtoms])) (bytes := bytes) (maxL := 2) (h (.code (Bundle.initS cls) bytes 2 none) (by simp [tx_at2, Bundle.passSAtoms]))
    (f := g) hg (a := a) (msg := msg) (rest := [.ref a]) hstack hd6
  cases Option.some.inj (hnC.symm.trans hP0m)
  have X₁ := X.noted hW₁
  obtain ⟨vm₂, X₂, st2⟩ := X₁.ctorMessageOffV hexec (g := { g with stack := [.ref a] }) hg hsize T L Z LZ M LM (P0 :: P1 :: Ps)
    (fun P hP => by
      rcases List.mem_cons.mp hP with rfl | hP
      · exact L0
      · rcases List.mem_cons.mp hP with rfl | hP
        · exact L1
        · exact hL P hP) ⟨hlink0, hlink1, hlink⟩ (u0 := u0) (sen := sen) (self := a) hmsg (cell := freshCell P0.m.cls kX) (cellS := cellS0)
    hcell (fun _ => by simp) (by simp) rfl rfl hsel0 hselF hold hneS hknownS hu0 hsen
    (Takes.of_laid hk hord tyC (by rw [Y.causeType]; rfl)) (Takes.of_laid hk hord tyS (by rw [Y.stackType]; exact fits_refV_array _ u0)) (Takes.of_laid hk hord tyP (by rw [Y.suppType]; exact fits_refV_object _ sen))
    (Takes.of_laid hk hord tyM (by rw [Y.msgType]; exact fits_refV_object _ ⟨msg, hmsg⟩)) Y.objLocals hskip htr [] hd6
    (by simp only [List.length_cons, hlen]; omega) (by simp only [List.length_cons, hlen]; exact hRlocals)
  obtain ⟨hwalk, hrun, hended, hWU, hsame⟩ := X₂.athrowLeaves hexec (g := { g with stack := [.ref a], pc := g.pc + 3 }) hg hlocked hentered hout (a := a) (rest := []) rfl hd9
  have hlt : a < ((V.setVm vm₁).setVm vm₂).heap.size := (Array.getElem?_eq_some_iff.mp hcell).1
  have hU := heapAt_setCell_self (s := (V.setVm vm₁).setVm vm₂) (plainBareV T.toThrowableT (freshCell P0.m.cls kX) a u0 sen msg) hlt
  refine ⟨_, st1 _ (fun acts => ?_), hrun, hended, hWU, hsame.weaken (fun y hy hlt' => ?_) (Nat.le_refl _) (Nat.le_refl _), _, hU, rfl, hfound⟩
  · rw [doInvoke_state]
    exact st2 _ hwalk
  · exfalso
    have hb : y.base = a := by
      simp only [List.nil_append, List.mem_cons, List.not_mem_nil, or_false] at hy
      rcases hy with rfl | rfl | rfl | rfl | rfl <;> rfl
    rw [hb] at hlt'
    exact Nat.not_lt.mpr hnew hlt'
end TXN
/-- what the throw of NoSuchElementException in the class wants of tables and statics -/
def nseL : List Cond := tx_at2 "LoggedStore" 197 "java/util/NoSuchElementException" "java/lang/RuntimeException" 13 prog_17_method_4_code ["java/lang/Exception"]
def KS2 (U : State) : Prop := nseL.all (tx_okw nseL) = true ∧ ∀ w ∈ nseL, w.before #[] U = true
theorem KS2.moved {s U : State} (h : KS2 s) (hW : s.WarmedH U.vm) (hh : ∀ (a : Addr) (cell : Cell), s.heap[a]? = some cell → cell.vm.isStatics = true → U.heap[a]? = some cell) : KS2 U :=
  ⟨h.1, fun w hw => tx_word hW hh h.2 hw (List.all_eq_true.mp h.1 w hw)⟩
theorem KS2.use {s : State} {A : Array Value} (h : KS2 s) : ∀ w ∈ nseL, w.before A s = true :=
  fun w hw => tx_word (State.WarmedH.refl s) (fun _ _ h _ => h) h.2 hw (List.all_eq_true.mp h.1 w hw)
theorem kb_Y {dC : Nat → ClassId} {dI : Nat → Nat → Nat} {cI cZ cJ cT : ClassId} {ws : va_W} {av : List Value} : FrameBlind (va_Pc av (fun U => va_P (dC, dI) vwC ws U.heap ∧ KK dC dI cI cZ cJ cT U ∧ KS2 U)) := fun a U g mk q => by
  obtain ⟨q0, qP, qK, qS⟩ := q
  exact ⟨q0, qP, KK.moved (U := U.calling g mk a) qK (State.WarmedH.refl U), KS2.moved (U := U.calling g mk a) qS (State.WarmedH.refl U) (fun _ _ h _ => h)⟩
theorem tx_throw2 {p : Program} {l : Launch} {e : Env} {R : Room} {s : State} {m : MethodId} {args : Array Value} {below : List Frame} {meth : Method} {c : Code} {cc : ByteArray} (hexec : p.tables.exec = Jvm.exec) (hb : c.code = cc) (htr : l.stackTraces = false) {tx : String} {i1 i2 q : Nat} (hown : s.vm.findClass "LoggedStore" = some m.cls)
    (hat : KS2 s) (hcl : (Cond.classLink "LoggedStore" i1 "java/util/NoSuchElementException").before args s = true) (hini : (Cond.initialized "java/util/NoSuchElementException").before args s = true) (hZ : vk_R "LoggedStore" i2 tx q s) {pc : Nat} {ls : Array Slot} (hml : ls.size = c.maxLocals)
    (d0 : decode cc pc = .ok (.new i1, 3)) (d1 : decode cc (pc + 3) = .ok (.dup, 1)) (d2 : decode cc (pc + 4) = .ok (.ldc i2, 2)) (d3 : decode cc (pc + 6) = .ok (.invokespecial 197, 3)) (d4 : decode cc (pc + 9) = .ok (.athrow, 1))
    (htab : c.exceptionTable.toList = []) (hRf : 5 < R.frames) (hRl : 82 ≤ R.locals) (hRc : 1 ≤ R.cells) (hRs : 6 ≤ R.slots) (hlocks : meth.locks = false) :
    W p l e R s m args below meth c s.heap [] 0 0 (MQX below (tx_Qx "java/util/NoSuchElementException") args s 1 6) (F0 m pc ls []) := by
  intro T hT X
  have htr' : e.platform.stackTraces = false := (show e.platform.stackTraces = l.stackTraces by rw [X.admits.platform]).trans htr
  have hins : (Cond.instantiable "java/util/NoSuchElementException" 6).before args s = true := hat.use _ (by simp [nseL, tx_at2])
  obtain ⟨vm₁, cX, kX, hfX, hkX, -, -, X₁, st1⟩ := X.newCold hexec (own := "LoggedStore") (C := "java/util/NoSuchElementException") (index := i1) (n := 6) hown hcl hins hini (g := F0 m pc ls []) rfl (by rw [hb]; exact d0) (by omega) (by omega)
  generalize hT1 : (T.setVm vm₁).pushCell { cls := cX, slots := kX.instanceTypes.map defaultValue, vm := .none } = T1 at X₁ st1
  have hcellA : T1.heap[T.heap.size]? = some (freshCell cX kX) := by rw [← hT1]; exact State.heap_pushCell_size _ _
  have d1' : decode c.code (pc + 3) = .ok (.dup, 1) := by rw [hb]; exact d1
  have d2' : decode c.code (pc + 4) = .ok (.ldc i2, 2) := by rw [hb]; exact d2
  have hcat : (Value.ref T.heap.size).category = 1 := rfl
  have hsz : s.heap.size ≤ T.heap.size := by rw [hT]; exact Nat.le_refl _
  obtain ⟨U, hsteps, hrun, hend, hW, hsame', ce, hce, hcv, hcc⟩ := tx_ctor2 X₁ hexec htr' (own := "LoggedStore") (cls := "java/util/NoSuchElementException") (Y0 := "java/lang/RuntimeException") (names := ["java/lang/Exception"]) (ic := 197) (ix := 13) (bytes := prog_17_method_4_code) hown (by decide +kernel) (by decide +kernel) (by decide +kernel)
    (by decide +kernel) (by decide +kernel) (by decide +kernel) (by decide +kernel) hat.use hfX hkX hcellA hsz (msg := .ref q) rfl
    (g := F0 m (pc + 6) ls [.ref q, .ref T.heap.size, .ref T.heap.size]) rfl hml rfl rfl rfl (by rw [hb]; exact d3) (by rw [hb]; exact d4) (fun z h => by rw [htab] at h; cases h) (by simpa using hRf)
    (by show 2 * 0 + (([Value.ref T.heap.size] : List Value).map fun v => v.category).sum + _ ≤ _; simp only [List.map_cons, List.map_nil, List.sum_cons, List.sum_nil, hcat, List.length_cons, List.length_nil]; omega) hlocks
  refine ⟨U, ?_, T.heap.size, hrun, hend, ⟨⟨ce, hce, hcv, ?_⟩, hsz, hsame'.2.1, fun z hz => ?_⟩, hW, hsame'⟩
  · refine st1 _ ?_
    show Steps p.tables e below (T1.setTop (F0 m (pc + 3) ls [.ref T.heap.size])) U
    jvm_step X₁.here [X₁.here.top, hexec, d1', Value.category]
    exact X₁.ldcString hexec (own := "LoggedStore") (text := tx) (index := i2) (a := q) hown hZ.1 hZ.2 (g := F0 m (pc + 4) ls [.ref T.heap.size, .ref T.heap.size]) rfl d2' _ hsteps
  · rw [hW.alike.findClass]; exact hcc
  · have h1 : s.heap[z]? = some s.heap[z] := Array.getElem?_eq_getElem hz
    rw [h1]
    exact hsame'.old_cell h1

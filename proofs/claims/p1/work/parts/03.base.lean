/-! Small rows of my own, for the walks that walk.py prints. -/
section TK
theorem tv_in {i : Int32} {n : Nat} (h : decide (¬ (i < 0 ∨ n ≤ i.toNatClampNeg)) = true) : vp_in i n := by
  have h1 : ¬ (i < 0 ∨ n ≤ i.toNatClampNeg) := of_decide_eq_true h
  exact h1
theorem tk_eq {D : va_G} {cl : List vw_C} {tys : List (ClassId × FieldType)} {s : State} (h : va_K D cl tys s) {i j : Nat} {c1 c2 : ClassId} {ty : FieldType} (hi : tys[i]? = some (c1, ty)) (hj : tys[j]? = some (c2, ty)) : c1 = c2 := by
  have h1 : va_RA s c1 ty := (h.2 i _ hi).2
  have h2 : va_RA s c2 ty := (h.2 j _ hj).2
  cases ty with
  | object C =>
    obtain ⟨_, _, _, _, _, e1⟩ := h1
    obtain ⟨_, _, _, _, _, e2⟩ := h2
    exact Option.some.inj (e1.symm.trans e2)
  | _ => exact Option.some.inj ((show s.vm.findClass _ = some c1 from h1).symm.trans (show s.vm.findClass _ = some c2 from h2))
theorem tk_prim {args : Array Value} {s : State} {ty : FieldType} (hp : ∀ C, ty ≠ .object C) (h : (Cond.arrayClass ty).before args s = true) : ∃ cA : ClassId, ArrOfT s cA ty ∧ va_RA s cA ty := by
  obtain ⟨c, k, comp, h1, h2, h3⟩ := Cond.arrayClass_spec h
  refine ⟨c, fun n z => ⟨(fun k h => by cases h), k, h2, comp, h3⟩, ?_⟩
  cases ty with
  | object C => exact absurd rfl (hp C)
  | _ => exact h1
theorem tk_obj {args : Array Value} {s : State} {C : String} (h : (Cond.arrayOver (.object C)).before args s = true) : ∃ cA : ClassId, ArrOfT s cA (.object C) ∧ va_RA s cA (.object C) := by
  obtain ⟨comp, c, k, h1, h2, h3, h4, h5⟩ := Cond.arrayOver_spec h
  exact ⟨c, fun n z => ⟨(fun k h => by cases h), k, h3, comp, h4⟩, k, comp, h3, h4, h1, h5⟩
theorem tk_bl {D : va_G} {cl : List vw_C} {ws : va_W} {tys : List (ClassId × FieldType)} {av : List Value} : FrameBlind (va_Pc av (fun U => va_P D cl ws U.heap ∧ va_K D cl tys U)) := fun a U g mk q => by
  obtain ⟨q0, qP, qK⟩ := q
  exact ⟨q0, qP, va_K.moved (u := U) (U := U.calling g mk a) (Vm.Alike.refl U.vm) qK⟩
theorem tk_blw {D : va_G} {cl : List vw_C} {ws : va_W} {tys : List (ClassId × FieldType)} {av : List Value} {sz : Nat} : FrameBlind (va_Pc av (fun U => U.heap.size = sz ∧ va_P D cl ws U.heap ∧ va_K D cl tys U ∧ va_D (fun _ => True) ws)) := fun a U g mk q => by
  obtain ⟨q0, q1, qP, qK, qD⟩ := q
  exact ⟨q0, q1, qP, va_K.moved (u := U) (U := U.calling g mk a) (Vm.Alike.refl U.vm) qK, qD⟩
variable {p : Program} {l : Launch} {e : Env} {R : Room} {s : State} {m : MethodId} {args : Array Value} {below : List Frame} {meth : Method} {c : Code} {H : Heap} {locs : List Loc} {cells slots mc ms : Nat}
theorem tk_run {g : JFrame} {rest : List Value} {Qa : State → Outcome → State → Prop} {free : Addr → Prop} (h : va_Run p l e R s m args below meth c H locs cells slots mc ms g rest Qa free) : CallRun p l e R s m args below meth c H locs cells slots mc ms g rest Qa free := by
  intro T hT X
  obtain ⟨v, st₀, t, T', L, h0, X', hL, e1, -, hq, st⟩ := h T hT X
  exact ⟨v, st₀, t, T', L, h0, X', hL, e1, hq, st⟩
theorem tk_P0 {D : va_G} {cl : List vw_C} {H : Heap} : va_P D cl [] H := fun k q h => by simp at h
theorem tk_D0 {A : Nat → Prop} : va_D A [] := ⟨fun i j p q h => by simp at h, fun k q h => by simp at h⟩
theorem tk_t (t : Int32) : t < 0 ∨ (¬ t < 0 ∧ ¬ t < 3 ∧ 2 < t) ∨ t = 0 ∨ t = 1 ∨ t = 2 := by
  simp only [Int32.lt_iff_toInt_lt, ← Int32.toInt_inj]
  have h0 : (0 : Int32).toInt = 0 := by decide
  have h1 : (1 : Int32).toInt = 1 := by decide
  have h2 : (2 : Int32).toInt = 2 := by decide
  have h3 : (3 : Int32).toInt = 3 := by decide
  rw [h0, h1, h2, h3]
  omega
theorem tk_k (t : Int32) : t < 0 ∨ (¬ t < 0 ∧ ¬ t < 64 ∧ 63 < t) ∨ ∃ j : Nat, j < 64 ∧ t = nI j := by
  by_cases h : t < 0
  · exact Or.inl h
  · obtain ⟨j, hj, rfl⟩ := nI_of h
    by_cases h2 : j < 64
    · exact Or.inr (Or.inr ⟨j, h2, rfl⟩)
    · exact Or.inr (Or.inl ⟨h, nI_nlt (b := 64) (by omega) hj, nI_lt (a := 63) (by omega) hj⟩)
theorem tk_n (n : Nat) (h0 : 0 < n) (hn : n < 2 ^ 31) (t : Int32) : t < 0 ∨ (¬ t < 0 ∧ ¬ t < nI n ∧ nI (n - 1) < t) ∨ ∃ j : Nat, j < n ∧ t = nI j := by
  by_cases h : t < 0
  · exact Or.inl h
  · obtain ⟨j, hj, rfl⟩ := nI_of h
    by_cases h2 : j < n
    · exact Or.inr (Or.inr ⟨j, h2, rfl⟩)
    · exact Or.inr (Or.inl ⟨h, nI_nlt (b := n) (by omega) hj, nI_lt (a := n - 1) (by omega) hj⟩)
theorem tk_w (b i : Nat) : (4 : Int32) * nI b + nI i = nI (4 * b + i) := by
  rw [show (4 : Int32) * nI b = nI (4 * b) from (Int32.ofNat_mul 4 b).symm, nI_add]
/-- the sixteen rests of a script's first number -/
theorem tk_and15 (x : Int32) : ∃ k : Nat, k < 16 ∧ x &&& 15 = nI k := by
  refine ⟨(x.toBitVec &&& 15#32).toNat, ?_, ?_⟩
  · rw [BitVec.toNat_and]
    exact Nat.lt_of_le_of_lt Nat.and_le_right (by decide)
  · apply Int32.toBitVec_inj.mp
    show x.toBitVec &&& (15 : Int32).toBitVec = (Int32.ofNat _).toBitVec
    rw [Int32.toBitVec_ofNat]
    simp
/-- a counting loop that writes nothing: Lv i the locals at the i-th turn -/
theorem tk_for {G : Array Slot → Prop} {nL : Nat} (Lv : Nat → List (Nat × Value)) (N : Nat) (hend : ∀ ls, lv_has ls nL (Lv N) → G ls)
    (hstep : ∀ i, i < N → ∀ ls, lv_has ls nL (Lv i) → (∀ ls', lv_has ls' nL (Lv (i + 1)) → G ls') → G ls) : ∀ ls, lv_has ls nL (Lv 0) → G ls := by
  have key : ∀ n i, i + n = N → ∀ ls, lv_has ls nL (Lv i) → G ls := by
    intro n
    induction n with
    | zero => intro i hi ls hl; obtain rfl : i = N := by omega
              exact hend ls hl
    | succ n ih => intro i hi ls hl; exact hstep i (by omega) ls hl (fun ls' hl' => ih (i + 1) (by omega) ls' hl')
  exact key N 0 (by omega)
/-- .. and one that writes: ws z the world, z what may change from turn to turn -/
theorem tk_forW {D : va_G} {cl : List vw_C} {A : Nat → Prop} {H0 : Heap} {nL : Nat} {G : Array Slot → Heap → List Loc → Prop} {σ : Type} (Lv : Nat → List (Nat × Value)) (ws : σ → va_W) (N : Nat)
    (hend : ∀ z ls H locs, lv_has ls nL (Lv N) → va_P D cl (ws z) H → va_D A (ws z) → va_S A H0 H locs → G ls H locs)
    (hstep : ∀ i, i < N → ∀ z ls H locs, lv_has ls nL (Lv i) → va_P D cl (ws z) H → va_D A (ws z) → va_S A H0 H locs →
      (∀ z' ls' H' locs', lv_has ls' nL (Lv (i + 1)) → va_P D cl (ws z') H' → va_D A (ws z') → va_S A H0 H' locs' → G ls' H' locs') → G ls H locs) :
    ∀ z ls H locs, lv_has ls nL (Lv 0) → va_P D cl (ws z) H → va_D A (ws z) → va_S A H0 H locs → G ls H locs := by
  have key : ∀ n i, i + n = N → ∀ z ls H locs, lv_has ls nL (Lv i) → va_P D cl (ws z) H → va_D A (ws z) → va_S A H0 H locs → G ls H locs := by
    intro n
    induction n with
    | zero => intro i hi z ls H locs hl hP hD hS; obtain rfl : i = N := by omega
              exact hend z ls H locs hl hP hD hS
    | succ n ih => intro i hi z ls H locs hl hP hD hS; exact hstep i (by omega) z ls H locs hl hP hD hS (fun z' ls' H' locs' h1 h2 h3 h4 => ih (i + 1) (by omega) z' ls' H' locs' h1 h2 h3 h4)
  exact key N 0 (by omega)
end TK

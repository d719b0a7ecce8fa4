section
-- ===== PART A: goes FIRST, ahead of the names: the tables' words, and 'selects' of the private methods out of them =====
/-- a private method of a class that the tables say can be made, by its rows of tables_1 -/
def lw_okq (q : MethodName × Nat) : Prop := (q.1.cls ≠ "java/lang/invoke/MethodHandle" ∧ q.1.cls ≠ "java/lang/invoke/VarHandle") ∧ Cond.instantiable q.1.cls q.2 ∈ tables_1 ∧ Cond.privateMethod q.1 ∈ tables_1 ∧ Cond.instanceMethod q.1 ∈ tables_1
theorem lw_p0 : lw_okq (⟨"LoggedStore$Disk", "setWords", "(IIIIII)V"⟩, 4) := ⟨⟨by decide +kernel, by decide +kernel⟩, List.mem_of_getElem? (i := 25) (by decide +kernel), List.mem_of_getElem? (i := 112) (by decide +kernel), List.mem_of_getElem? (i := 113) (by decide +kernel)⟩
theorem lw_p1 : lw_okq (⟨"LoggedStore", "countingHeader", "()I"⟩, 8) := ⟨⟨by decide +kernel, by decide +kernel⟩, List.mem_of_getElem? (i := 17) (by decide +kernel), List.mem_of_getElem? (i := 170) (by decide +kernel), List.mem_of_getElem? (i := 171) (by decide +kernel)⟩
theorem lw_p2 : lw_okq (⟨"LoggedStore", "isHeader", "(I)Z"⟩, 8) := ⟨⟨by decide +kernel, by decide +kernel⟩, List.mem_of_getElem? (i := 17) (by decide +kernel), List.mem_of_getElem? (i := 174) (by decide +kernel), List.mem_of_getElem? (i := 175) (by decide +kernel)⟩
theorem lw_p3 : lw_okq (⟨"LoggedStore", "readCheckpoint", "(I)V"⟩, 8) := ⟨⟨by decide +kernel, by decide +kernel⟩, List.mem_of_getElem? (i := 17) (by decide +kernel), List.mem_of_getElem? (i := 188) (by decide +kernel), List.mem_of_getElem? (i := 189) (by decide +kernel)⟩
theorem lw_p4 : lw_okq (⟨"LoggedStore", "readArea", "(I)V"⟩, 8) := ⟨⟨by decide +kernel, by decide +kernel⟩, List.mem_of_getElem? (i := 17) (by decide +kernel), List.mem_of_getElem? (i := 192) (by decide +kernel), List.mem_of_getElem? (i := 193) (by decide +kernel)⟩
theorem lw_p5 : lw_okq (⟨"LoggedStore", "redoLog", "()V"⟩, 8) := ⟨⟨by decide +kernel, by decide +kernel⟩, List.mem_of_getElem? (i := 17) (by decide +kernel), List.mem_of_getElem? (i := 210) (by decide +kernel), List.mem_of_getElem? (i := 211) (by decide +kernel)⟩
theorem lw_p6 : lw_okq (⟨"LoggedStore", "isOfThisLog", "(I)Z"⟩, 8) := ⟨⟨by decide +kernel, by decide +kernel⟩, List.mem_of_getElem? (i := 17) (by decide +kernel), List.mem_of_getElem? (i := 214) (by decide +kernel), List.mem_of_getElem? (i := 215) (by decide +kernel)⟩
theorem lw_p7 : lw_okq (⟨"LoggedStore", "kindOf", "(I)I"⟩, 8) := ⟨⟨by decide +kernel, by decide +kernel⟩, List.mem_of_getElem? (i := 17) (by decide +kernel), List.mem_of_getElem? (i := 221) (by decide +kernel), List.mem_of_getElem? (i := 222) (by decide +kernel)⟩
theorem lw_p8 : lw_okq (⟨"LoggedStore", "endsCommit", "(I)Z"⟩, 8) := ⟨⟨by decide +kernel, by decide +kernel⟩, List.mem_of_getElem? (i := 17) (by decide +kernel), List.mem_of_getElem? (i := 225) (by decide +kernel), List.mem_of_getElem? (i := 226) (by decide +kernel)⟩
theorem lw_p9 : lw_okq (⟨"LoggedStore", "redoWrites", "(II)V"⟩, 8) := ⟨⟨by decide +kernel, by decide +kernel⟩, List.mem_of_getElem? (i := 17) (by decide +kernel), List.mem_of_getElem? (i := 229) (by decide +kernel), List.mem_of_getElem? (i := 230) (by decide +kernel)⟩
theorem lw_p10 : lw_okq (⟨"LoggedStore", "requireUp", "()V"⟩, 8) := ⟨⟨by decide +kernel, by decide +kernel⟩, List.mem_of_getElem? (i := 17) (by decide +kernel), List.mem_of_getElem? (i := 251) (by decide +kernel), List.mem_of_getElem? (i := 252) (by decide +kernel)⟩
theorem lw_p11 : lw_okq (⟨"java/lang/Throwable", "fillInStackTrace", "(I)Ljava/lang/Throwable;"⟩, 6) := ⟨⟨by decide +kernel, by decide +kernel⟩, List.mem_of_getElem? (i := 295) (by decide +kernel), List.mem_of_getElem? (i := 293) (by decide +kernel), List.mem_of_getElem? (i := 294) (by decide +kernel)⟩
theorem lw_p12 : lw_okq (⟨"LoggedStore", "viewFor", "(II)LLoggedStore$Table;"⟩, 8) := ⟨⟨by decide +kernel, by decide +kernel⟩, List.mem_of_getElem? (i := 17) (by decide +kernel), List.mem_of_getElem? (i := 376) (by decide +kernel), List.mem_of_getElem? (i := 377) (by decide +kernel)⟩
theorem lw_p13 : lw_okq (⟨"LoggedStore", "requireOpen", "(I)V"⟩, 8) := ⟨⟨by decide +kernel, by decide +kernel⟩, List.mem_of_getElem? (i := 17) (by decide +kernel), List.mem_of_getElem? (i := 380) (by decide +kernel), List.mem_of_getElem? (i := 381) (by decide +kernel)⟩
theorem lw_p14 : lw_okq (⟨"LoggedStore$Transaction", "markWritten", "(I)V"⟩, 5) := ⟨⟨by decide +kernel, by decide +kernel⟩, List.mem_of_getElem? (i := 67) (by decide +kernel), List.mem_of_getElem? (i := 421) (by decide +kernel), List.mem_of_getElem? (i := 422) (by decide +kernel)⟩
theorem lw_p15 : lw_okq (⟨"LoggedStore", "hasConflict", "(LLoggedStore$Transaction;)Z"⟩, 8) := ⟨⟨by decide +kernel, by decide +kernel⟩, List.mem_of_getElem? (i := 17) (by decide +kernel), List.mem_of_getElem? (i := 463) (by decide +kernel), List.mem_of_getElem? (i := 464) (by decide +kernel)⟩
def lw_privs_1 : List (MethodName × Nat) := [(⟨"LoggedStore$Disk", "setWords", "(IIIIII)V"⟩, 4), (⟨"LoggedStore", "countingHeader", "()I"⟩, 8), (⟨"LoggedStore", "isHeader", "(I)Z"⟩, 8), (⟨"LoggedStore", "readCheckpoint", "(I)V"⟩, 8), (⟨"LoggedStore", "readArea", "(I)V"⟩, 8), (⟨"LoggedStore", "redoLog", "()V"⟩, 8), (⟨"LoggedStore", "isOfThisLog", "(I)Z"⟩, 8), (⟨"LoggedStore", "kindOf", "(I)I"⟩, 8), (⟨"LoggedStore", "endsCommit", "(I)Z"⟩, 8), (⟨"LoggedStore", "redoWrites", "(II)V"⟩, 8), (⟨"LoggedStore", "requireUp", "()V"⟩, 8), (⟨"java/lang/Throwable", "fillInStackTrace", "(I)Ljava/lang/Throwable;"⟩, 6), (⟨"LoggedStore", "viewFor", "(II)LLoggedStore$Table;"⟩, 8), (⟨"LoggedStore", "requireOpen", "(I)V"⟩, 8), (⟨"LoggedStore$Transaction", "markWritten", "(I)V"⟩, 5), (⟨"LoggedStore", "hasConflict", "(LLoggedStore$Transaction;)Z"⟩, 8)]
theorem lw_r1 : ∀ q ∈ lw_privs_1, lw_okq q := List.forall_mem_cons.mpr ⟨lw_p0, List.forall_mem_cons.mpr ⟨lw_p1, List.forall_mem_cons.mpr ⟨lw_p2, List.forall_mem_cons.mpr ⟨lw_p3, List.forall_mem_cons.mpr ⟨lw_p4, List.forall_mem_cons.mpr ⟨lw_p5, List.forall_mem_cons.mpr ⟨lw_p6, List.forall_mem_cons.mpr ⟨lw_p7, List.forall_mem_cons.mpr ⟨lw_p8, List.forall_mem_cons.mpr ⟨lw_p9, List.forall_mem_cons.mpr ⟨lw_p10, List.forall_mem_cons.mpr ⟨lw_p11, List.forall_mem_cons.mpr ⟨lw_p12, List.forall_mem_cons.mpr ⟨lw_p13, List.forall_mem_cons.mpr ⟨lw_p14, List.forall_mem_cons.mpr ⟨lw_p15, fun _ h => absurd h List.not_mem_nil⟩⟩⟩⟩⟩⟩⟩⟩⟩⟩⟩⟩⟩⟩⟩⟩
theorem lw_p16 : lw_okq (⟨"LoggedStore", "countWith", "(LLoggedStore$Transaction;)I"⟩, 8) := ⟨⟨by decide +kernel, by decide +kernel⟩, List.mem_of_getElem? (i := 17) (by decide +kernel), List.mem_of_getElem? (i := 468) (by decide +kernel), List.mem_of_getElem? (i := 469) (by decide +kernel)⟩
theorem lw_p17 : lw_okq (⟨"LoggedStore", "logWrites", "(LLoggedStore$Transaction;)V"⟩, 8) := ⟨⟨by decide +kernel, by decide +kernel⟩, List.mem_of_getElem? (i := 17) (by decide +kernel), List.mem_of_getElem? (i := 493) (by decide +kernel), List.mem_of_getElem? (i := 494) (by decide +kernel)⟩
theorem lw_p18 : lw_okq (⟨"LoggedStore", "logWrite", "(ILLoggedStore$Table;I)V"⟩, 8) := ⟨⟨by decide +kernel, by decide +kernel⟩, List.mem_of_getElem? (i := 17) (by decide +kernel), List.mem_of_getElem? (i := 497) (by decide +kernel), List.mem_of_getElem? (i := 498) (by decide +kernel)⟩
theorem lw_p19 : lw_okq (⟨"LoggedStore", "doWrites", "(LLoggedStore$Transaction;)V"⟩, 8) := ⟨⟨by decide +kernel, by decide +kernel⟩, List.mem_of_getElem? (i := 17) (by decide +kernel), List.mem_of_getElem? (i := 512) (by decide +kernel), List.mem_of_getElem? (i := 513) (by decide +kernel)⟩
theorem lw_p20 : lw_okq (⟨"LoggedStore", "writeArea", "(I)V"⟩, 8) := ⟨⟨by decide +kernel, by decide +kernel⟩, List.mem_of_getElem? (i := 17) (by decide +kernel), List.mem_of_getElem? (i := 529) (by decide +kernel), List.mem_of_getElem? (i := 530) (by decide +kernel)⟩
theorem lw_p21 : lw_okq (⟨"LoggedStoreModel", "lackOfKey", "(II)I"⟩, 18) := ⟨⟨by decide +kernel, by decide +kernel⟩, List.mem_of_getElem? (i := 562) (by decide +kernel), List.mem_of_getElem? (i := 644) (by decide +kernel), List.mem_of_getElem? (i := 645) (by decide +kernel)⟩
theorem lw_p22 : lw_okq (⟨"LoggedStoreModel", "lackOf", "(I)I"⟩, 18) := ⟨⟨by decide +kernel, by decide +kernel⟩, List.mem_of_getElem? (i := 562) (by decide +kernel), List.mem_of_getElem? (i := 648) (by decide +kernel), List.mem_of_getElem? (i := 649) (by decide +kernel)⟩
theorem lw_p23 : lw_okq (⟨"LoggedStoreModel", "sees", "(II)Z"⟩, 18) := ⟨⟨by decide +kernel, by decide +kernel⟩, List.mem_of_getElem? (i := 562) (by decide +kernel), List.mem_of_getElem? (i := 652) (by decide +kernel), List.mem_of_getElem? (i := 653) (by decide +kernel)⟩
theorem lw_p24 : lw_okq (⟨"LoggedStoreModel", "writesOf", "(I)I"⟩, 18) := ⟨⟨by decide +kernel, by decide +kernel⟩, List.mem_of_getElem? (i := 562) (by decide +kernel), List.mem_of_getElem? (i := 672) (by decide +kernel), List.mem_of_getElem? (i := 673) (by decide +kernel)⟩
theorem lw_p25 : lw_okq (⟨"LoggedStoreModel", "conflicts", "(I)Z"⟩, 18) := ⟨⟨by decide +kernel, by decide +kernel⟩, List.mem_of_getElem? (i := 562) (by decide +kernel), List.mem_of_getElem? (i := 680) (by decide +kernel), List.mem_of_getElem? (i := 681) (by decide +kernel)⟩
theorem lw_p26 : lw_okq (⟨"LoggedStoreModel", "countWith", "(I)I"⟩, 18) := ⟨⟨by decide +kernel, by decide +kernel⟩, List.mem_of_getElem? (i := 562) (by decide +kernel), List.mem_of_getElem? (i := 684) (by decide +kernel), List.mem_of_getElem? (i := 685) (by decide +kernel)⟩
theorem lw_p27 : lw_okq (⟨"LoggedStoreModel", "logWrites", "(II)V"⟩, 18) := ⟨⟨by decide +kernel, by decide +kernel⟩, List.mem_of_getElem? (i := 562) (by decide +kernel), List.mem_of_getElem? (i := 688) (by decide +kernel), List.mem_of_getElem? (i := 689) (by decide +kernel)⟩
theorem lw_p28 : lw_okq (⟨"LoggedStoreModel", "writeChecked", "(IIII)V"⟩, 18) := ⟨⟨by decide +kernel, by decide +kernel⟩, List.mem_of_getElem? (i := 562) (by decide +kernel), List.mem_of_getElem? (i := 692) (by decide +kernel), List.mem_of_getElem? (i := 693) (by decide +kernel)⟩
theorem lw_p29 : lw_okq (⟨"LoggedStoreModel", "write", "(IIIII)V"⟩, 18) := ⟨⟨by decide +kernel, by decide +kernel⟩, List.mem_of_getElem? (i := 562) (by decide +kernel), List.mem_of_getElem? (i := 696) (by decide +kernel), List.mem_of_getElem? (i := 697) (by decide +kernel)⟩
theorem lw_p30 : lw_okq (⟨"LoggedStoreModel", "putWord", "(III)V"⟩, 18) := ⟨⟨by decide +kernel, by decide +kernel⟩, List.mem_of_getElem? (i := 562) (by decide +kernel), List.mem_of_getElem? (i := 700) (by decide +kernel), List.mem_of_getElem? (i := 701) (by decide +kernel)⟩
theorem lw_p31 : lw_okq (⟨"LoggedStoreModel", "doWrites", "(I)V"⟩, 18) := ⟨⟨by decide +kernel, by decide +kernel⟩, List.mem_of_getElem? (i := 562) (by decide +kernel), List.mem_of_getElem? (i := 704) (by decide +kernel), List.mem_of_getElem? (i := 705) (by decide +kernel)⟩
def lw_privs_2 : List (MethodName × Nat) := [(⟨"LoggedStore", "countWith", "(LLoggedStore$Transaction;)I"⟩, 8), (⟨"LoggedStore", "logWrites", "(LLoggedStore$Transaction;)V"⟩, 8), (⟨"LoggedStore", "logWrite", "(ILLoggedStore$Table;I)V"⟩, 8), (⟨"LoggedStore", "doWrites", "(LLoggedStore$Transaction;)V"⟩, 8), (⟨"LoggedStore", "writeArea", "(I)V"⟩, 8), (⟨"LoggedStoreModel", "lackOfKey", "(II)I"⟩, 18), (⟨"LoggedStoreModel", "lackOf", "(I)I"⟩, 18), (⟨"LoggedStoreModel", "sees", "(II)Z"⟩, 18), (⟨"LoggedStoreModel", "writesOf", "(I)I"⟩, 18), (⟨"LoggedStoreModel", "conflicts", "(I)Z"⟩, 18), (⟨"LoggedStoreModel", "countWith", "(I)I"⟩, 18), (⟨"LoggedStoreModel", "logWrites", "(II)V"⟩, 18), (⟨"LoggedStoreModel", "writeChecked", "(IIII)V"⟩, 18), (⟨"LoggedStoreModel", "write", "(IIIII)V"⟩, 18), (⟨"LoggedStoreModel", "putWord", "(III)V"⟩, 18), (⟨"LoggedStoreModel", "doWrites", "(I)V"⟩, 18)]
theorem lw_r2 : ∀ q ∈ lw_privs_2, lw_okq q := List.forall_mem_cons.mpr ⟨lw_p16, List.forall_mem_cons.mpr ⟨lw_p17, List.forall_mem_cons.mpr ⟨lw_p18, List.forall_mem_cons.mpr ⟨lw_p19, List.forall_mem_cons.mpr ⟨lw_p20, List.forall_mem_cons.mpr ⟨lw_p21, List.forall_mem_cons.mpr ⟨lw_p22, List.forall_mem_cons.mpr ⟨lw_p23, List.forall_mem_cons.mpr ⟨lw_p24, List.forall_mem_cons.mpr ⟨lw_p25, List.forall_mem_cons.mpr ⟨lw_p26, List.forall_mem_cons.mpr ⟨lw_p27, List.forall_mem_cons.mpr ⟨lw_p28, List.forall_mem_cons.mpr ⟨lw_p29, List.forall_mem_cons.mpr ⟨lw_p30, List.forall_mem_cons.mpr ⟨lw_p31, fun _ h => absurd h List.not_mem_nil⟩⟩⟩⟩⟩⟩⟩⟩⟩⟩⟩⟩⟩⟩⟩⟩
theorem lw_p32 : lw_okq (⟨"LoggedStoreModel", "countNow", "()I"⟩, 18) := ⟨⟨by decide +kernel, by decide +kernel⟩, List.mem_of_getElem? (i := 562) (by decide +kernel), List.mem_of_getElem? (i := 712) (by decide +kernel), List.mem_of_getElem? (i := 713) (by decide +kernel)⟩
theorem lw_p33 : lw_okq (⟨"LoggedStoreModel", "keyAt", "(I)I"⟩, 18) := ⟨⟨by decide +kernel, by decide +kernel⟩, List.mem_of_getElem? (i := 562) (by decide +kernel), List.mem_of_getElem? (i := 716) (by decide +kernel), List.mem_of_getElem? (i := 717) (by decide +kernel)⟩
theorem lw_p34 : lw_okq (⟨"LoggedStoreModel", "counts", "(I)Z"⟩, 18) := ⟨⟨by decide +kernel, by decide +kernel⟩, List.mem_of_getElem? (i := 562) (by decide +kernel), List.mem_of_getElem? (i := 724) (by decide +kernel), List.mem_of_getElem? (i := 725) (by decide +kernel)⟩
theorem lw_p35 : lw_okq (⟨"LoggedStoreModel", "isGood", "(I)Z"⟩, 18) := ⟨⟨by decide +kernel, by decide +kernel⟩, List.mem_of_getElem? (i := 562) (by decide +kernel), List.mem_of_getElem? (i := 728) (by decide +kernel), List.mem_of_getElem? (i := 729) (by decide +kernel)⟩
theorem lw_p36 : lw_okq (⟨"LoggedStoreModel", "takeArea", "(I)V"⟩, 18) := ⟨⟨by decide +kernel, by decide +kernel⟩, List.mem_of_getElem? (i := 562) (by decide +kernel), List.mem_of_getElem? (i := 732) (by decide +kernel), List.mem_of_getElem? (i := 733) (by decide +kernel)⟩
theorem lw_p37 : lw_okq (⟨"LoggedStoreModel", "takeLog", "()V"⟩, 18) := ⟨⟨by decide +kernel, by decide +kernel⟩, List.mem_of_getElem? (i := 562) (by decide +kernel), List.mem_of_getElem? (i := 736) (by decide +kernel), List.mem_of_getElem? (i := 737) (by decide +kernel)⟩
theorem lw_p38 : lw_okq (⟨"LoggedStoreModel", "redo", "(I)V"⟩, 18) := ⟨⟨by decide +kernel, by decide +kernel⟩, List.mem_of_getElem? (i := 562) (by decide +kernel), List.mem_of_getElem? (i := 740) (by decide +kernel), List.mem_of_getElem? (i := 741) (by decide +kernel)⟩
def lw_privs_3 : List (MethodName × Nat) := [(⟨"LoggedStoreModel", "countNow", "()I"⟩, 18), (⟨"LoggedStoreModel", "keyAt", "(I)I"⟩, 18), (⟨"LoggedStoreModel", "counts", "(I)Z"⟩, 18), (⟨"LoggedStoreModel", "isGood", "(I)Z"⟩, 18), (⟨"LoggedStoreModel", "takeArea", "(I)V"⟩, 18), (⟨"LoggedStoreModel", "takeLog", "()V"⟩, 18), (⟨"LoggedStoreModel", "redo", "(I)V"⟩, 18)]
theorem lw_r3 : ∀ q ∈ lw_privs_3, lw_okq q := List.forall_mem_cons.mpr ⟨lw_p32, List.forall_mem_cons.mpr ⟨lw_p33, List.forall_mem_cons.mpr ⟨lw_p34, List.forall_mem_cons.mpr ⟨lw_p35, List.forall_mem_cons.mpr ⟨lw_p36, List.forall_mem_cons.mpr ⟨lw_p37, List.forall_mem_cons.mpr ⟨lw_p38, fun _ h => absurd h List.not_mem_nil⟩⟩⟩⟩⟩⟩⟩
def lw_privs : List (MethodName × Nat) := lw_privs_1 ++ (lw_privs_2 ++ (lw_privs_3))
def lw_tbl : List Cond := k2_sels lw_privs ++ tables_1
theorem lw_privs_ok : ∀ q ∈ lw_privs, lw_okq q := by
  show ∀ q ∈ lw_privs_1 ++ (lw_privs_2 ++ (lw_privs_3)), lw_okq q
  exact List.forall_mem_append.mpr ⟨lw_r1, List.forall_mem_append.mpr ⟨lw_r2, lw_r3⟩⟩
end
section
/-! Rows of my own: methods that throw. MetX: the contract of a method that always throws from the states it speaks of; tx_Run: a call of such a method; tx_out: nobody catches it here; tx_caught: a handler of this method takes it; tx_throw: 'throw new E("text")'. No class of this claim is named here. -/
section TXA
variable {l : Launch}
/-- the contract of a method that throws: x is the thrown object's address -/
def MetX (l : Launch) (y : MethodName) (ws : List Cond) (rm : Room) (Pc : Array Value → State → Prop) (Qx : Array Value → State → Addr → State → Prop) (mc ms : Nat) : Prop :=
  MetFree l y (headSpec ws rm) Pc (fun _ _ _ _ _ => True) (fun a st o t => ∃ x : Addr, o = .threw x ∧ Qx a st x t ∧ st.WarmedH t.vm ∧ st.sameButNew ({ t with vm := st.vm } : State) [] mc ms)
/-- what its body owes at its end -/
def MQX (below : List Frame) (Qx : Array Value → State → Addr → State → Prop) (a : Array Value) (s : State) (mc ms : Nat) : State → Prop := fun t =>
  ∃ x : Addr, t.status = .running ∧ Ended t below (.threw x) ∧ Qx a s x t ∧ s.WarmedH t.vm ∧ s.sameButNew ({ t with vm := s.vm } : State) [] mc ms
/-- thrown: a new object of class C; every old cell is as it was -/
def tx_Qx (C : String) : Array Value → State → Addr → State → Prop := fun _ st x t =>
  (∃ ce : Cell, t.heap[x]? = some ce ∧ ce.vm = .none ∧ t.vm.findClass C = some ce.cls) ∧ st.heap.size ≤ x ∧ st.heap.size ≤ t.heap.size ∧ ∀ q : Nat, q < st.heap.size → t.heap[q]? = st.heap[q]?
theorem MetX.ofW {y : MethodName} {ws ws' : List Cond} {rm : Room} {Pc : Array Value → State → Prop} {Qx : Array Value → State → Addr → State → Prop} {mc ms : Nat} {cc : ByteArray} {maxL : Nat} {ret : Option FieldType}
    (hy : plainName y.cls = true) (hw : ws = Cond.code y cc maxL ret :: ws')
    (body : ∀ p e s m args below meth c s₁, BodyLoose p l y (headSpec ws rm) cc maxL ret e s m args below meth c s₁ → c.maxLocals = maxL → c.exceptionTable.toList = [] → Pc args s →
      W p l e (headSpec ws rm).room s m args below meth c s.heap [] 0 0 (MQX below Qx args s mc ms) (entryFrame m args maxL)) : MetX l y ws rm Pc Qx mc ms := by
  have hcode : ∀ (args : Array Value) (s : State), (headSpec ws rm).pre.before args s = true → (Cond.code y cc maxL ret).before args s = true := fun args s h => atoms_spec (ws := ws) h _ (by rw [hw]; exact List.mem_cons_self)
  refine MetFree.of_bodyS (code := cc) (maxLocals := maxL) (ret := ret) hy ?_ ?_
  · intro args s m h hn
    obtain ⟨meth, c, h1, h2, h3, h4, h5, h6, -, -⟩ := Cond.code_spec hn (hcode args s h)
    exact ⟨meth, c, h1, h2, h3, h4, h5, h6⟩
  · intro p e s m args below meth c s₁ B hml hP _
    have X₀ := Stand.of_body B
    have htab : c.exceptionTable.toList = [] := by
      obtain ⟨meth', c', h1, h2, -, -, -, -, h7, -⟩ := Cond.code_spec B.named (hcode args s B.pre)
      cases Option.some.inj (h1.symm.trans B.method)
      cases Option.some.inj (h2.symm.trans X₀.code)
      rw [Array.isEmpty_iff.mp h7]
    obtain ⟨t, a1, x, b1, b2, b3, b4, b5⟩ := body p e s m args below meth c s₁ B hml htab hP s₁ (by rw [B.state]; rfl) X₀
    exact ⟨t, .threw x, a1, b1, b2, x, rfl, b3, b4, b5⟩
end TXA

section TXB
variable {l : Launch} {R : Room} {p : Program} {e : Env} {below : List Frame} {s : State} {sargs : Array Value} {y : MethodName} {len W : Nat}
/-- a call of y from any point of the walk comes to the note 'x is thrown' over the caller's own frame -/
def tx_Back (l : Launch) (R : Room) (p : Program) (e : Env) (below : List Frame) (s : State) (sargs : Array Value) (y : MethodName) (len W : Nat) (Pre : Pt → Array Value → Prop) (Post : Pt → Array Value → Addr → Pt → Prop) : Prop :=
  ∀ (m : MethodId) (meth : Method) (c : Code) (A : Pt) (g : JFrame) (ig : Instr) (mk : MethodId) (a : Array Value),
    Stand p l e R s m sargs below meth c A.U A.locs A.cells A.slots → g.method = m → g.locals.size = c.maxLocals → decode c.code g.pc = .ok (ig, len) →
    2 * g.monitorRoom + (g.stack.map fun v => v.category).sum ≤ W → A.U.methodNamed? y = some mk → Pre A a →
    ∃ (x : Addr) (B : Pt), Stand p l e R s m sargs below meth c B.U B.locs B.cells B.slots ∧ Post A a x B ∧
      Steps p.tables e below (doInvoke e (A.U.setTop g) [] mk a).1 ((B.U.setTop g).pushFrame (.throwing x))
def tx_Post (Qx : Array Value → State → Addr → State → Prop) (mc ms : Nat) : Pt → Array Value → Addr → Pt → Prop := fun A a x B =>
  ∃ (g : JFrame) (mk : MethodId) (t : State), B.U.heap = t.heap ∧ B.U.vm = t.vm ∧ Qx a (A.U.calling g mk a) x t ∧ B.locs = A.locs ∧ B.cells = A.cells + mc ∧ B.slots = A.slots + ms
theorem tx_back {ws : List Cond} {rm : Room} {Pc : Array Value → State → Prop} {Qx : Array Value → State → Addr → State → Prop} {mc ms : Nat} {bytes : ByteArray} {maxL : Nat} {ret : Option FieldType}
    (hM : MetX l y ws rm Pc Qx mc ms) (hblind : FrameBlind Pc) (hrc : rm.cells = mc) (hrs : rm.slots = ms) (hframes : rm.frames + 1 ≤ R.frames) (hlocals : W + (maxL + 11) + rm.locals ≤ R.locals)
    (hws : ∀ w ∈ ws, ∀ (a' : Array Value) (U : State), s.WarmedH U.vm → w.before a' U = true) (hcode : Cond.code y bytes maxL ret ∈ ws) (hinit : ∀ (a' : Array Value) (U : State), s.WarmedH U.vm → (Cond.initialized y.cls).before a' U = true) :
    tx_Back l R p e below s sargs y len W (PreOf R mc ms Pc) (tx_Post Qx mc ms) := by
  intro m meth c A g ig mk a X hg hsize hdg hW hn hp
  obtain ⟨hp1, hp2, hp3⟩ := hp
  obtain ⟨U, Ls, c0, s0⟩ := A
  dsimp only [Pt.U, Pt.locs, Pt.cells, Pt.slots] at X hn hp1 hp2 hp3 ⊢
  obtain ⟨methY, cY, hmY, hcY, -, hlY, -, -, -, -⟩ := Cond.code_spec hn (hws _ hcode a U X.warmed)
  obtain ⟨kY, hkY, -⟩ := className_of_methodNamed hn
  have hinitY : kY.init = .initialized := Cond.initialized_spec (findClass_of_methodNamed hn) hkY (hinit a U X.warmed)
  have h : At U g.method c below := by rw [hg]; exact X.here
  have hpre : (headSpec ws rm).pre.before a U = true := atoms_intro fun w hw => hws w hw _ _ X.warmed
  have happ : (headSpec ws rm).appliesLoose y e.platform (U.calling g mk a) = true :=
    Spec.appliesLoose_calling (g := g) h hdg hn hkY hinitY
      (X.room_calling (g := g) (R' := (headSpec ws rm).room) hsize hmY hcY hframes (by rw [hlY]; show _ + _ + rm.locals ≤ _; omega) (by rw [show (headSpec ws rm).room.cells = mc from hrc]; exact hp1) (by rw [show (headSpec ws rm).room.slots = ms from hrs]; exact hp2)) hpre
  obtain ⟨mid, hmid⟩ := h.above
  have hfr : (U.setTop g).frames = (.java g :: mid) ++ below := by rw [State.frames_setTop' g h.top, hmid]; rfl
  obtain ⟨o, s₂, hsteps, -, hend, hq⟩ := Steps.callFree hM p X.admits X.cas X.clock (acts := []) hfr happ (hblind _ _ g mk hp3) trivial
  obtain ⟨x, rfl, hqx, hW₂, hsame⟩ := (show ∃ x : Addr, o = .threw x ∧ Qx a (U.calling g mk a) x s₂ ∧ (U.calling g mk a).WarmedH s₂.vm ∧ (U.calling g mk a).sameButNew ({ s₂ with vm := (U.calling g mk a).vm } : State) [] mc ms from hq)
  rw [State.frames_setTop' g h.top, X.tail] at hend
  obtain ⟨T', X', -, -, ht⟩ := X.outOfThrown hg hend hW₂ hsame
  rw [List.append_nil] at X'
  refine ⟨x, ⟨T', Ls, c0 + mc, s0 + ms⟩, X', ⟨g, mk, s₂, ?_, ?_, hqx, rfl, rfl, rfl⟩, ?_⟩
  · show T'.heap = s₂.heap
    rw [ht, Stand.throwing_heap]
  · show T'.vm = s₂.vm
    rw [ht, Stand.throwing_vm]
  · show Steps p.tables e below _ ((T'.setTop g).pushFrame (.throwing x))
    rw [← ht]
    exact hsteps
end TXB

section TXC
variable {p : Program} {l : Launch} {e : Env} {R : Room} {s : State} {m : MethodId} {args : Array Value} {below : List Frame} {meth : Method} {c : Code} {H : Heap} {locs : List Loc} {cells slots : Nat} {Q : State → Prop}
  {Ts ws ws' : List Cond} {cc bytes : ByteArray} {nL maxL index n mc ms : Nat} {own C : String} {y : MethodName} {ret : Option FieldType} {rm : Room} {Pc : Array Value → State → Prop} {Qx : Array Value → State → Addr → State → Prop}
  {b : Addr} {As rest : List Value} {g : JFrame} {a : Array Value}
/-- a call that throws -/
def tx_Run (p : Program) (l : Launch) (e : Env) (R : Room) (s : State) (m : MethodId) (args : Array Value) (below : List Frame) (meth : Method) (c : Code) (H : Heap) (locs : List Loc) (cells slots mc ms : Nat) (g : JFrame) (rest : List Value) (Qa : State → Addr → State → Prop) : Prop :=
  ∀ T : State, T.heap = H → Stand p l e R s m args below meth c T locs cells slots → ∃ (x : Addr) (st₀ t T' : State), st₀.heap = H ∧ Stand p l e R s m args below meth c T' locs (cells + mc) (slots + ms) ∧ T'.heap = t.heap ∧ T'.vm = t.vm ∧ Qa st₀ x t ∧
    ∀ target, Steps p.tables e below ((T'.setTop { g with stack := rest }).pushFrame (.throwing x)) target → Steps p.tables e below (T.setTop g) target
theorem tx_runV (S : CallFix p m c cc nL s args Ts own) (hM : MetX l y ws rm Pc Qx mc ms) (cw : CallW R s args own C index y bytes maxL ret ws rm mc ms n) (hp : PreV s H C b Pc As)
    (hg : g.method = m) (hn : As.length = n) (hsize : g.locals.size = nL) (hstack : g.stack = As.reverse ++ .ref b :: rest) (hW : 2 * g.monitorRoom + (rest.map fun v => v.category).sum ≤ 8) (hdg : decode cc g.pc = .ok (.invokevirtual index, 3)) (hf : cells + mc ≤ R.cells ∧ slots + ms ≤ R.slots) :
    tx_Run p l e R s m args below meth c H locs cells slots mc ms g rest (Qx (Value.ref b :: As).toArray) := by
  obtain ⟨⟨hrc, hrs, hfr, hlo, hws, hcw, hcode, hini, hy, hlen, hl⟩, hin, hse⟩ := cw
  have hK : tx_Back l R p e below s args y 3 8 (PreOf R mc ms Pc) (tx_Post Qx mc ms) := tx_back (bytes := bytes) (maxL := maxL) (ret := ret) hM hp.1 hrc hrs hfr hlo hws hcw (fun a' U hW => word_at hW (Or.inl (by first | rfl | simp [Cond.onTables, Cond.keeps, Cond.steady])) hini)
  obtain ⟨hx, hb, hml, ho, -⟩ := S
  obtain ⟨-, ⟨cellB, hcB, hoB, hclB⟩, hPc⟩ := hp
  intro T hT X
  obtain ⟨mk, methM, hnamed, hmethM, hstM, habM⟩ := Cond.instanceMethod_spec hin
  obtain ⟨methM', cM, hmethM', -, -, -, -, -, -, hsigM⟩ := Cond.code_spec hnamed hcode
  cases hmethM.symm.trans hmethM'
  obtain ⟨c2, r2, m2, q1, q2, q3, q4, kP, hkP, hkPi⟩ := Cond.selects_spec hse
  cases hclB.symm.trans q1
  cases (State.methodFound?_of_named hnamed hy).symm.trans q2
  cases hnamed.symm.trans q3
  have hselP : selectMethod e.platform s.vm cellB.cls mk = .method mk := by rw [Launch.admits_selectMethod X.admits]; exact q4
  have hdg' : decode c.code g.pc = .ok (.invokevirtual index, 3) := by rw [hb]; exact hdg
  obtain ⟨vm₁, X₁, hstep₁⟩ := X.invokevirtual hx ho hl hnamed hmethM hstM hkP hkPi hy (a := b) (cell := cellB) (by rw [hT]; exact hcB)
    (fun z h => by rw [h] at hoB; cases hoB) hselP hmethM habM hkP hkPi (g := g) hg (argsL := As) (rest := rest) (hn.trans (hlen _ hsigM)) hstack hdg'
  obtain ⟨x, ⟨U', l2, c3, s2⟩, X', ⟨g', mk', t, e1, e2, hq, h1, h2, h3⟩, hsteps⟩ := hK m meth c ⟨T.setVm vm₁, locs, cells, slots⟩ { g with stack := rest } (.invokevirtual index) mk (Value.ref b :: As).toArray X₁ hg (hsize.trans hml.symm) hdg' hW (X₁.named hnamed) ⟨hf.1, hf.2, hPc (T.setVm vm₁) hT X₁.warmed⟩
  dsimp only [Pt.U, Pt.locs, Pt.cells, Pt.slots] at X' e1 e2 h1 h2 h3 hsteps
  subst h1; subst h2; subst h3
  exact ⟨x, (T.setVm vm₁).calling g' mk' (Value.ref b :: As).toArray, t, U', hT, X', e1, e2, hq, fun target h => hstep₁ _ fun acts => by rw [doInvoke_state]; exact hsteps.trans h⟩
theorem tx_runS (S : CallFix p m c cc nL s args Ts own) (hM : MetX l y ws rm Pc Qx mc ms) (cw : CallB R s args own index y bytes maxL ret ws rm mc ms n ∧ (Cond.static y).before args s = true) (hp : PreS s H Pc As)
    (hg : g.method = m) (hn : As.length = n) (hsize : g.locals.size = nL) (hstack : g.stack = As.reverse ++ rest) (hW : 2 * g.monitorRoom + (rest.map fun v => v.category).sum ≤ 8) (hdg : decode cc g.pc = .ok (.invokestatic index, 3)) (hf : cells + mc ≤ R.cells ∧ slots + ms ≤ R.slots) :
    tx_Run p l e R s m args below meth c H locs cells slots mc ms g rest (Qx As.toArray) := by
  obtain ⟨⟨hrc, hrs, hfr, hlo, hws, hcw, hcode, hini, hy, hlen, hl⟩, hstat⟩ := cw
  have hK : tx_Back l R p e below s args y 3 8 (PreOf R mc ms Pc) (tx_Post Qx mc ms) := tx_back (bytes := bytes) (maxL := maxL) (ret := ret) hM hp.1 hrc hrs hfr hlo hws hcw (fun a' U hW => word_at hW (Or.inl (by first | rfl | simp [Cond.onTables, Cond.keeps, Cond.steady])) hini)
  obtain ⟨hx, hb, hml, ho, -⟩ := S
  intro T hT X
  obtain ⟨mk, hnamed⟩ := Cond.code_named hcode
  obtain ⟨methM, cM, hmethM, -, -, -, -, -, -, hsigM⟩ := Cond.code_spec hnamed hcode
  have hstatic : methM.isStatic = true := Cond.static_spec hnamed hmethM hstat
  obtain ⟨kP, hkP, -⟩ := className_of_methodNamed hnamed
  have hinitP : kP.init = .initialized := Cond.initialized_spec (findClass_of_methodNamed hnamed) hkP hini
  have hdg' : decode c.code g.pc = .ok (.invokestatic index, 3) := by rw [hb]; exact hdg
  obtain ⟨vm₁, X₁, hstep₁⟩ := X.invokestatic hx ho hl hnamed hmethM hstatic hkP hinitP hy (g := g) hg (argsL := As) (rest := rest) (hn.trans (hlen _ hsigM)) hstack hdg'
  obtain ⟨x, ⟨U', l2, c3, s2⟩, X', ⟨g', mk', t, e1, e2, hq, h1, h2, h3⟩, hsteps⟩ := hK m meth c ⟨T.setVm vm₁, locs, cells, slots⟩ { g with stack := rest } (.invokestatic index) mk As.toArray X₁ hg (hsize.trans hml.symm) hdg' hW (X₁.named hnamed) ⟨hf.1, hf.2, hp.2 (T.setVm vm₁) hT X₁.warmed⟩
  dsimp only [Pt.U, Pt.locs, Pt.cells, Pt.slots] at X' e1 e2 h1 h2 h3 hsteps
  subst h1; subst h2; subst h3
  exact ⟨x, (T.setVm vm₁).calling g' mk' As.toArray, t, U', hT, X', e1, e2, hq, fun target h => hstep₁ _ fun acts => by rw [doInvoke_state]; exact hsteps.trans h⟩
/-- nobody catches it here: the method itself throws. Nothing was made or written before -/
theorem tx_out {pc : Nat} {ls : Array Slot} {st0 : List Value} (hr : tx_Run p l e R s m args below meth c s.heap [] 0 0 mc ms (F0 m pc ls st0) rest (tx_Qx C a)) (htab : c.exceptionTable.toList = []) (hlocks : meth.locks = false) :
    W p l e R s m args below meth c s.heap [] 0 0 (MQX below (tx_Qx C) args s mc ms) (F0 m pc ls st0) := by
  intro T hT X
  obtain ⟨x, st₀, t, T', h0, X', e1, e2, ⟨⟨ce, hce, hvm, hcl⟩, hx, hz, hk⟩, st⟩ := hr T hT X
  obtain ⟨s1, s2, s3, s4, s5⟩ := X'.leaveThrown x (g := F0 m pc ls rest) rfl rfl rfl (fun z h => by rw [htab] at h; cases h) hlocks
  rw [h0] at hx hz hk
  refine ⟨_, st _ s1, x, s2, s3, ⟨⟨ce, ?_, hvm, ?_⟩, hx, ?_, fun q hq => ?_⟩, s4, by simpa using s5⟩
  · show T'.heap[x]? = some ce
    rw [e1]; exact hce
  · show T'.vm.findClass C = some ce.cls
    rw [e2]; exact hcl
  · show s.heap.size ≤ T'.heap.size
    rw [e1]; exact hz
  · show T'.heap[q]? = s.heap[q]?
    rw [e1]; exact hk q hq
end TXC

section TXD
/-- a handler row that the thrown class passes by: its class is linked or can be, and the thrown class isn't under it -/
theorem tx_goNo {Q : Handler → Pre} {E : CtlPost} {e : Env} {d : Bool} {acts : List Action} {s : State} {f : JFrame} {a : Addr} {x : ExceptionTableEntry} {t : List ExceptionTableEntry} {cT : ClassId} {cell : Cell} (hx : covers x f.pc = true) (h0 : x.catchType ≠ 0)
    (hl : s.vm.ClassLinks e.platform f.method.cls x.catchType cT) (hcell : s.heap[a]? = some cell) (hobj : ∀ k, cell.vm ≠ .statics k)
    (hk : ∃ k, s.vm.classes[cell.cls]? = some k) (hc : ∃ k, s.vm.classes[cT]? = some k) (hno : s.vm.assignable cell.cls cT = false) :
    Sem.wp (findHandler.go f a (x :: t)) Q E e d acts s ↔ Sem.wp (findHandler.go f a t) Q E e d acts (s.setVm (s.vm.noted f.method.cls x.catchType (.cls cT))) := by
  simp only [covers] at hx
  obtain ⟨ha, ht⟩ := (resolveClass_links e.toSetting hl).op (op := VmOp.resolveClass f.method.cls x.catchType) rfl
  have hal : s.vm.Alike (s.vm.noted f.method.cls x.catchType (.cls cT)) := (Vm.Alike.refl s.vm).noted _ _ _
  obtain ⟨k1, hk1⟩ := hk
  obtain ⟨k2, hk2⟩ := hc
  obtain ⟨k1', hk1', -⟩ := hal.2.2 _ _ hk1
  obtain ⟨k2', hk2', -⟩ := hal.2.2 _ _ hk2
  have hno' : (s.vm.noted f.method.cls x.catchType (.cls cT)).assignable cell.cls cT = false := by rw [hal.assignable]; exact hno
  simp [findHandler.go, hx, h0, ha, ht, hcell, hobj, hk1', hk2', hno', VmOp.dirties, VmOp.acts]
/-- .. and one that takes it -/
theorem tx_goYes {Q : Handler → Pre} {E : CtlPost} {e : Env} {d : Bool} {acts : List Action} {s : State} {f : JFrame} {a : Addr} {x : ExceptionTableEntry} {t : List ExceptionTableEntry} {cT : ClassId} {cell : Cell} (hx : covers x f.pc = true) (h0 : x.catchType ≠ 0)
    (hl : s.vm.ClassLinks e.platform f.method.cls x.catchType cT) (hcell : s.heap[a]? = some cell) (hobj : ∀ k, cell.vm ≠ .statics k)
    (hk : ∃ k, s.vm.classes[cell.cls]? = some k) (hc : ∃ k, s.vm.classes[cT]? = some k) (hyes : s.vm.assignable cell.cls cT = true) :
    Sem.wp (findHandler.go f a (x :: t)) Q E e d acts s ↔ Q (.found x.handlerPc) d acts (s.setVm (s.vm.noted f.method.cls x.catchType (.cls cT))) := by
  simp only [covers] at hx
  obtain ⟨ha, ht⟩ := (resolveClass_links e.toSetting hl).op (op := VmOp.resolveClass f.method.cls x.catchType) rfl
  have hal : s.vm.Alike (s.vm.noted f.method.cls x.catchType (.cls cT)) := (Vm.Alike.refl s.vm).noted _ _ _
  obtain ⟨k1, hk1⟩ := hk
  obtain ⟨k2, hk2⟩ := hc
  obtain ⟨k1', hk1', -⟩ := hal.2.2 _ _ hk1
  obtain ⟨k2', hk2', -⟩ := hal.2.2 _ _ hk2
  have hyes' : (s.vm.noted f.method.cls x.catchType (.cls cT)).assignable cell.cls cT = true := by rw [hal.assignable]; exact hyes
  simp [findHandler.go, hx, h0, ha, ht, hcell, hobj, hk1', hk2', hyes', VmOp.dirties, VmOp.acts]
/-- one step of the search that turns the tables too -/
theorem tx_stepCatch {e : Env} {s : State} {a : Addr} {f : JFrame} {r : List Frame} {pc : Nat} {vm' : Vm} (hfind : ∀ (Q : Handler → Pre) (E : CtlPost) (d : Bool) (acts : List Action), Sem.wp (findHandler f a) Q E e d acts s ↔ Q (.found pc) d acts (s.setVm vm')) :
    (stepThrowing e s a (.java f :: r)).Is ((s.setVm vm').setFrames (.java { f with pc := pc, stack := [.ref a] } :: r)) [] := by
  simp only [stepThrowing, searchFrame, vmDo]
  generalize hr : Sem.go _ e false [] s = res
  obtain ⟨as, rfl, ha⟩ := Sem.eq_ok_of hr (a := Handler.found pc) (s' := s.setVm vm') (acts' := []) (by simp [hfind _ _ _ _])
  exact ⟨rfl, ha⟩
theorem tx_steps {tb : Tables} {e : Env} {s target : State} {g : JFrame} {c : Code} {below : List Frame} {a : Addr} (h : At s g.method c below) {pc : Nat} {vm' : Vm}
    (hfind : ∀ (Q : Handler → Pre) (E : CtlPost) (d : Bool) (acts : List Action), Sem.wp (findHandler g a) Q E e d acts ((s.setTop g).pushFrame (.throwing a)) ↔ Q (.found pc) d acts (((s.setTop g).pushFrame (.throwing a)).setVm vm'))
    (hrest : Steps tb e below ((s.setVm vm').setTop { g with pc := pc, stack := [.ref a] }) target) :
    Steps tb e below ((s.setTop g).pushFrame (.throwing a)) target := by
  obtain ⟨hgo, hw⟩ := h.throwing a
  refine Steps.head hgo hw ?_
  rw [stepThread_throwing (frames_entered h.top _), (tx_stepCatch (s := (s.setTop g).pushFrame (.throwing a)) hfind).1]
  obtain ⟨g₀, hg⟩ := Option.isSome_iff_exists.mp h.top
  obtain ⟨r, hr⟩ := State.topJava?_eq_some.mp hg
  have hr' : (s.setVm vm').frames = .java g₀ :: r := hr
  rw [State.setTop_of_frames _ hr'] at hrest
  rw [State.pushFrame, State.setTop_of_frames _ hr, State.setFrames_setFrames]
  show Steps tb e below (((s.setVm vm').setFrames _).setFrames _) target
  rw [State.setFrames_setFrames, hr]
  exact hrest
/-- the search through rows that are passed, to the one that catches: each row with the name of its class -/
theorem tx_go {args : Array Value} {e : Env} {s₀ : State} {f : JFrame} {a : Addr} {cell : Cell} {own C : String} (hpl : e.platform.magicAccessors = ({} : Platform).magicAccessors) (hown : s₀.vm.findClass own = some f.method.cls)
    (hobj : ∀ k, cell.vm ≠ .statics k) (hC : s₀.vm.findClass C = some cell.cls) (x : ExceptionTableEntry) (nm : String) (rest : List ExceptionTableEntry) (hx : covers x f.pc = true) (h0 : x.catchType ≠ 0)
    (hlink : (Cond.classLink own x.catchType nm).before args s₀ = true) (hcast : (Cond.castable C nm).before args s₀ = true) :
    ∀ (pre : List (ExceptionTableEntry × String)) (S : State), s₀.WarmedH S.vm → S.heap[a]? = some cell →
      (∀ z ∈ pre, covers z.1 f.pc = true ∧ z.1.catchType ≠ 0 ∧ (Cond.classLink own z.1.catchType z.2).before args s₀ = true ∧ va_Nc C z.2 s₀) →
      ∃ vm', s₀.WarmedH vm' ∧ ∀ (Q : Handler → Pre) (E : CtlPost) (d : Bool) (acts : List Action), Sem.wp (findHandler.go f a (pre.map (·.1) ++ x :: rest)) Q E e d acts S ↔ Q (.found x.handlerPc) d acts (S.setVm vm') := by
  obtain ⟨k0, hk0⟩ := Vm.classAt_of_findClass hC
  intro pre
  induction pre with
  | nil =>
    intro S hW hcell _
    obtain ⟨c3, cT, hc3, hcT, hasg⟩ := Cond.castable_spec hcast
    cases Option.some.inj (hc3.symm.trans hC)
    obtain ⟨c5, hc5, hl⟩ := Cond.classLink_spec hown hlink e.platform hpl
    cases Option.some.inj (hcT.symm.trans hc5)
    obtain ⟨k0', hk0', -⟩ := hW.alike.2.2 _ _ hk0
    obtain ⟨kT, hkT⟩ := Vm.classAt_of_findClass hcT
    obtain ⟨kT', hkT', -⟩ := hW.alike.2.2 _ _ hkT
    obtain ⟨-, hW', -⟩ := State.classEntry (e := e) hW hl
    exact ⟨_, hW', fun Q E d acts => by
      rw [List.map_nil, List.nil_append]
      exact tx_goYes hx h0 (hW.classLinks hl) hcell hobj ⟨k0', hk0'⟩ ⟨kT', hkT'⟩ (by rw [hW.alike.assignable]; exact hasg)⟩
  | cons z zs ih =>
    intro S hW hcell hpass
    obtain ⟨hz, hz0, hzl, c3, cT, hc3, hcT, hno⟩ := hpass z List.mem_cons_self
    cases Option.some.inj (hc3.symm.trans hC)
    obtain ⟨c5, hc5, hl⟩ := Cond.classLink_spec hown hzl e.platform hpl
    cases Option.some.inj (hcT.symm.trans hc5)
    obtain ⟨k0', hk0', -⟩ := hW.alike.2.2 _ _ hk0
    obtain ⟨kT, hkT⟩ := Vm.classAt_of_findClass hcT
    obtain ⟨kT', hkT', -⟩ := hW.alike.2.2 _ _ hkT
    obtain ⟨-, hW', -⟩ := State.classEntry (e := e) hW hl
    obtain ⟨vm', hW'', hq⟩ := ih (S.setVm (S.vm.noted f.method.cls z.1.catchType (.cls cT))) hW' hcell (fun w hw => hpass w (List.mem_cons_of_mem _ hw))
    exact ⟨vm', hW'', fun Q E d acts => by
      rw [List.map_cons, List.cons_append, tx_goNo hz hz0 (hW.classLinks hl) hcell hobj ⟨k0', hk0'⟩ ⟨kT', hkT'⟩ (by rw [hW.alike.assignable]; exact hno)]
      exact hq Q E d acts⟩
end TXD

section TXE
variable {p : Program} {l : Launch} {e : Env} {R : Room} {s : State} {m : MethodId} {args : Array Value} {below : List Frame} {meth : Method} {c : Code} {H : Heap} {locs : List Loc} {cells slots : Nat} {Q : State → Prop}
  {mc ms : Nat} {own C : String} {rest : List Value} {a : Array Value}
/-- thrown by a callee, taken by a handler of this method behind rows that are passed -/
theorem tx_caught {pc : Nat} {ls : Array Slot} {st0 : List Value} (hr : tx_Run p l e R s m args below meth c H locs cells slots mc ms (F0 m pc ls st0) rest (tx_Qx C a)) (hown : s.vm.findClass own = some m.cls)
    (pre : List (ExceptionTableEntry × String)) (x : ExceptionTableEntry) (nm : String) (suf : List ExceptionTableEntry) (htab : c.exceptionTable.toList = pre.map (·.1) ++ x :: suf)
    (hpass : ∀ z ∈ pre, covers z.1 pc = true ∧ z.1.catchType ≠ 0 ∧ (Cond.classLink own z.1.catchType z.2).before args s = true ∧ va_Nc C z.2 s) (hx : covers x pc = true) (h0 : x.catchType ≠ 0)
    (hlink : (Cond.classLink own x.catchType nm).before args s = true) (hcast : (Cond.castable C nm).before args s = true)
    (kk : ∀ (q : Nat) (H1 : Heap), H.size ≤ H1.size → (∀ z : Nat, z < H.size → H1[z]? = H[z]?) → W p l e R s m args below meth c H1 locs (cells + mc) (slots + ms) Q (F0 m x.handlerPc ls [.ref q])) :
    W p l e R s m args below meth c H locs cells slots Q (F0 m pc ls st0) := by
  intro T hT X
  obtain ⟨q, st₀, t, T', h1, X', e1, e2, ⟨⟨ce, hce, hvm, hcl⟩, hq, hz, hk⟩, st⟩ := hr T hT X
  rw [h1] at hz hk
  have hpl : e.platform.magicAccessors = ({} : Platform).magicAccessors := by rw [X.admits.platform]
  have hcl' : s.vm.findClass C = some ce.cls := by
    rw [← X'.warmed.alike.findClass, e2]; exact hcl
  obtain ⟨vm', hW', hgo⟩ := tx_go (args := args) (e := e) (s₀ := s) (f := F0 m pc ls rest) (a := q) (cell := ce) hpl hown (fun k h => by rw [hvm] at h; cases h) hcl' x nm suf hx h0 hlink hcast pre ((T'.setTop (F0 m pc ls rest)).pushFrame (.throwing q))
    (by rw [Stand.throwing_vm]; exact X'.warmed) (by rw [Stand.throwing_heap, e1]; exact hce) hpass
  have X2 := X'.noted hW'
  obtain ⟨t2, a1, b1⟩ := kk q T'.heap (by rw [e1]; exact hz) (fun z h => by rw [e1]; exact hk z h) (T'.setVm vm') rfl X2
  refine ⟨t2, st _ (tx_steps (g := F0 m pc ls rest) X'.here (vm' := vm') (pc := x.handlerPc) (fun Q E d acts => ?_) a1), b1⟩
  rw [Jvm.W.findHandler_eq (meth := meth) (code := c) (by rw [Stand.throwing_vm]; exact X'.method') X.code, htab]
  exact hgo Q E d acts
end TXE

section TXF
/-- a word of a throw that is carried from state to state: by the tables alone, or by the cells of statics, which stay -/
def tx_okw (L : List Cond) : Cond → Bool
  | .declares _ => true
  | .castable .. => true
  | .laysStatic .. => true
  | .isRef (.static O f d) => L.contains (.laysStatic O f d)
  | w => w.onTables && w.keeps
theorem tx_isRef {s U : State} {A : Array Value} {O f d : String} (hW : s.WarmedH U.vm) (hh : ∀ (a : Addr) (cell : Cell), s.heap[a]? = some cell → cell.vm.isStatics = true → U.heap[a]? = some cell)
    (hl : (Cond.laysStatic O f d).before #[] s = true) (h : (Cond.isRef (.static O f d)).before #[] s = true) : (Cond.isRef (.static O f d)).before A U = true := by
  obtain ⟨c, k, i, fd, a, cell, h1, h2, h3, h4, h5, h6, h7, h8, h9⟩ := Cond.laysStatic_spec hl
  obtain ⟨u, hu⟩ := Cond.staticRefV h2 h3 h4 h5 h6 h
  obtain ⟨k', hi', he⟩ := State.fieldFound?_setVm hW.alike h2
  have hi'' : U.fieldFound? O f d = some (c, k', i, fd) := hi'
  have h4' : k'.statics = some a := by rw [he]; exact h4
  have he' : (Term.static O f d).eval A U none [] U = some u.v := by
    simp [Term.eval, State.fieldNamed?, hi'', h3, h4', hh a cell h5 h6, h6, hu]
  simp only [Cond.before, Cond.holds, Cond.value, he']
  obtain ⟨v, hv⟩ := u
  clear he' hu hi'' hi' he h4' h9 h8 h7 h6 h5 h4 h3 h2 h1 h hl hh hW
  cases v <;> simp [Value.isRef] at hv ⊢
theorem tx_word {s U : State} {A : Array Value} {L : List Cond} (hW : s.WarmedH U.vm) (hh : ∀ (a : Addr) (cell : Cell), s.heap[a]? = some cell → cell.vm.isStatics = true → U.heap[a]? = some cell)
    (hL : ∀ w ∈ L, w.before #[] s = true) {w : Cond} (hin : w ∈ L) (hw : tx_okw L w = true) : w.before A U = true := by
  have h := hL w hin
  by_cases hg : (w.onTables && w.keeps) = true
  · exact word_at hW (Or.inl hg) h
  · cases w with
    | declares x => exact va_Nw.use rfl (va_Nw.warmD hW h)
    | castable C T => exact va_Nw.use rfl (va_Nw.warmC hW h)
    | laysStatic O f d =>
      obtain ⟨c, k, i, fd, a, cell, h1, h2, h3, h4, h5, h6, h7, h8, h9⟩ := Cond.laysStatic_spec h
      obtain ⟨k', hi', he⟩ := State.fieldFound?_setVm hW.alike h2
      have hi'' : U.fieldFound? O f d = some (c, k', i, fd) := hi'
      show (Cond.laysStatic O f d).holds A U none U [] = true
      exact Cond.laysStatic_of (by rw [hW.alike.findClass]; exact h1) hi'' h3 (by rw [he]; exact h4) (hh a cell h5 h6) h6 h7 h8 (by rw [he]; exact h9)
    | isRef t =>
      cases t with
      | static O f d =>
        have hm : Cond.laysStatic O f d ∈ L := by
          have : L.contains (.laysStatic O f d) = true := hw
          simpa using this
        exact tx_isRef hW hh (hL _ hm) h
      | _ => exact absurd hw hg
    | _ => exact absurd hw hg
/-- all that 'throw new C("..")' in the class own wants of tables and statics -/
def tx_Ow (own : String) (ic : Nat) (C : String) (names : List String) (U : State) : Prop :=
  (Bundle.ownAtoms own ic C names).all (tx_okw (Bundle.ownAtoms own ic C names)) = true ∧ ∀ w ∈ Bundle.ownAtoms own ic C names, w.before #[] U = true
theorem tx_Ow.moved {own C : String} {ic : Nat} {names : List String} {s U : State} (hW : s.WarmedH U.vm) (hh : ∀ (a : Addr) (cell : Cell), s.heap[a]? = some cell → cell.vm.isStatics = true → U.heap[a]? = some cell) (h : tx_Ow own ic C names s) : tx_Ow own ic C names U :=
  ⟨h.1, fun w hw => tx_word hW hh h.2 hw (List.all_eq_true.mp h.1 w hw)⟩
theorem tx_Ow.use {own C : String} {ic : Nat} {names : List String} {s : State} {A : Array Value} (h : tx_Ow own ic C names s) : ∀ w ∈ Bundle.ownAtoms own ic C names, w.before A s = true :=
  fun w hw => tx_word (State.WarmedH.refl s) (fun _ _ h _ => h) h.2 hw (List.all_eq_true.mp h.1 w hw)
variable {p : Program} {l : Launch} {e : Env} {R : Room} {s : State} {m : MethodId} {args : Array Value} {below : List Frame} {meth : Method} {c : Code}
/-- throw new C("tx"), as the first thing that the method makes -/
theorem tx_throw {cc : ByteArray} (hexec : p.tables.exec = Jvm.exec) (hb : c.code = cc) (htr : l.stackTraces = false) {own C tx : String} {names : List String} {i1 i2 ic q : Nat} (hown : s.vm.findClass own = some m.cls) (hfit : Bundle.fit C = true) (hnames : ∀ n ∈ names, Bundle.fit n = true)
    (hat : tx_Ow own ic C names s) (hcl : (Cond.classLink own i1 C).before args s = true) (hini : (Cond.initialized C).before args s = true) (hZ : vk_R own i2 tx q s) {pc : Nat} {ls : Array Slot} (hml : ls.size = c.maxLocals)
    (d0 : decode cc pc = .ok (.new i1, 3)) (d1 : decode cc (pc + 3) = .ok (.dup, 1)) (d2 : decode cc (pc + 4) = .ok (.ldc i2, 2)) (d3 : decode cc (pc + 6) = .ok (.invokespecial ic, 3)) (d4 : decode cc (pc + 9) = .ok (.athrow, 1))
    (htab : c.exceptionTable.toList = []) (hRf : names.length + 3 < R.frames) (hRl : 13 * (names.length + 1) + 43 ≤ R.locals) (hRc : 1 ≤ R.cells) (hRs : 6 ≤ R.slots) (hlocks : meth.locks = false) :
    W p l e R s m args below meth c s.heap [] 0 0 (MQX below (tx_Qx C) args s 1 6) (F0 m pc ls []) := by
  intro T hT X
  have htr' : e.platform.stackTraces = false := (show e.platform.stackTraces = l.stackTraces by rw [X.admits.platform]).trans htr
  obtain ⟨vm₁, cX, kX, hfX, hkX, -, -, X₁, st1⟩ := X.newCold hexec (own := own) (C := C) (index := i1) (n := 6) hown hcl (hat.use (.instantiable C 6) (by simp [Bundle.ownAtoms])) hini (g := F0 m pc ls []) rfl (by rw [hb]; exact d0) (by omega) (by omega)
  generalize hT1 : (T.setVm vm₁).pushCell { cls := cX, slots := kX.instanceTypes.map defaultValue, vm := .none } = T1 at X₁ st1
  have hcellA : T1.heap[T.heap.size]? = some (freshCell cX kX) := by rw [← hT1]; exact State.heap_pushCell_size _ _
  have d1' : decode c.code (pc + 3) = .ok (.dup, 1) := by rw [hb]; exact d1
  have d2' : decode c.code (pc + 4) = .ok (.ldc i2, 2) := by rw [hb]; exact d2
  have hcat : (Value.ref T.heap.size).category = 1 := rfl
  obtain ⟨U, hsteps, hrun, hend, hW, hsame, ce, hce, K⟩ := X₁.ctorThrowS hexec htr' (own := own) (cls := C) (names := names) (ic := ic) hown hfit hnames hat.use (fun z h => by cases h) hfX hkX hcellA (by rw [hT]; exact Nat.le_refl _) (msg := .ref q) rfl
    (g := F0 m (pc + 6) ls [.ref q, .ref T.heap.size, .ref T.heap.size]) rfl hml rfl rfl (rest := []) rfl (by rw [hb]; exact d3) (by rw [hb]; exact d4) (fun z h => by rw [htab] at h; cases h) hRf
    (by show 2 * 0 + (([Value.ref T.heap.size] : List Value).map fun v => v.category).sum + _ ≤ _; simp only [List.map_cons, List.map_nil, List.sum_cons, List.sum_nil, hcat]; omega) hlocks
  have hsz : s.heap.size ≤ T.heap.size := by rw [hT]; exact Nat.le_refl _
  have hsame' : s.sameButNew ({ U with vm := s.vm } : State) [] 1 6 := by simpa using hsame
  refine ⟨U, ?_, T.heap.size, hrun, hend, ⟨⟨ce, hce, K.vm, ?_⟩, hsz, hsame'.2.1, fun z hz => ?_⟩, hW, hsame'⟩
  · refine st1 _ ?_
    show Steps p.tables e below (T1.setTop (F0 m (pc + 3) ls [.ref T.heap.size])) U
    jvm_step X₁.here [X₁.here.top, hexec, d1', Value.category]
    exact X₁.ldcString hexec (own := own) (text := tx) (index := i2) (a := q) hown hZ.1 hZ.2 (g := F0 m (pc + 4) ls [.ref T.heap.size, .ref T.heap.size]) rfl d2' _ hsteps
  · rw [hW.alike.findClass]; exact K.cls
  · have h1 : s.heap[z]? = some s.heap[z] := Array.getElem?_eq_getElem hz
    rw [h1]
    exact hsame'.old_cell h1
end TXF

section TXG
variable {p : Program} {l : Launch} {e : Env} {R : Room} {s : State} {m : MethodId} {args : Array Value} {below : List Frame} {meth : Method} {c : Code} {H : Heap} {locs : List Loc} {cells slots : Nat}
  {Ts ws ws' : List Cond} {cc bytes : ByteArray} {nL maxL index n mc ms : Nat} {own : String} {y : MethodName} {ret : Option FieldType} {hh : List (Nat × Nat × Nat × Nat)} {rm : Room} {Pc : Array Value → State → Prop} {Qc : Array Value → State → Outcome → State → Prop} {free : Addr → Prop}
  {As rest : List Value} {g : JFrame}
/-- what a static call of a method with handlers wants -/
def tx_CW (R : Room) (s : State) (args : Array Value) (own : String) (index : Nat) (y : MethodName) (bytes : ByteArray) (maxL : Nat) (ret : Option FieldType) (hh : List (Nat × Nat × Nat × Nat)) (ws : List Cond) (rm : Room) (mc ms n : Nat) : Prop :=
  (rm.cells = mc ∧ rm.slots = ms ∧ rm.frames + 1 ≤ R.frames ∧ 8 + (maxL + 11) + rm.locals ≤ R.locals ∧ (∀ w ∈ ws, ∀ (a' : Array Value) (U : State), s.WarmedH U.vm → w.before a' U = true) ∧ Cond.codeWith y bytes maxL ret hh ∈ ws) ∧
  (Cond.codeWith y bytes maxL ret hh).before args s = true ∧ (Cond.initialized y.cls).before args s = true ∧ (y.cls ≠ "java/lang/invoke/MethodHandle" ∧ y.cls ≠ "java/lang/invoke/VarHandle") ∧ (∀ sig, parseMethodDescriptor y.desc = some sig → n = sig.parameters.length) ∧ (Cond.methodLink own index y).before args s = true ∧ (Cond.static y).before args s = true
theorem tx_cw (n : Nat) (ht : ∀ w ∈ Ts, w.before args s = true) (hG : GoodIn Ts ws) (hw : ws = Cond.codeWith y bytes maxL ret hh :: ws') (hrc : rm.cells = mc) (hrs : rm.slots = ms) (hini : (Cond.initialized y.cls).before args s = true) (hl : (Cond.methodLink own index y).before args s = true) (hst : (Cond.static y).before args s = true)
    (hd : y.cls ≠ "java/lang/invoke/MethodHandle" ∧ y.cls ≠ "java/lang/invoke/VarHandle" ∧ (parseMethodDescriptor y.desc).map (fun d => d.parameters.length) = some n) (hR : rm.frames + 1 ≤ R.frames ∧ 8 + (maxL + 11) + rm.locals ≤ R.locals) :
    tx_CW R s args own index y bytes maxL ret hh ws rm mc ms n := by
  have hc : Cond.codeWith y bytes maxL ret hh ∈ ws := by rw [hw]; exact List.mem_cons_self
  refine ⟨⟨hrc, hrs, hR.1, hR.2, pay_in ht hG, hc⟩, ht _ (hG _ hc).1, hini, ⟨hd.1, hd.2.1⟩, fun sig h => ?_, hl, hst⟩
  have h2 := hd.2.2
  rw [h] at h2
  exact (Option.some.inj h2).symm
theorem tx_runW (S : CallFix p m c cc nL s args Ts own) (hM : Met l y ws rm Pc Qc mc ms free) (cw : tx_CW R s args own index y bytes maxL ret hh ws rm mc ms n) (hp : PreS s H Pc As)
    (hg : g.method = m) (hn : As.length = n) (hsize : g.locals.size = nL) (hstack : g.stack = As.reverse ++ rest) (hW : 2 * g.monitorRoom + (rest.map fun v => v.category).sum ≤ 8) (hdg : decode cc g.pc = .ok (.invokestatic index, 3)) (hf : cells + mc ≤ R.cells ∧ slots + ms ≤ R.slots) :
    va_Run p l e R s m args below meth c H locs cells slots mc ms g rest (Qc As.toArray) (free) := by
  obtain ⟨⟨hrc, hrs, hfr, hlo, hws, hcw⟩, hcode, hini, hy, hlen, hl, hstat⟩ := cw
  have hK : Back l R p e below s args y 3 8 (PreOf R mc ms Pc) (PostOf Qc mc ms free) := va_backW (hh := hh) (bytes := bytes) (maxL := maxL) (ret := ret) hM hp.1 hrc hrs hfr hlo hws hcw (fun a' U hW => word_at hW (Or.inl (by first | rfl | simp [Cond.onTables, Cond.keeps, Cond.steady])) hini)
  obtain ⟨hx, hb, hml, ho, -⟩ := S
  intro T hT X
  obtain ⟨mk, methM, cM, hnamed, hmethM, -, -, -, -, -, -, hsigM⟩ := Cond.codeWith_spec hcode
  have hstatic : methM.isStatic = true := Cond.static_spec hnamed hmethM hstat
  obtain ⟨kP, hkP, -⟩ := className_of_methodNamed hnamed
  have hinitP : kP.init = .initialized := Cond.initialized_spec (findClass_of_methodNamed hnamed) hkP hini
  have hdg' : decode c.code g.pc = .ok (.invokestatic index, 3) := by rw [hb]; exact hdg
  obtain ⟨vm₁, X₁, hstep₁⟩ := X.invokestatic hx ho hl hnamed hmethM hstatic hkP hinitP hy (g := g) hg (argsL := As) (rest := rest) (hn.trans (hlen _ hsigM)) hstack hdg'
  obtain ⟨v, ⟨U', l2, c2, s2⟩, X', ⟨g', mk', t, L, e1, e2, hq, h1, hL, h2, h3⟩, hsteps⟩ := hK m meth c ⟨T.setVm vm₁, locs, cells, slots⟩ { g with stack := rest } (.invokestatic index) mk As.toArray X₁ hg (hsize.trans hml.symm) hdg' hW (X₁.named hnamed) ⟨hf.1, hf.2, hp.2 (T.setVm vm₁) hT X₁.warmed⟩
  dsimp only [Pt.U, Pt.locs, Pt.cells, Pt.slots] at X' e1 e2 h1 h2 h3 hsteps
  subst h1; subst h2; subst h3
  exact ⟨v, (T.setVm vm₁).calling g' mk' As.toArray, t, U', L, hT, X', hL, e1, e2, hq, fun target h => hstep₁ _ fun acts => by rw [doInvoke_state]; exact hsteps.trans h⟩
end TXG
end
section
/-! Small rows of my own, for the walks that walk.py prints. -/
section TK
theorem tv_in {i : Int32} {n : Nat} (h : decide (¬ (i < 0 ∨ n ≤ i.toNatClampNeg)) = true) : vp_in i n := by
  have h1 : ¬ (i < 0 ∨ n ≤ i.toNatClampNeg) := of_decide_eq_true h
  exact h1
theorem tk_eq {D : va_G} {cl : List vw_C} {tys : List (ClassId × FieldType)} {s : State} (h : va_K D cl tys s) {i j : Nat} {c1 c2 : ClassId} {ty : FieldType} (hi : tys[i]? = some (c1, ty)) (hj : tys[j]? = some (c2, ty)) : c1 = c2 := by
  have h1 : va_RA s c1 ty := (h.2 i _ hi).2
  have h2 : va_RA s c2 ty := (h.2 j _ hj).2
  cases ty with
  | object C =>
    obtain ⟨_, _, _, _, _, e1⟩ := h1
    obtain ⟨_, _, _, _, _, e2⟩ := h2
    exact Option.some.inj (e1.symm.trans e2)
  | _ => exact Option.some.inj ((show s.vm.findClass _ = some c1 from h1).symm.trans (show s.vm.findClass _ = some c2 from h2))
theorem tk_prim {args : Array Value} {s : State} {ty : FieldType} (hp : ∀ C, ty ≠ .object C) (h : (Cond.arrayClass ty).before args s = true) : ∃ cA : ClassId, ArrOfT s cA ty ∧ va_RA s cA ty := by
  obtain ⟨c, k, comp, h1, h2, h3⟩ := Cond.arrayClass_spec h
  refine ⟨c, fun n z => ⟨(fun k h => by cases h), k, h2, comp, h3⟩, ?_⟩
  cases ty with
  | object C => exact absurd rfl (hp C)
  | _ => exact h1
theorem tk_obj {args : Array Value} {s : State} {C : String} (h : (Cond.arrayOver (.object C)).before args s = true) : ∃ cA : ClassId, ArrOfT s cA (.object C) ∧ va_RA s cA (.object C) := by
  obtain ⟨comp, c, k, h1, h2, h3, h4, h5⟩ := Cond.arrayOver_spec h
  exact ⟨c, fun n z => ⟨(fun k h => by cases h), k, h3, comp, h4⟩, k, comp, h3, h4, h1, h5⟩
theorem tk_bl {D : va_G} {cl : List vw_C} {ws : va_W} {tys : List (ClassId × FieldType)} {av : List Value} : FrameBlind (va_Pc av (fun U => va_P D cl ws U.heap ∧ va_K D cl tys U)) := fun a U g mk q => by
  obtain ⟨q0, qP, qK⟩ := q
  exact ⟨q0, qP, va_K.moved (u := U) (U := U.calling g mk a) (Vm.Alike.refl U.vm) qK⟩
theorem tk_blw {D : va_G} {cl : List vw_C} {ws : va_W} {tys : List (ClassId × FieldType)} {av : List Value} {sz : Nat} : FrameBlind (va_Pc av (fun U => U.heap.size = sz ∧ va_P D cl ws U.heap ∧ va_K D cl tys U ∧ va_D (fun _ => True) ws)) := fun a U g mk q => by
  obtain ⟨q0, q1, qP, qK, qD⟩ := q
  exact ⟨q0, q1, qP, va_K.moved (u := U) (U := U.calling g mk a) (Vm.Alike.refl U.vm) qK, qD⟩
variable {p : Program} {l : Launch} {e : Env} {R : Room} {s : State} {m : MethodId} {args : Array Value} {below : List Frame} {meth : Method} {c : Code} {H : Heap} {locs : List Loc} {cells slots mc ms : Nat}
theorem tk_run {g : JFrame} {rest : List Value} {Qa : State → Outcome → State → Prop} {free : Addr → Prop} (h : va_Run p l e R s m args below meth c H locs cells slots mc ms g rest Qa free) : CallRun p l e R s m args below meth c H locs cells slots mc ms g rest Qa free := by
  intro T hT X
  obtain ⟨v, st₀, t, T', L, h0, X', hL, e1, -, hq, st⟩ := h T hT X
  exact ⟨v, st₀, t, T', L, h0, X', hL, e1, hq, st⟩
theorem tk_P0 {D : va_G} {cl : List vw_C} {H : Heap} : va_P D cl [] H := fun k q h => by simp at h
theorem tk_D0 {A : Nat → Prop} : va_D A [] := ⟨fun i j p q h => by simp at h, fun k q h => by simp at h⟩
theorem tk_t (t : Int32) : t < 0 ∨ (¬ t < 0 ∧ ¬ t < 3 ∧ 2 < t) ∨ t = 0 ∨ t = 1 ∨ t = 2 := by
  simp only [Int32.lt_iff_toInt_lt, ← Int32.toInt_inj]
  have h0 : (0 : Int32).toInt = 0 := by decide
  have h1 : (1 : Int32).toInt = 1 := by decide
  have h2 : (2 : Int32).toInt = 2 := by decide
  have h3 : (3 : Int32).toInt = 3 := by decide
  rw [h0, h1, h2, h3]
  omega
theorem tk_k (t : Int32) : t < 0 ∨ (¬ t < 0 ∧ ¬ t < 64 ∧ 63 < t) ∨ ∃ j : Nat, j < 64 ∧ t = nI j := by
  by_cases h : t < 0
  · exact Or.inl h
  · obtain ⟨j, hj, rfl⟩ := nI_of h
    by_cases h2 : j < 64
    · exact Or.inr (Or.inr ⟨j, h2, rfl⟩)
    · exact Or.inr (Or.inl ⟨h, nI_nlt (b := 64) (by omega) hj, nI_lt (a := 63) (by omega) hj⟩)
theorem tk_n (n : Nat) (h0 : 0 < n) (hn : n < 2 ^ 31) (t : Int32) : t < 0 ∨ (¬ t < 0 ∧ ¬ t < nI n ∧ nI (n - 1) < t) ∨ ∃ j : Nat, j < n ∧ t = nI j := by
  by_cases h : t < 0
  · exact Or.inl h
  · obtain ⟨j, hj, rfl⟩ := nI_of h
    by_cases h2 : j < n
    · exact Or.inr (Or.inr ⟨j, h2, rfl⟩)
    · exact Or.inr (Or.inl ⟨h, nI_nlt (b := n) (by omega) hj, nI_lt (a := n - 1) (by omega) hj⟩)
theorem tk_w (b i : Nat) : (4 : Int32) * nI b + nI i = nI (4 * b + i) := by
  rw [show (4 : Int32) * nI b = nI (4 * b) from (Int32.ofNat_mul 4 b).symm, nI_add]
/-- the sixteen rests of a script's first number -/
theorem tk_and15 (x : Int32) : ∃ k : Nat, k < 16 ∧ x &&& 15 = nI k := by
  refine ⟨(x.toBitVec &&& 15#32).toNat, ?_, ?_⟩
  · rw [BitVec.toNat_and]
    exact Nat.lt_of_le_of_lt Nat.and_le_right (by decide)
  · apply Int32.toBitVec_inj.mp
    show x.toBitVec &&& (15 : Int32).toBitVec = (Int32.ofNat _).toBitVec
    rw [Int32.toBitVec_ofNat]
    simp
/-- a counting loop that writes nothing: Lv i the locals at the i-th turn -/
theorem tk_for {G : Array Slot → Prop} {nL : Nat} (Lv : Nat → List (Nat × Value)) (N : Nat) (hend : ∀ ls, lv_has ls nL (Lv N) → G ls)
    (hstep : ∀ i, i < N → ∀ ls, lv_has ls nL (Lv i) → (∀ ls', lv_has ls' nL (Lv (i + 1)) → G ls') → G ls) : ∀ ls, lv_has ls nL (Lv 0) → G ls := by
  have key : ∀ n i, i + n = N → ∀ ls, lv_has ls nL (Lv i) → G ls := by
    intro n
    induction n with
    | zero => intro i hi ls hl; obtain rfl : i = N := by omega
              exact hend ls hl
    | succ n ih => intro i hi ls hl; exact hstep i (by omega) ls hl (fun ls' hl' => ih (i + 1) (by omega) ls' hl')
  exact key N 0 (by omega)
/-- .. and one that writes: ws z the world, z what may change from turn to turn -/
theorem tk_forW {D : va_G} {cl : List vw_C} {A : Nat → Prop} {H0 : Heap} {nL : Nat} {G : Array Slot → Heap → List Loc → Prop} {σ : Type} (Lv : Nat → List (Nat × Value)) (ws : σ → va_W) (N : Nat)
    (hend : ∀ z ls H locs, lv_has ls nL (Lv N) → va_P D cl (ws z) H → va_D A (ws z) → va_S A H0 H locs → G ls H locs)
    (hstep : ∀ i, i < N → ∀ z ls H locs, lv_has ls nL (Lv i) → va_P D cl (ws z) H → va_D A (ws z) → va_S A H0 H locs →
      (∀ z' ls' H' locs', lv_has ls' nL (Lv (i + 1)) → va_P D cl (ws z') H' → va_D A (ws z') → va_S A H0 H' locs' → G ls' H' locs') → G ls H locs) :
    ∀ z ls H locs, lv_has ls nL (Lv 0) → va_P D cl (ws z) H → va_D A (ws z) → va_S A H0 H locs → G ls H locs := by
  have key : ∀ n i, i + n = N → ∀ z ls H locs, lv_has ls nL (Lv i) → va_P D cl (ws z) H → va_D A (ws z) → va_S A H0 H locs → G ls H locs := by
    intro n
    induction n with
    | zero => intro i hi z ls H locs hl hP hD hS; obtain rfl : i = N := by omega
              exact hend z ls H locs hl hP hD hS
    | succ n ih => intro i hi z ls H locs hl hP hD hS; exact hstep i (by omega) z ls H locs hl hP hD hS (fun z' ls' H' locs' h1 h2 h3 h4 => ih (i + 1) (by omega) z' ls' H' locs' h1 h2 h3 h4)
  exact key N 0 (by omega)
end TK
end
section
/-! Names of the program: code, methods, field tables, by program out of the claim; the good words of the tables; what else is carried from call to call. -/
abbrev cS_init : ByteArray := prog_1_method_1_code
def yS_init : MethodName := ⟨"LoggedStore", "<init>", "()V"⟩
abbrev cD_init : ByteArray := prog_2_method_1_code
def yD_init : MethodName := ⟨"LoggedStore$Disk", "<init>", "()V"⟩
abbrev cT_init : ByteArray := prog_3_method_1_code
def yT_init : MethodName := ⟨"LoggedStore$Table", "<init>", "()V"⟩
abbrev cR_init : ByteArray := prog_4_method_1_code
def yR_init : MethodName := ⟨"LoggedStore$Transaction", "<init>", "()V"⟩
abbrev cD_format : ByteArray := prog_2_method_2_code
def yD_format : MethodName := ⟨"LoggedStore$Disk", "format", "()V"⟩
abbrev cS_headerBlock : ByteArray := prog_1_method_32_code
def yS_headerBlock : MethodName := ⟨"LoggedStore", "headerBlock", "(I)I"⟩
abbrev cA_floorMod : ByteArray := prog_11_method_50_code
def yA_floorMod : MethodName := ⟨"java/lang/Math", "floorMod", "(II)I"⟩
abbrev cD_checkOf : ByteArray := prog_2_method_10_code
def yD_checkOf : MethodName := ⟨"LoggedStore$Disk", "checkOf", "(IIII)I"⟩
abbrev cD_setWords : ByteArray := prog_2_method_9_code
def yD_setWords : MethodName := ⟨"LoggedStore$Disk", "setWords", "(IIIIII)V"⟩
abbrev cS_arm : ByteArray := prog_1_method_14_code
def yS_arm : MethodName := ⟨"LoggedStore", "arm", "(II)V"⟩
abbrev cD_limitWrites : ByteArray := prog_2_method_3_code
def yD_limitWrites : MethodName := ⟨"LoggedStore$Disk", "limitWrites", "(II)V"⟩
abbrev cA_min : ByteArray := prog_11_method_69_code
def yA_min : MethodName := ⟨"java/lang/Math", "min", "(II)I"⟩
abbrev cA_max : ByteArray := prog_11_method_65_code
def yA_max : MethodName := ⟨"java/lang/Math", "max", "(II)I"⟩
abbrev cS_isDown : ByteArray := prog_1_method_15_code
def yS_isDown : MethodName := ⟨"LoggedStore", "isDown", "()Z"⟩
abbrev cS_recover : ByteArray := prog_1_method_16_code
def yS_recover : MethodName := ⟨"LoggedStore", "recover", "()I"⟩
abbrev cD_powerUp : ByteArray := prog_2_method_4_code
def yD_powerUp : MethodName := ⟨"LoggedStore$Disk", "powerUp", "()V"⟩
abbrev cY_fill : ByteArray := prog_16_method_103_code
def yY_fill : MethodName := ⟨"java/util/Arrays", "fill", "([II)V"⟩
abbrev cS_countingHeader : ByteArray := prog_1_method_33_code
def yS_countingHeader : MethodName := ⟨"LoggedStore", "countingHeader", "()I"⟩
abbrev cS_isHeader : ByteArray := prog_1_method_34_code
def yS_isHeader : MethodName := ⟨"LoggedStore", "isHeader", "(I)Z"⟩
abbrev cD_isGood : ByteArray := prog_2_method_6_code
def yD_isGood : MethodName := ⟨"LoggedStore$Disk", "isGood", "(I)Z"⟩
abbrev cD_wordOf : ByteArray := prog_2_method_5_code
def yD_wordOf : MethodName := ⟨"LoggedStore$Disk", "wordOf", "(II)I"⟩
abbrev cS_readCheckpoint : ByteArray := prog_1_method_35_code
def yS_readCheckpoint : MethodName := ⟨"LoggedStore", "readCheckpoint", "(I)V"⟩
abbrev cS_readArea : ByteArray := prog_1_method_36_code
def yS_readArea : MethodName := ⟨"LoggedStore", "readArea", "(I)V"⟩
abbrev cS_areaBegin : ByteArray := prog_1_method_31_code
def yS_areaBegin : MethodName := ⟨"LoggedStore", "areaBegin", "(I)I"⟩
abbrev cT_makeEmpty : ByteArray := prog_3_method_2_code
def yT_makeEmpty : MethodName := ⟨"LoggedStore$Table", "makeEmpty", "()V"⟩
abbrev cT_setNumber : ByteArray := prog_3_method_5_code
def yT_setNumber : MethodName := ⟨"LoggedStore$Table", "setNumber", "(II)V"⟩
abbrev cS_isKey : ByteArray := prog_1_method_24_code
def yS_isKey : MethodName := ⟨"LoggedStore", "isKey", "(I)Z"⟩
abbrev cS_redoLog : ByteArray := prog_1_method_37_code
def yS_redoLog : MethodName := ⟨"LoggedStore", "redoLog", "()V"⟩
abbrev cS_isOfThisLog : ByteArray := prog_1_method_38_code
def yS_isOfThisLog : MethodName := ⟨"LoggedStore", "isOfThisLog", "(I)Z"⟩
abbrev cA_floorDiv : ByteArray := prog_11_method_47_code
def yA_floorDiv : MethodName := ⟨"java/lang/Math", "floorDiv", "(II)I"⟩
abbrev cS_kindOf : ByteArray := prog_1_method_39_code
def yS_kindOf : MethodName := ⟨"LoggedStore", "kindOf", "(I)I"⟩
abbrev cS_endsCommit : ByteArray := prog_1_method_40_code
def yS_endsCommit : MethodName := ⟨"LoggedStore", "endsCommit", "(I)Z"⟩
abbrev cS_redoWrites : ByteArray := prog_1_method_41_code
def yS_redoWrites : MethodName := ⟨"LoggedStore", "redoWrites", "(II)V"⟩
abbrev cT_setNone : ByteArray := prog_3_method_6_code
def yT_setNone : MethodName := ⟨"LoggedStore$Table", "setNone", "(I)V"⟩
abbrev cS_word : ByteArray := prog_1_method_17_code
def yS_word : MethodName := ⟨"LoggedStore", "word", "(II)I"⟩
abbrev cL_begin : ByteArray := method_3_code
def yL_begin : MethodName := ⟨"LoggedStoreLaw", "begin", "(LLoggedStore;I[J)I"⟩
abbrev cS_begin : ByteArray := prog_1_method_2_code
def yS_begin : MethodName := ⟨"LoggedStore", "begin", "(I)I"⟩
abbrev cS_requireUp : ByteArray := prog_1_method_18_code
def yS_requireUp : MethodName := ⟨"LoggedStore", "requireUp", "()V"⟩
abbrev cS_requireTransaction : ByteArray := prog_1_method_19_code
def yS_requireTransaction : MethodName := ⟨"LoggedStore", "requireTransaction", "(I)V"⟩
abbrev cR_start : ByteArray := prog_4_method_2_code
def yR_start : MethodName := ⟨"LoggedStore$Transaction", "start", "(LLoggedStore$Table;I)V"⟩
abbrev cT_copyAll : ByteArray := prog_3_method_3_code
def yT_copyAll : MethodName := ⟨"LoggedStore$Table", "copyAll", "(LLoggedStore$Table;)V"⟩
abbrev cL_get : ByteArray := method_4_code
def yL_get : MethodName := ⟨"LoggedStoreLaw", "get", "(LLoggedStore;II[J)I"⟩
abbrev cS_get : ByteArray := prog_1_method_3_code
def yS_get : MethodName := ⟨"LoggedStore", "get", "(II)I"⟩
abbrev cS_viewFor : ByteArray := prog_1_method_23_code
def yS_viewFor : MethodName := ⟨"LoggedStore", "viewFor", "(II)LLoggedStore$Table;"⟩
abbrev cS_requireOpen : ByteArray := prog_1_method_20_code
def yS_requireOpen : MethodName := ⟨"LoggedStore", "requireOpen", "(I)V"⟩
abbrev cS_requireKey : ByteArray := prog_1_method_21_code
def yS_requireKey : MethodName := ⟨"LoggedStore", "requireKey", "(I)V"⟩
abbrev cS_requireNumber : ByteArray := prog_1_method_22_code
def yS_requireNumber : MethodName := ⟨"LoggedStore", "requireNumber", "(LLoggedStore$Table;I)V"⟩
abbrev cL_put : ByteArray := method_5_code
def yL_put : MethodName := ⟨"LoggedStoreLaw", "put", "(LLoggedStore;III[J)I"⟩
abbrev cS_put : ByteArray := prog_1_method_4_code
def yS_put : MethodName := ⟨"LoggedStore", "put", "(III)Z"⟩
abbrev cR_writeNumber : ByteArray := prog_4_method_3_code
def yR_writeNumber : MethodName := ⟨"LoggedStore$Transaction", "writeNumber", "(II)V"⟩
abbrev cR_markWritten : ByteArray := prog_4_method_5_code
def yR_markWritten : MethodName := ⟨"LoggedStore$Transaction", "markWritten", "(I)V"⟩
abbrev cL_remove : ByteArray := method_6_code
def yL_remove : MethodName := ⟨"LoggedStoreLaw", "remove", "(LLoggedStore;II)I"⟩
abbrev cS_remove : ByteArray := prog_1_method_5_code
def yS_remove : MethodName := ⟨"LoggedStore", "remove", "(II)V"⟩
abbrev cR_writeNone : ByteArray := prog_4_method_4_code
def yR_writeNone : MethodName := ⟨"LoggedStore$Transaction", "writeNone", "(I)V"⟩
abbrev cL_next : ByteArray := method_7_code
def yL_next : MethodName := ⟨"LoggedStoreLaw", "next", "(LLoggedStore;II[J)I"⟩
abbrev cS_next : ByteArray := prog_1_method_6_code
def yS_next : MethodName := ⟨"LoggedStore", "next", "(II)I"⟩
abbrev cT_keyFrom : ByteArray := prog_3_method_7_code
def yT_keyFrom : MethodName := ⟨"LoggedStore$Table", "keyFrom", "(I)I"⟩
abbrev cL_drop : ByteArray := method_8_code
def yL_drop : MethodName := ⟨"LoggedStoreLaw", "drop", "(LLoggedStore;I[J)I"⟩
abbrev cS_drop : ByteArray := prog_1_method_7_code
def yS_drop : MethodName := ⟨"LoggedStore", "drop", "(I)I"⟩
abbrev cL_commit : ByteArray := method_9_code
def yL_commit : MethodName := ⟨"LoggedStoreLaw", "commit", "(LLoggedStore;I[J)I"⟩
abbrev cS_commit : ByteArray := prog_1_method_8_code
def yS_commit : MethodName := ⟨"LoggedStore", "commit", "(I)I"⟩
abbrev cS_hasConflict : ByteArray := prog_1_method_25_code
def yS_hasConflict : MethodName := ⟨"LoggedStore", "hasConflict", "(LLoggedStore$Transaction;)Z"⟩
abbrev cS_countWith : ByteArray := prog_1_method_26_code
def yS_countWith : MethodName := ⟨"LoggedStore", "countWith", "(LLoggedStore$Transaction;)I"⟩
abbrev cR_blocksToLog : ByteArray := prog_4_method_6_code
def yR_blocksToLog : MethodName := ⟨"LoggedStore$Transaction", "blocksToLog", "()I"⟩
abbrev cS_logWrites : ByteArray := prog_1_method_27_code
def yS_logWrites : MethodName := ⟨"LoggedStore", "logWrites", "(LLoggedStore$Transaction;)V"⟩
abbrev cS_logWrite : ByteArray := prog_1_method_28_code
def yS_logWrite : MethodName := ⟨"LoggedStore", "logWrite", "(ILLoggedStore$Table;I)V"⟩
abbrev cD_writeChecked : ByteArray := prog_2_method_7_code
def yD_writeChecked : MethodName := ⟨"LoggedStore$Disk", "writeChecked", "(IIII)V"⟩
abbrev cD_write : ByteArray := prog_2_method_8_code
def yD_write : MethodName := ⟨"LoggedStore$Disk", "write", "(IIIII)V"⟩
abbrev cS_doWrites : ByteArray := prog_1_method_29_code
def yS_doWrites : MethodName := ⟨"LoggedStore", "doWrites", "(LLoggedStore$Transaction;)V"⟩
abbrev cT_copyKey : ByteArray := prog_3_method_4_code
def yT_copyKey : MethodName := ⟨"LoggedStore$Table", "copyKey", "(LLoggedStore$Table;I)V"⟩
abbrev cL_checkpoint : ByteArray := method_10_code
def yL_checkpoint : MethodName := ⟨"LoggedStoreLaw", "checkpoint", "(LLoggedStore;[J)I"⟩
abbrev cS_checkpoint : ByteArray := prog_1_method_9_code
def yS_checkpoint : MethodName := ⟨"LoggedStore", "checkpoint", "()I"⟩
abbrev cS_writeArea : ByteArray := prog_1_method_30_code
def yS_writeArea : MethodName := ⟨"LoggedStore", "writeArea", "(I)V"⟩
abbrev cL_number : ByteArray := method_11_code
def yL_number : MethodName := ⟨"LoggedStoreLaw", "number", "(LLoggedStore;I[J)I"⟩
abbrev cS_number : ByteArray := prog_1_method_10_code
def yS_number : MethodName := ⟨"LoggedStore", "number", "(I)I"⟩
abbrev cL_count : ByteArray := method_12_code
def yL_count : MethodName := ⟨"LoggedStoreLaw", "count", "(LLoggedStore;[J)I"⟩
abbrev cS_count : ByteArray := prog_1_method_11_code
def yS_count : MethodName := ⟨"LoggedStore", "count", "()I"⟩
abbrev cL_version : ByteArray := method_13_code
def yL_version : MethodName := ⟨"LoggedStoreLaw", "version", "(LLoggedStore;[J)I"⟩
abbrev cS_version : ByteArray := prog_1_method_12_code
def yS_version : MethodName := ⟨"LoggedStore", "version", "()I"⟩
abbrev cL_left : ByteArray := method_14_code
def yL_left : MethodName := ⟨"LoggedStoreLaw", "left", "(LLoggedStore;[J)I"⟩
abbrev cS_left : ByteArray := prog_1_method_13_code
def yS_left : MethodName := ⟨"LoggedStore", "left", "()I"⟩
abbrev cM_init : ByteArray := prog_6_method_1_code
def yM_init : MethodName := ⟨"LoggedStoreModel", "<init>", "()V"⟩
abbrev cM_checkOf : ByteArray := prog_6_method_4_code
def yM_checkOf : MethodName := ⟨"LoggedStoreModel", "checkOf", "(IIII)I"⟩
abbrev cM_thrown : ByteArray := prog_6_method_2_code
def yM_thrown : MethodName := ⟨"LoggedStoreModel", "thrown", "()I"⟩
abbrev cM_begin : ByteArray := prog_6_method_12_code
def yM_begin : MethodName := ⟨"LoggedStoreModel", "begin", "(I)I"⟩
abbrev cM_within : ByteArray := prog_6_method_3_code
def yM_within : MethodName := ⟨"LoggedStoreModel", "within", "(III)Z"⟩
abbrev cM_get : ByteArray := prog_6_method_13_code
def yM_get : MethodName := ⟨"LoggedStoreModel", "get", "(II)I"⟩
abbrev cM_lackOfKey : ByteArray := prog_6_method_10_code
def yM_lackOfKey : MethodName := ⟨"LoggedStoreModel", "lackOfKey", "(II)I"⟩
abbrev cM_lackOf : ByteArray := prog_6_method_9_code
def yM_lackOf : MethodName := ⟨"LoggedStoreModel", "lackOf", "(I)I"⟩
abbrev cM_sees : ByteArray := prog_6_method_11_code
def yM_sees : MethodName := ⟨"LoggedStoreModel", "sees", "(II)Z"⟩
abbrev cM_put : ByteArray := prog_6_method_14_code
def yM_put : MethodName := ⟨"LoggedStoreModel", "put", "(III)Z"⟩
abbrev cM_remove : ByteArray := prog_6_method_15_code
def yM_remove : MethodName := ⟨"LoggedStoreModel", "remove", "(II)V"⟩
abbrev cM_next : ByteArray := prog_6_method_16_code
def yM_next : MethodName := ⟨"LoggedStoreModel", "next", "(II)I"⟩
abbrev cM_drop : ByteArray := prog_6_method_18_code
def yM_drop : MethodName := ⟨"LoggedStoreModel", "drop", "(I)I"⟩
abbrev cM_writesOf : ByteArray := prog_6_method_17_code
def yM_writesOf : MethodName := ⟨"LoggedStoreModel", "writesOf", "(I)I"⟩
abbrev cM_commit : ByteArray := prog_6_method_23_code
def yM_commit : MethodName := ⟨"LoggedStoreModel", "commit", "(I)I"⟩
abbrev cM_conflicts : ByteArray := prog_6_method_19_code
def yM_conflicts : MethodName := ⟨"LoggedStoreModel", "conflicts", "(I)Z"⟩
abbrev cM_countWith : ByteArray := prog_6_method_20_code
def yM_countWith : MethodName := ⟨"LoggedStoreModel", "countWith", "(I)I"⟩
abbrev cM_logWrites : ByteArray := prog_6_method_21_code
def yM_logWrites : MethodName := ⟨"LoggedStoreModel", "logWrites", "(II)V"⟩
abbrev cM_writeChecked : ByteArray := prog_6_method_7_code
def yM_writeChecked : MethodName := ⟨"LoggedStoreModel", "writeChecked", "(IIII)V"⟩
abbrev cM_write : ByteArray := prog_6_method_6_code
def yM_write : MethodName := ⟨"LoggedStoreModel", "write", "(IIIII)V"⟩
abbrev cM_putWord : ByteArray := prog_6_method_5_code
def yM_putWord : MethodName := ⟨"LoggedStoreModel", "putWord", "(III)V"⟩
abbrev cM_doWrites : ByteArray := prog_6_method_22_code
def yM_doWrites : MethodName := ⟨"LoggedStoreModel", "doWrites", "(I)V"⟩
abbrev cM_checkpoint : ByteArray := prog_6_method_26_code
def yM_checkpoint : MethodName := ⟨"LoggedStoreModel", "checkpoint", "()I"⟩
abbrev cM_countNow : ByteArray := prog_6_method_24_code
def yM_countNow : MethodName := ⟨"LoggedStoreModel", "countNow", "()I"⟩
abbrev cM_keyAt : ByteArray := prog_6_method_25_code
def yM_keyAt : MethodName := ⟨"LoggedStoreModel", "keyAt", "(I)I"⟩
abbrev cM_recover : ByteArray := prog_6_method_31_code
def yM_recover : MethodName := ⟨"LoggedStoreModel", "recover", "()I"⟩
abbrev cM_counts : ByteArray := prog_6_method_27_code
def yM_counts : MethodName := ⟨"LoggedStoreModel", "counts", "(I)Z"⟩
abbrev cM_isGood : ByteArray := prog_6_method_8_code
def yM_isGood : MethodName := ⟨"LoggedStoreModel", "isGood", "(I)Z"⟩
abbrev cM_takeArea : ByteArray := prog_6_method_28_code
def yM_takeArea : MethodName := ⟨"LoggedStoreModel", "takeArea", "(I)V"⟩
abbrev cM_takeLog : ByteArray := prog_6_method_30_code
def yM_takeLog : MethodName := ⟨"LoggedStoreModel", "takeLog", "()V"⟩
abbrev cM_redo : ByteArray := prog_6_method_29_code
def yM_redo : MethodName := ⟨"LoggedStoreModel", "redo", "(I)V"⟩
abbrev cM_arm : ByteArray := prog_6_method_32_code
def yM_arm : MethodName := ⟨"LoggedStoreModel", "arm", "(II)V"⟩
abbrev cM_isDown : ByteArray := prog_6_method_33_code
def yM_isDown : MethodName := ⟨"LoggedStoreModel", "isDown", "()Z"⟩
abbrev cM_number : ByteArray := prog_6_method_34_code
def yM_number : MethodName := ⟨"LoggedStoreModel", "number", "(I)I"⟩
abbrev cM_count : ByteArray := prog_6_method_35_code
def yM_count : MethodName := ⟨"LoggedStoreModel", "count", "()I"⟩
abbrev cM_version : ByteArray := prog_6_method_36_code
def yM_version : MethodName := ⟨"LoggedStoreModel", "version", "()I"⟩
abbrev cM_left : ByteArray := prog_6_method_37_code
def yM_left : MethodName := ⟨"LoggedStoreModel", "left", "()I"⟩
abbrev cM_word : ByteArray := prog_6_method_38_code
def yM_word : MethodName := ⟨"LoggedStoreModel", "word", "(II)I"⟩
abbrev cL_law : ByteArray := code
def uD : u_T := fun k => match k with
  | 0 => ("LoggedStore$Disk", "words", "[I", true)
  | 1 => ("LoggedStore$Disk", "writesLeft", "I", false)
  | 2 => ("LoggedStore$Disk", "wordsOfLost", "I", false)
  | _ => ("LoggedStore$Disk", "down", "Z", false)
def tyD : Nat → FieldType := fun k => match k with
  | 0 => .array .int
  | 1 => .int
  | 2 => .int
  | _ => .boolean
theorem nmD : ∀ a, a < 4 → ∀ b, b < 4 → a ≠ b → (uD a).2.1 ≠ (uD b).2.1 := by decide +kernel
theorem tyD_ok : ∀ k, k < 4 → parseFieldDescriptor (uD k).2.2.1 = some (tyD k) := by decide +kernel
def uT : u_T := fun k => match k with
  | 0 => ("LoggedStore$Table", "has", "[Z", true)
  | 1 => ("LoggedStore$Table", "numbers", "[I", true)
  | _ => ("LoggedStore$Table", "size", "I", false)
def tyT : Nat → FieldType := fun k => match k with
  | 0 => .array .boolean
  | 1 => .array .int
  | _ => .int
theorem nmT : ∀ a, a < 3 → ∀ b, b < 3 → a ≠ b → (uT a).2.1 ≠ (uT b).2.1 := by decide +kernel
theorem tyT_ok : ∀ k, k < 3 → parseFieldDescriptor (uT k).2.2.1 = some (tyT k) := by decide +kernel
def uR : u_T := fun k => match k with
  | 0 => ("LoggedStore$Transaction", "view", "LLoggedStore$Table;", true)
  | 1 => ("LoggedStore$Transaction", "written", "[Z", true)
  | 2 => ("LoggedStore$Transaction", "writes", "I", false)
  | 3 => ("LoggedStore$Transaction", "beganAt", "I", false)
  | _ => ("LoggedStore$Transaction", "open", "Z", false)
def tyR : Nat → FieldType := fun k => match k with
  | 0 => .object "LoggedStore$Table"
  | 1 => .array .boolean
  | 2 => .int
  | 3 => .int
  | _ => .boolean
theorem nmR : ∀ a, a < 5 → ∀ b, b < 5 → a ≠ b → (uR a).2.1 ≠ (uR b).2.1 := by decide +kernel
theorem tyR_ok : ∀ k, k < 5 → parseFieldDescriptor (uR k).2.2.1 = some (tyR k) := by decide +kernel
def uS : u_T := fun k => match k with
  | 0 => ("LoggedStore", "disk", "LLoggedStore$Disk;", true)
  | 1 => ("LoggedStore", "latest", "LLoggedStore$Table;", true)
  | 2 => ("LoggedStore", "writtenAt", "[I", true)
  | 3 => ("LoggedStore", "transactions", "[LLoggedStore$Transaction;", true)
  | 4 => ("LoggedStore", "latestVersion", "I", false)
  | 5 => ("LoggedStore", "epoch", "I", false)
  | 6 => ("LoggedStore", "area", "I", false)
  | _ => ("LoggedStore", "logNext", "I", false)
def tyS : Nat → FieldType := fun k => match k with
  | 0 => .object "LoggedStore$Disk"
  | 1 => .object "LoggedStore$Table"
  | 2 => .array .int
  | 3 => .array (.object "LoggedStore$Transaction")
  | 4 => .int
  | 5 => .int
  | 6 => .int
  | _ => .int
theorem nmS : ∀ a, a < 8 → ∀ b, b < 8 → a ≠ b → (uS a).2.1 ≠ (uS b).2.1 := by decide +kernel
theorem tyS_ok : ∀ k, k < 8 → parseFieldDescriptor (uS k).2.2.1 = some (tyS k) := by decide +kernel
def uM : u_T := fun k => match k with
  | 0 => ("LoggedStoreModel", "code", "I", false)
  | 1 => ("LoggedStoreModel", "disk", "[I", false)
  | 2 => ("LoggedStoreModel", "down", "Z", false)
  | 3 => ("LoggedStoreModel", "power", "I", false)
  | 4 => ("LoggedStoreModel", "words", "I", false)
  | 5 => ("LoggedStoreModel", "has", "[Z", false)
  | 6 => ("LoggedStoreModel", "numbers", "[I", false)
  | 7 => ("LoggedStoreModel", "changed", "[I", false)
  | 8 => ("LoggedStoreModel", "version", "I", false)
  | 9 => ("LoggedStoreModel", "epoch", "I", false)
  | 10 => ("LoggedStoreModel", "area", "I", false)
  | 11 => ("LoggedStoreModel", "logged", "I", false)
  | 12 => ("LoggedStoreModel", "open", "[Z", false)
  | 13 => ("LoggedStoreModel", "began", "[I", false)
  | 14 => ("LoggedStoreModel", "had", "[Z", false)
  | 15 => ("LoggedStoreModel", "old", "[I", false)
  | 16 => ("LoggedStoreModel", "says", "[I", false)
  | _ => ("LoggedStoreModel", "what", "[I", false)
def tyM : Nat → FieldType := fun k => match k with
  | 0 => .int
  | 1 => .array .int
  | 2 => .boolean
  | 3 => .int
  | 4 => .int
  | 5 => .array .boolean
  | 6 => .array .int
  | 7 => .array .int
  | 8 => .int
  | 9 => .int
  | 10 => .int
  | 11 => .int
  | 12 => .array .boolean
  | 13 => .array .int
  | 14 => .array .boolean
  | 15 => .array .int
  | 16 => .array .int
  | _ => .array .int
theorem nmM : ∀ a, a < 18 → ∀ b, b < 18 → a ≠ b → (uM a).2.1 ≠ (uM b).2.1 := by decide +kernel
theorem tyM_ok : ∀ k, k < 18 → parseFieldDescriptor (uM k).2.2.1 = some (tyM k) := by decide +kernel
abbrev vwC : List vw_C := [("LoggedStore$Disk", uD, 4), ("LoggedStore$Table", uT, 3), ("LoggedStore$Transaction", uR, 5), ("LoggedStore", uS, 8), ("LoggedStoreModel", uM, 18)]
abbrev tyA (cI cZ cJ cT : ClassId) : List (ClassId × FieldType) := [(cI, .int), (cZ, .boolean), (cJ, .long), (cT, .object "LoggedStore$Transaction")]
/-- the tables' words that hold in all warmer tables -/
def wsA : List Cond := lw_tbl.filter goodWord
theorem wsA_good : ∀ w ∈ wsA, goodWord w = true := fun w h => (List.mem_filter.mp h).2
theorem gA0 {c : Cond} (h : c ∈ wsA) : GoodIn wsA (c :: wsA) := fun w hw => by
  rcases List.mem_cons.mp hw with rfl | hw
  · exact ⟨h, good_of_word (wsA_good _ h)⟩
  · exact ⟨hw, good_of_word (wsA_good _ hw)⟩
set_option maxRecDepth 100000 in
theorem inD : ∀ w ∈ u_ws "LoggedStore$Disk" uD 4, w ∈ wsA := by decide +kernel
set_option maxRecDepth 100000 in
theorem inT : ∀ w ∈ u_ws "LoggedStore$Table" uT 3, w ∈ wsA := by decide +kernel
set_option maxRecDepth 100000 in
theorem inR : ∀ w ∈ u_ws "LoggedStore$Transaction" uR 5, w ∈ wsA := by decide +kernel
set_option maxRecDepth 100000 in
theorem inS : ∀ w ∈ u_ws "LoggedStore" uS 8, w ∈ wsA := by decide +kernel
set_option maxRecDepth 100000 in
theorem inM : ∀ w ∈ u_ws "LoggedStoreModel" uM 18, w ∈ wsA := by decide +kernel
/-- what the methods want of the tables beside good words -/
def KN (U : State) : Prop := va_Nw (.methodLinkNest "LoggedStore" 9 yD_init "LoggedStore") U ∧ va_Nw (.methodLinkNest "LoggedStore" 18 yT_init "LoggedStore") U ∧ va_Nw (.methodLinkNest "LoggedStore" 46 yR_init "LoggedStore") U ∧ va_Nw (.methodLinkNest "LoggedStore$Transaction" 11 yT_init "LoggedStore") U ∧ va_Nw (.methodLinkNest "LoggedStore$Disk" 26 yS_headerBlock "LoggedStore") U ∧ va_Nw (.methodLinkNest "LoggedStore$Table" 31 yS_isKey "LoggedStore") U ∧ va_AO "LoggedStore$Transaction" U ∧ (∃ q, vk_R "LoggedStore" 182 "there is no such transaction" q U) ∧ (∃ q, vk_R "LoggedStore" 185 "the transaction is not open" q U) ∧ (∃ q, vk_R "LoggedStore" 191 "there is no such key" q U) ∧ (∃ q, vk_R "LoggedStore" 195 "the key has no number" q U) ∧ va_Nc "java/lang/IllegalArgumentException" "java/lang/IllegalStateException" U ∧ va_Nc "java/util/NoSuchElementException" "java/lang/IllegalStateException" U ∧ va_Nc "java/util/NoSuchElementException" "java/lang/IllegalArgumentException" U ∧ va_Nw (.castable "java/lang/IllegalArgumentException" "java/lang/IllegalArgumentException") U ∧ va_Nw (.castable "java/util/NoSuchElementException" "java/util/NoSuchElementException") U
theorem KN.n1 {U : State} (h : KN U) : va_Nw (.methodLinkNest "LoggedStore" 9 yD_init "LoggedStore") U := h.1
theorem KN.n2 {U : State} (h : KN U) : va_Nw (.methodLinkNest "LoggedStore" 18 yT_init "LoggedStore") U := h.2.1
theorem KN.n3 {U : State} (h : KN U) : va_Nw (.methodLinkNest "LoggedStore" 46 yR_init "LoggedStore") U := h.2.2.1
theorem KN.n4 {U : State} (h : KN U) : va_Nw (.methodLinkNest "LoggedStore$Transaction" 11 yT_init "LoggedStore") U := h.2.2.2.1
theorem KN.n5 {U : State} (h : KN U) : va_Nw (.methodLinkNest "LoggedStore$Disk" 26 yS_headerBlock "LoggedStore") U := h.2.2.2.2.1
theorem KN.n6 {U : State} (h : KN U) : va_Nw (.methodLinkNest "LoggedStore$Table" 31 yS_isKey "LoggedStore") U := h.2.2.2.2.2.1
theorem KN.ao {U : State} (h : KN U) : va_AO "LoggedStore$Transaction" U := h.2.2.2.2.2.2.1
theorem KN.s182 {U : State} (h : KN U) : (∃ q, vk_R "LoggedStore" 182 "there is no such transaction" q U) := h.2.2.2.2.2.2.2.1
theorem KN.s185 {U : State} (h : KN U) : (∃ q, vk_R "LoggedStore" 185 "the transaction is not open" q U) := h.2.2.2.2.2.2.2.2.1
theorem KN.s191 {U : State} (h : KN U) : (∃ q, vk_R "LoggedStore" 191 "there is no such key" q U) := h.2.2.2.2.2.2.2.2.2.1
theorem KN.s195 {U : State} (h : KN U) : (∃ q, vk_R "LoggedStore" 195 "the key has no number" q U) := h.2.2.2.2.2.2.2.2.2.2.1
theorem KN.nc1 {U : State} (h : KN U) : va_Nc "java/lang/IllegalArgumentException" "java/lang/IllegalStateException" U := h.2.2.2.2.2.2.2.2.2.2.2.1
theorem KN.nc2 {U : State} (h : KN U) : va_Nc "java/util/NoSuchElementException" "java/lang/IllegalStateException" U := h.2.2.2.2.2.2.2.2.2.2.2.2.1
theorem KN.nc3 {U : State} (h : KN U) : va_Nc "java/util/NoSuchElementException" "java/lang/IllegalArgumentException" U := h.2.2.2.2.2.2.2.2.2.2.2.2.2.1
theorem KN.ca1 {U : State} (h : KN U) : va_Nw (.castable "java/lang/IllegalArgumentException" "java/lang/IllegalArgumentException") U := h.2.2.2.2.2.2.2.2.2.2.2.2.2.2.1
theorem KN.ca2 {U : State} (h : KN U) : va_Nw (.castable "java/util/NoSuchElementException" "java/util/NoSuchElementException") U := h.2.2.2.2.2.2.2.2.2.2.2.2.2.2.2
theorem KN.moved {s U : State} (hW : s.WarmedH U.vm) (h : KN s) : KN U := ⟨va_Nw.warmM hW h.n1, va_Nw.warmM hW h.n2, va_Nw.warmM hW h.n3, va_Nw.warmM hW h.n4, va_Nw.warmM hW h.n5, va_Nw.warmM hW h.n6, va_AO.moved hW.alike h.ao, (h.s182).elim fun q h => ⟨q, vk_R.warm hW h⟩, (h.s185).elim fun q h => ⟨q, vk_R.warm hW h⟩, (h.s191).elim fun q h => ⟨q, vk_R.warm hW h⟩, (h.s195).elim fun q h => ⟨q, vk_R.warm hW h⟩, va_Nc.moved hW.alike h.nc1, va_Nc.moved hW.alike h.nc2, va_Nc.moved hW.alike h.nc3, va_Nw.warmC hW h.ca1, va_Nw.warmC hW h.ca2⟩
def KK (dC : Nat → ClassId) (dI : Nat → Nat → Nat) (cI cZ cJ cT : ClassId) (U : State) : Prop := va_K (dC, dI) vwC (tyA cI cZ cJ cT) U ∧ KN U
theorem KK.moved {dC : Nat → ClassId} {dI : Nat → Nat → Nat} {cI cZ cJ cT : ClassId} {s U : State} (h : KK dC dI cI cZ cJ cT s) (hW : s.WarmedH U.vm) : KK dC dI cI cZ cJ cT U := ⟨va_K.moved hW.alike h.1, KN.moved hW h.2⟩
/-- .. and of tables and statics, where one throws -/
def KS (U : State) : Prop := tx_Ow "LoggedStore" 184 "java/lang/IllegalArgumentException" ["java/lang/RuntimeException", "java/lang/Exception"] U
theorem KS.moved {s U : State} (h : KS s) (hW : s.WarmedH U.vm) (hh : ∀ (a : Addr) (cell : Cell), s.heap[a]? = some cell → cell.vm.isStatics = true → U.heap[a]? = some cell) : KS U := tx_Ow.moved hW hh h
theorem kb_S {dC : Nat → ClassId} {dI : Nat → Nat → Nat} {cI cZ cJ cT : ClassId} {ws : va_W} {av : List Value} : FrameBlind (va_Pc av (fun U => va_P (dC, dI) vwC ws U.heap ∧ KK dC dI cI cZ cJ cT U)) := fun a U g mk q => by
  obtain ⟨q0, qP, qK⟩ := q
  exact ⟨q0, qP, KK.moved (U := U.calling g mk a) qK (State.WarmedH.refl U)⟩
theorem kb_Q {dC : Nat → ClassId} {dI : Nat → Nat → Nat} {cI cZ cJ cT : ClassId} {ws : va_W} {av : List Value} {sz : Nat} : FrameBlind (va_Pc av (fun U => U.heap.size = sz ∧ va_P (dC, dI) vwC ws U.heap ∧ KK dC dI cI cZ cJ cT U ∧ va_D (fun _ => True) ws)) := fun a U g mk q => by
  obtain ⟨q0, q1, qP, qK, qD⟩ := q
  exact ⟨q0, q1, qP, KK.moved (U := U.calling g mk a) qK (State.WarmedH.refl U), qD⟩
theorem kb_X {dC : Nat → ClassId} {dI : Nat → Nat → Nat} {cI cZ cJ cT : ClassId} {ws : va_W} {av : List Value} : FrameBlind (va_Pc av (fun U => va_P (dC, dI) vwC ws U.heap ∧ KK dC dI cI cZ cJ cT U ∧ KS U)) := fun a U g mk q => by
  obtain ⟨q0, qP, qK, qS⟩ := q
  exact ⟨q0, qP, KK.moved (U := U.calling g mk a) qK (State.WarmedH.refl U), KS.moved (U := U.calling g mk a) qS (State.WarmedH.refl U) (fun _ _ h _ => h)⟩
end
section
set_option maxRecDepth 100000 in
theorem w10 : (Cond.selects "LoggedStore" yS_requireUp yS_requireUp) ∈ wsA := List.mem_filter.mpr ⟨List.mem_of_getElem? (i := 10) rfl, rfl⟩
set_option maxRecDepth 100000 in
theorem w40 : (Cond.initialized "LoggedStore") ∈ wsA := List.mem_filter.mpr ⟨List.mem_of_getElem? (i := 40) rfl, rfl⟩
set_option maxRecDepth 100000 in
theorem w73 : (Cond.fieldLink "LoggedStore" 150 "LoggedStore$Disk" "down" "Z") ∈ wsA := List.mem_filter.mpr ⟨List.mem_of_getElem? (i := 73) rfl, rfl⟩
set_option maxRecDepth 100000 in
theorem w95 : (Cond.fieldLink "LoggedStore" 137 "LoggedStore$Table" "size" "I") ∈ wsA := List.mem_filter.mpr ⟨List.mem_of_getElem? (i := 95) rfl, rfl⟩
set_option maxRecDepth 100000 in
theorem w154 : (Cond.fieldLink "LoggedStore" 10 "LoggedStore" "disk" "LLoggedStore$Disk;") ∈ wsA := List.mem_filter.mpr ⟨List.mem_of_getElem? (i := 154) rfl, rfl⟩
set_option maxRecDepth 100000 in
theorem w155 : (Cond.fieldLink "LoggedStore" 19 "LoggedStore" "latest" "LLoggedStore$Table;") ∈ wsA := List.mem_filter.mpr ⟨List.mem_of_getElem? (i := 155) rfl, rfl⟩
set_option maxRecDepth 100000 in
theorem w158 : (Cond.fieldLink "LoggedStore" 33 "LoggedStore" "latestVersion" "I") ∈ wsA := List.mem_filter.mpr ⟨List.mem_of_getElem? (i := 158) rfl, rfl⟩
set_option maxRecDepth 100000 in
theorem w161 : (Cond.fieldLink "LoggedStore" 43 "LoggedStore" "logNext" "I") ∈ wsA := List.mem_filter.mpr ⟨List.mem_of_getElem? (i := 161) rfl, rfl⟩
set_option maxRecDepth 100000 in
theorem w196 : (Cond.code yS_isDown cS_isDown 1 (some .boolean)) ∈ wsA := List.mem_filter.mpr ⟨List.mem_of_getElem? (i := 196) rfl, rfl⟩
set_option maxRecDepth 100000 in
theorem w289 : (Cond.methodLink "LoggedStore" 50 yS_requireUp) ∈ wsA := List.mem_filter.mpr ⟨List.mem_of_getElem? (i := 289) rfl, rfl⟩
set_option maxRecDepth 100000 in
theorem w291 : (Cond.instanceMethod yS_requireUp) ∈ wsA := List.mem_filter.mpr ⟨List.mem_of_getElem? (i := 291) rfl, rfl⟩
set_option maxRecDepth 100000 in
theorem w292 : (Cond.code yS_requireUp cS_requireUp 1 none) ∈ wsA := List.mem_filter.mpr ⟨List.mem_of_getElem? (i := 292) rfl, rfl⟩
set_option maxRecDepth 100000 in
theorem w585 : (Cond.code yS_count cS_count 1 (some .int)) ∈ wsA := List.mem_filter.mpr ⟨List.mem_of_getElem? (i := 585) rfl, rfl⟩
set_option maxRecDepth 100000 in
theorem w592 : (Cond.code yS_version cS_version 1 (some .int)) ∈ wsA := List.mem_filter.mpr ⟨List.mem_of_getElem? (i := 592) rfl, rfl⟩
set_option maxRecDepth 100000 in
theorem w599 : (Cond.code yS_left cS_left 1 (some .int)) ∈ wsA := List.mem_filter.mpr ⟨List.mem_of_getElem? (i := 599) rfl, rfl⟩
set_option maxRecDepth 100000 in
theorem w612 : (Cond.fieldLink "LoggedStoreModel" 52 "LoggedStoreModel" "code" "I") ∈ wsA := List.mem_filter.mpr ⟨List.mem_of_getElem? (i := 612) rfl, rfl⟩
set_option maxRecDepth 100000 in
theorem w670 : (Cond.code yM_thrown cM_thrown 1 (some .int)) ∈ wsA := List.mem_filter.mpr ⟨List.mem_of_getElem? (i := 670) rfl, rfl⟩
theorem dM_thrown_0 : decode cM_thrown 0 = .ok (.aload_n 0, 1) := by decide +kernel
theorem dM_thrown_1 : decode cM_thrown 1 = .ok (.getfield 52, 3) := by decide +kernel
theorem dM_thrown_4 : decode cM_thrown 4 = .ok (.ireturn, 1) := by decide +kernel
theorem dS_requireUp_0 : decode cS_requireUp 0 = .ok (.aload_n 0, 1) := by decide +kernel
theorem dS_requireUp_1 : decode cS_requireUp 1 = .ok (.getfield 10, 3) := by decide +kernel
theorem dS_requireUp_4 : decode cS_requireUp 4 = .ok (.getfield 150, 3) := by decide +kernel
theorem dS_requireUp_7 : decode cS_requireUp 7 = .ok (.ifCond .eq 13, 3) := by decide +kernel
theorem dS_requireUp_20 : decode cS_requireUp 20 = .ok (.return_, 1) := by decide +kernel
theorem dS_count_0 : decode cS_count 0 = .ok (.aload_n 0, 1) := by decide +kernel
theorem dS_count_1 : decode cS_count 1 = .ok (.invokevirtual 50, 3) := by decide +kernel
theorem dS_count_4 : decode cS_count 4 = .ok (.aload_n 0, 1) := by decide +kernel
theorem dS_count_5 : decode cS_count 5 = .ok (.getfield 19, 3) := by decide +kernel
theorem dS_count_8 : decode cS_count 8 = .ok (.getfield 137, 3) := by decide +kernel
theorem dS_count_11 : decode cS_count 11 = .ok (.ireturn, 1) := by decide +kernel
theorem dS_version_0 : decode cS_version 0 = .ok (.aload_n 0, 1) := by decide +kernel
theorem dS_version_1 : decode cS_version 1 = .ok (.invokevirtual 50, 3) := by decide +kernel
theorem dS_version_4 : decode cS_version 4 = .ok (.aload_n 0, 1) := by decide +kernel
theorem dS_version_5 : decode cS_version 5 = .ok (.getfield 33, 3) := by decide +kernel
theorem dS_version_8 : decode cS_version 8 = .ok (.ireturn, 1) := by decide +kernel
theorem dS_left_0 : decode cS_left 0 = .ok (.aload_n 0, 1) := by decide +kernel
theorem dS_left_1 : decode cS_left 1 = .ok (.invokevirtual 50, 3) := by decide +kernel
theorem dS_left_4 : decode cS_left 4 = .ok (.bipush 96, 2) := by decide +kernel
theorem dS_left_6 : decode cS_left 6 = .ok (.aload_n 0, 1) := by decide +kernel
theorem dS_left_7 : decode cS_left 7 = .ok (.getfield 43, 3) := by decide +kernel
theorem dS_left_10 : decode cS_left 10 = .ok (.isub, 1) := by decide +kernel
theorem dS_left_11 : decode cS_left 11 = .ok (.ireturn, 1) := by decide +kernel
theorem dS_isDown_0 : decode cS_isDown 0 = .ok (.aload_n 0, 1) := by decide +kernel
theorem dS_isDown_1 : decode cS_isDown 1 = .ok (.getfield 10, 3) := by decide +kernel
theorem dS_isDown_4 : decode cS_isDown 4 = .ok (.getfield 150, 3) := by decide +kernel
theorem dS_isDown_7 : decode cS_isDown 7 = .ok (.ireturn, 1) := by decide +kernel
set_option maxHeartbeats 4000000 in
set_option maxRecDepth 100000 in
theorem c_thrown (l : Launch) (dC : Nat → ClassId) (dI : Nat → Nat → Nat) (cI cZ cJ cT : ClassId) (m0 md mh mn mc mo mb mk ml ms mw : Nat) (k : Int32) : Met l yM_thrown (Cond.code yM_thrown cM_thrown 1 (some .int) :: wsA) ({ frames := 0, cells := 0, slots := 0, locals := 0 }) (va_Pc [.ref m0] (fun U => va_P (dC, dI) vwC [(m0, .inr (4, [.int k, .ref md, .int 0, .int (-1), .int 0, .ref mh, .ref mn, .ref mc, .int 0, .int 1, .int 0, .int 0, .ref mo, .ref mb, .ref mk, .ref ml, .ref ms, .ref mw]))] U.heap ∧ KK dC dI cI cZ cJ cT U)) (vp_Si (fun r => r = k)) 0 0 (fun _ => False) := by
  refine Met.ofW (cc := cM_thrown) (maxL := 1) (ret := (some .int)) (by decide) rfl ?_
  intro p e s m args below meth c s₁ B hml hv
  obtain ⟨rfl, hP, hKK⟩ := hv
  have hK := hKK.1
  have hx := B.exec
  have hb := B.bytes
  have hr := B.returns
  have hw : ∀ w ∈ wsA, w.before _ s = true := fun w h => atoms_spec (ws := (Cond.code yM_thrown cM_thrown 1 (some .int) :: wsA)) B.pre w (List.mem_cons_of_mem _ h)
  have hown : s.vm.findClass "LoggedStoreModel" = some m.cls := findClass_of_methodNamed B.named
  have hlocks := B.notSynchronized
  have hl := lv_entry ([.ref m0]) (n := 1) (Nat.le_of_ble_eq_true rfl)
  rw [lg_entry_eq]
  generalize (lg_sl ([.ref m0]) ++ List.replicate (1 - (lg_sl ([.ref m0])).length) Slot.unset).toArray = ls at hl ⊢
  have hl : lv_has ls 1 [(0, .ref m0)] := hl
  refine lv_aload_n hx hb dM_thrown_0 rfl (lv_at hl 0 rfl) ?_
  refine va_get (D := (dC, dI)) (ci := 4) (v := .int k) (C := "LoggedStoreModel") (T := uM) (N := 18) hx hb hw inM hown hK hP 0 rfl rfl 0 (by decide) (hw _ w612) (fun _ h9 => h9) rfl dM_thrown_1 ?_
  exact W.iret (v := k) hx hb hr (fun t ht hW => ⟨k, rfl, rfl, ht⟩) (fun q h => by cases h) dM_thrown_4

set_option maxHeartbeats 4000000 in
set_option maxRecDepth 100000 in
theorem c_requireUp (l : Launch) (dC : Nat → ClassId) (dI : Nat → Nat → Nat) (cI cZ cJ cT : ClassId) (x d w tb wa ts : Nat) : Met l yS_requireUp (Cond.code yS_requireUp cS_requireUp 1 none :: wsA) ({ frames := 0, cells := 0, slots := 0, locals := 0 }) (va_Pc [.ref x] (fun U => va_P (dC, dI) vwC [(x, .inr (3, [.ref d, .ref tb, .ref wa, .ref ts, .int 0, .int 1, .int 0, .int 22])), (d, .inr (0, [.ref w, .int (-1), .int 0, .int 0]))] U.heap ∧ KK dC dI cI cZ cJ cT U)) (va_Sv (fun _ => True)) 0 0 (fun _ => False) := by
  refine Met.ofW (cc := cS_requireUp) (maxL := 1) (ret := none) (by decide) rfl ?_
  intro p e s m args below meth c s₁ B hml hv
  obtain ⟨rfl, hP, hKK⟩ := hv
  have hK := hKK.1
  have hx := B.exec
  have hb := B.bytes
  have hr := B.returns
  have hw : ∀ w ∈ wsA, w.before _ s = true := fun w h => atoms_spec (ws := (Cond.code yS_requireUp cS_requireUp 1 none :: wsA)) B.pre w (List.mem_cons_of_mem _ h)
  have hown : s.vm.findClass "LoggedStore" = some m.cls := findClass_of_methodNamed B.named
  have hlocks := B.notSynchronized
  have hl := lv_entry ([.ref x]) (n := 1) (Nat.le_of_ble_eq_true rfl)
  rw [lg_entry_eq]
  generalize (lg_sl ([.ref x]) ++ List.replicate (1 - (lg_sl ([.ref x])).length) Slot.unset).toArray = ls at hl ⊢
  have hl : lv_has ls 1 [(0, .ref x)] := hl
  refine lv_aload_n hx hb dS_requireUp_0 rfl (lv_at hl 0 rfl) ?_
  refine va_get (D := (dC, dI)) (ci := 3) (v := .ref d) (C := "LoggedStore") (T := uS) (N := 8) hx hb hw inS hown hK hP 0 rfl rfl 0 (by decide) (hw _ w154) (fun _ h9 => h9) rfl dS_requireUp_1 ?_
  refine va_get (D := (dC, dI)) (ci := 0) (v := .int 0) (C := "LoggedStore$Disk") (T := uD) (N := 4) hx hb hw inD hown hK hP 1 rfl rfl 3 (by decide) (hw _ w73) (fun _ h9 => h9) rfl dS_requireUp_4 ?_
  refine lv_if_eq (tgt := 20) hx hb dS_requireUp_7 (by decide) (fun _ => ?_) (fun h9 => absurd (by decide) h9)
  exact W.vret hx hb hr (fun t ht hW => ⟨rfl, trivial, ht⟩) (fun q h => by cases h) dS_requireUp_20

set_option maxHeartbeats 4000000 in
set_option maxRecDepth 100000 in
theorem c_count (l : Launch) (dC : Nat → ClassId) (dI : Nat → Nat → Nat) (cI cZ cJ cT : ClassId) (x d w tb wa ts : Nat) (hs ns : Nat) : Met l yS_count (Cond.code yS_count cS_count 1 (some .int) :: wsA) ({ frames := 1, cells := 0, slots := 0, locals := 20 }) (va_Pc [.ref x] (fun U => va_P (dC, dI) vwC [(x, .inr (3, [.ref d, .ref tb, .ref wa, .ref ts, .int 0, .int 1, .int 0, .int 22])), (d, .inr (0, [.ref w, .int (-1), .int 0, .int 0])), (tb, .inr (1, [.ref hs, .ref ns, .int 0]))] U.heap ∧ KK dC dI cI cZ cJ cT U)) (vp_Si (fun r => r = 0)) 0 0 (fun _ => False) := by
  refine Met.ofW (cc := cS_count) (maxL := 1) (ret := (some .int)) (by decide) rfl ?_
  intro p e s m args below meth c s₁ B hml hv
  obtain ⟨rfl, hP, hKK⟩ := hv
  have hK := hKK.1
  have hx := B.exec
  have hb := B.bytes
  have hr := B.returns
  have hw : ∀ w ∈ wsA, w.before _ s = true := fun w h => atoms_spec (ws := (Cond.code yS_count cS_count 1 (some .int) :: wsA)) B.pre w (List.mem_cons_of_mem _ h)
  have hown : s.vm.findClass "LoggedStore" = some m.cls := findClass_of_methodNamed B.named
  have hlocks := B.notSynchronized
  have hl := lv_entry ([.ref x]) (n := 1) (Nat.le_of_ble_eq_true rfl)
  rw [lg_entry_eq]
  generalize (lg_sl ([.ref x]) ++ List.replicate (1 - (lg_sl ([.ref x])).length) Slot.unset).toArray = ls at hl ⊢
  have hl : lv_has ls 1 [(0, .ref x)] := hl
  refine lv_aload_n hx hb dS_count_0 rfl (lv_at hl 0 rfl) ?_
  have hPc := hP.sub (ws' := [(x, .inr (3, [.ref d, .ref tb, .ref wa, .ref ts, .int 0, .int 1, .int 0, .int 22])), (d, .inr (0, [.ref w, .int (-1), .int 0, .int 0]))]) [0, 1] rfl
  refine va_csv (W.runV (C := "LoggedStore") (b := x) (As := []) (rest := []) ⟨hx, hb, hml, hown, hw⟩ (c_requireUp l dC dI cI cZ cJ cT x d w tb wa ts) ⟨callB_of 0 hw (gA0 w292) rfl rfl rfl (hw _ w40) (hw _ w289) (by decide +kernel) ⟨Nat.le_of_ble_eq_true rfl, Nat.le_of_ble_eq_true rfl⟩, (hw _ w291), (hw _ w10)⟩ ⟨kb_S, va_recv (ci := 3) (q0 := 0) hK hP rfl rfl, fun U hU hW => ⟨rfl, by rw [hU]; exact hPc, hKK.moved hW⟩⟩ rfl rfl hl.1 rfl (lv_room (Nat.le_of_ble_eq_true rfl)) dS_count_1 ⟨Nat.le_of_ble_eq_true rfl, Nat.le_of_ble_eq_true rfl⟩) (fun _ => ?_)
  refine lv_aload_n hx hb dS_count_4 rfl (lv_at hl 0 rfl) ?_
  refine va_get (D := (dC, dI)) (ci := 3) (v := .ref tb) (C := "LoggedStore") (T := uS) (N := 8) hx hb hw inS hown hK hP 0 rfl rfl 1 (by decide) (hw _ w155) (fun _ h9 => h9) rfl dS_count_5 ?_
  refine va_get (D := (dC, dI)) (ci := 1) (v := .int 0) (C := "LoggedStore$Table") (T := uT) (N := 3) hx hb hw inT hown hK hP 2 rfl rfl 2 (by decide) (hw _ w95) (fun _ h9 => h9) rfl dS_count_8 ?_
  exact W.iret (v := 0) hx hb hr (fun t ht hW => ⟨0, rfl, rfl, ht⟩) (fun q h => by cases h) dS_count_11

set_option maxHeartbeats 4000000 in
set_option maxRecDepth 100000 in
theorem c_version (l : Launch) (dC : Nat → ClassId) (dI : Nat → Nat → Nat) (cI cZ cJ cT : ClassId) (x d w tb wa ts : Nat) : Met l yS_version (Cond.code yS_version cS_version 1 (some .int) :: wsA) ({ frames := 1, cells := 0, slots := 0, locals := 20 }) (va_Pc [.ref x] (fun U => va_P (dC, dI) vwC [(x, .inr (3, [.ref d, .ref tb, .ref wa, .ref ts, .int 0, .int 1, .int 0, .int 22])), (d, .inr (0, [.ref w, .int (-1), .int 0, .int 0]))] U.heap ∧ KK dC dI cI cZ cJ cT U)) (vp_Si (fun r => r = 0)) 0 0 (fun _ => False) := by
  refine Met.ofW (cc := cS_version) (maxL := 1) (ret := (some .int)) (by decide) rfl ?_
  intro p e s m args below meth c s₁ B hml hv
  obtain ⟨rfl, hP, hKK⟩ := hv
  have hK := hKK.1
  have hx := B.exec
  have hb := B.bytes
  have hr := B.returns
  have hw : ∀ w ∈ wsA, w.before _ s = true := fun w h => atoms_spec (ws := (Cond.code yS_version cS_version 1 (some .int) :: wsA)) B.pre w (List.mem_cons_of_mem _ h)
  have hown : s.vm.findClass "LoggedStore" = some m.cls := findClass_of_methodNamed B.named
  have hlocks := B.notSynchronized
  have hl := lv_entry ([.ref x]) (n := 1) (Nat.le_of_ble_eq_true rfl)
  rw [lg_entry_eq]
  generalize (lg_sl ([.ref x]) ++ List.replicate (1 - (lg_sl ([.ref x])).length) Slot.unset).toArray = ls at hl ⊢
  have hl : lv_has ls 1 [(0, .ref x)] := hl
  refine lv_aload_n hx hb dS_version_0 rfl (lv_at hl 0 rfl) ?_
  have hPc := hP.sub (ws' := [(x, .inr (3, [.ref d, .ref tb, .ref wa, .ref ts, .int 0, .int 1, .int 0, .int 22])), (d, .inr (0, [.ref w, .int (-1), .int 0, .int 0]))]) [0, 1] rfl
  refine va_csv (W.runV (C := "LoggedStore") (b := x) (As := []) (rest := []) ⟨hx, hb, hml, hown, hw⟩ (c_requireUp l dC dI cI cZ cJ cT x d w tb wa ts) ⟨callB_of 0 hw (gA0 w292) rfl rfl rfl (hw _ w40) (hw _ w289) (by decide +kernel) ⟨Nat.le_of_ble_eq_true rfl, Nat.le_of_ble_eq_true rfl⟩, (hw _ w291), (hw _ w10)⟩ ⟨kb_S, va_recv (ci := 3) (q0 := 0) hK hP rfl rfl, fun U hU hW => ⟨rfl, by rw [hU]; exact hPc, hKK.moved hW⟩⟩ rfl rfl hl.1 rfl (lv_room (Nat.le_of_ble_eq_true rfl)) dS_version_1 ⟨Nat.le_of_ble_eq_true rfl, Nat.le_of_ble_eq_true rfl⟩) (fun _ => ?_)
  refine lv_aload_n hx hb dS_version_4 rfl (lv_at hl 0 rfl) ?_
  refine va_get (D := (dC, dI)) (ci := 3) (v := .int 0) (C := "LoggedStore") (T := uS) (N := 8) hx hb hw inS hown hK hP 0 rfl rfl 4 (by decide) (hw _ w158) (fun _ h9 => h9) rfl dS_version_5 ?_
  exact W.iret (v := 0) hx hb hr (fun t ht hW => ⟨0, rfl, rfl, ht⟩) (fun q h => by cases h) dS_version_8

set_option maxHeartbeats 4000000 in
set_option maxRecDepth 100000 in
theorem c_left (l : Launch) (dC : Nat → ClassId) (dI : Nat → Nat → Nat) (cI cZ cJ cT : ClassId) (x d w tb wa ts : Nat) : Met l yS_left (Cond.code yS_left cS_left 1 (some .int) :: wsA) ({ frames := 1, cells := 0, slots := 0, locals := 20 }) (va_Pc [.ref x] (fun U => va_P (dC, dI) vwC [(x, .inr (3, [.ref d, .ref tb, .ref wa, .ref ts, .int 0, .int 1, .int 0, .int 22])), (d, .inr (0, [.ref w, .int (-1), .int 0, .int 0]))] U.heap ∧ KK dC dI cI cZ cJ cT U)) (vp_Si (fun r => r = 74)) 0 0 (fun _ => False) := by
  refine Met.ofW (cc := cS_left) (maxL := 1) (ret := (some .int)) (by decide) rfl ?_
  intro p e s m args below meth c s₁ B hml hv
  obtain ⟨rfl, hP, hKK⟩ := hv
  have hK := hKK.1
  have hx := B.exec
  have hb := B.bytes
  have hr := B.returns
  have hw : ∀ w ∈ wsA, w.before _ s = true := fun w h => atoms_spec (ws := (Cond.code yS_left cS_left 1 (some .int) :: wsA)) B.pre w (List.mem_cons_of_mem _ h)
  have hown : s.vm.findClass "LoggedStore" = some m.cls := findClass_of_methodNamed B.named
  have hlocks := B.notSynchronized
  have hl := lv_entry ([.ref x]) (n := 1) (Nat.le_of_ble_eq_true rfl)
  rw [lg_entry_eq]
  generalize (lg_sl ([.ref x]) ++ List.replicate (1 - (lg_sl ([.ref x])).length) Slot.unset).toArray = ls at hl ⊢
  have hl : lv_has ls 1 [(0, .ref x)] := hl
  refine lv_aload_n hx hb dS_left_0 rfl (lv_at hl 0 rfl) ?_
  have hPc := hP.sub (ws' := [(x, .inr (3, [.ref d, .ref tb, .ref wa, .ref ts, .int 0, .int 1, .int 0, .int 22])), (d, .inr (0, [.ref w, .int (-1), .int 0, .int 0]))]) [0, 1] rfl
  refine va_csv (W.runV (C := "LoggedStore") (b := x) (As := []) (rest := []) ⟨hx, hb, hml, hown, hw⟩ (c_requireUp l dC dI cI cZ cJ cT x d w tb wa ts) ⟨callB_of 0 hw (gA0 w292) rfl rfl rfl (hw _ w40) (hw _ w289) (by decide +kernel) ⟨Nat.le_of_ble_eq_true rfl, Nat.le_of_ble_eq_true rfl⟩, (hw _ w291), (hw _ w10)⟩ ⟨kb_S, va_recv (ci := 3) (q0 := 0) hK hP rfl rfl, fun U hU hW => ⟨rfl, by rw [hU]; exact hPc, hKK.moved hW⟩⟩ rfl rfl hl.1 rfl (lv_room (Nat.le_of_ble_eq_true rfl)) dS_left_1 ⟨Nat.le_of_ble_eq_true rfl, Nat.le_of_ble_eq_true rfl⟩) (fun _ => ?_)
  refine lv_bipush (v := 96) hx hb dS_left_4 (by decide) ?_
  refine lv_aload_n hx hb dS_left_6 rfl (lv_at hl 0 rfl) ?_
  refine va_get (D := (dC, dI)) (ci := 3) (v := .int 22) (C := "LoggedStore") (T := uS) (N := 8) hx hb hw inS hown hK hP 0 rfl rfl 7 (by decide) (hw _ w161) (fun _ h9 => h9) rfl dS_left_7 ?_
  refine lv_isub hx hb dS_left_10 ?_
  refine lv_topi (nm_r (e' := 74) (by decide +kernel) ?_)
  exact W.iret (v := 74) hx hb hr (fun t ht hW => ⟨74, rfl, rfl, ht⟩) (fun q h => by cases h) dS_left_11

set_option maxHeartbeats 4000000 in
set_option maxRecDepth 100000 in
theorem c_isDown (l : Launch) (dC : Nat → ClassId) (dI : Nat → Nat → Nat) (cI cZ cJ cT : ClassId) (x d w tb wa ts : Nat) : Met l yS_isDown (Cond.code yS_isDown cS_isDown 1 (some .boolean) :: wsA) ({ frames := 0, cells := 0, slots := 0, locals := 0 }) (va_Pc [.ref x] (fun U => va_P (dC, dI) vwC [(x, .inr (3, [.ref d, .ref tb, .ref wa, .ref ts, .int 0, .int 1, .int 0, .int 22])), (d, .inr (0, [.ref w, .int (-1), .int 0, .int 0]))] U.heap ∧ KK dC dI cI cZ cJ cT U)) (vp_Si (fun r => r = 0)) 0 0 (fun _ => False) := by
  refine Met.ofW (cc := cS_isDown) (maxL := 1) (ret := (some .boolean)) (by decide) rfl ?_
  intro p e s m args below meth c s₁ B hml hv
  obtain ⟨rfl, hP, hKK⟩ := hv
  have hK := hKK.1
  have hx := B.exec
  have hb := B.bytes
  have hr := B.returns
  have hw : ∀ w ∈ wsA, w.before _ s = true := fun w h => atoms_spec (ws := (Cond.code yS_isDown cS_isDown 1 (some .boolean) :: wsA)) B.pre w (List.mem_cons_of_mem _ h)
  have hown : s.vm.findClass "LoggedStore" = some m.cls := findClass_of_methodNamed B.named
  have hlocks := B.notSynchronized
  have hl := lv_entry ([.ref x]) (n := 1) (Nat.le_of_ble_eq_true rfl)
  rw [lg_entry_eq]
  generalize (lg_sl ([.ref x]) ++ List.replicate (1 - (lg_sl ([.ref x])).length) Slot.unset).toArray = ls at hl ⊢
  have hl : lv_has ls 1 [(0, .ref x)] := hl
  refine lv_aload_n hx hb dS_isDown_0 rfl (lv_at hl 0 rfl) ?_
  refine va_get (D := (dC, dI)) (ci := 3) (v := .ref d) (C := "LoggedStore") (T := uS) (N := 8) hx hb hw inS hown hK hP 0 rfl rfl 0 (by decide) (hw _ w154) (fun _ h9 => h9) rfl dS_isDown_1 ?_
  refine va_get (D := (dC, dI)) (ci := 0) (v := .int 0) (C := "LoggedStore$Disk") (T := uD) (N := 4) hx hb hw inD hown hK hP 1 rfl rfl 3 (by decide) (hw _ w73) (fun _ h9 => h9) rfl dS_isDown_4 ?_
  exact W.zret (v := 0) (ty := .boolean) hx hb hr (by decide) (fun t ht hW => ⟨0, rfl, rfl, ht⟩) (fun q h => by cases h) dS_isDown_7
end
section
set_option maxRecDepth 100000 in
theorem w0 : (Cond.selects "LoggedStore$Disk" yD_setWords yD_setWords) ∈ wsA := List.mem_filter.mpr ⟨List.mem_of_getElem? (i := 0) rfl, rfl⟩
set_option maxRecDepth 100000 in
theorem w41 : (Cond.initialized "LoggedStore$Disk") ∈ wsA := List.mem_filter.mpr ⟨List.mem_of_getElem? (i := 41) rfl, rfl⟩
set_option maxRecDepth 100000 in
theorem w42 : (Cond.initialized "LoggedStore$Table") ∈ wsA := List.mem_filter.mpr ⟨List.mem_of_getElem? (i := 42) rfl, rfl⟩
set_option maxRecDepth 100000 in
theorem w44 : (Cond.initialized "java/lang/Math") ∈ wsA := List.mem_filter.mpr ⟨List.mem_of_getElem? (i := 44) rfl, rfl⟩
set_option maxRecDepth 100000 in
theorem w61 : (Cond.instanceMethod objectInit) ∈ wsA := List.mem_filter.mpr ⟨List.mem_of_getElem? (i := 61) rfl, rfl⟩
set_option maxRecDepth 100000 in
theorem w62 : (Cond.code objectInit ⟨#[0xb1]⟩ 1 none) ∈ wsA := List.mem_filter.mpr ⟨List.mem_of_getElem? (i := 62) rfl, rfl⟩
set_option maxRecDepth 100000 in
theorem w67 : (Cond.code yD_init cD_init 1 none) ∈ wsA := List.mem_filter.mpr ⟨List.mem_of_getElem? (i := 67) rfl, rfl⟩
set_option maxRecDepth 100000 in
theorem w68 : (Cond.methodLink "LoggedStore$Disk" 3 objectInit) ∈ wsA := List.mem_filter.mpr ⟨List.mem_of_getElem? (i := 68) rfl, rfl⟩
set_option maxRecDepth 100000 in
theorem w69 : (Cond.fieldLink "LoggedStore$Disk" 11 "LoggedStore$Disk" "words" "[I") ∈ wsA := List.mem_filter.mpr ⟨List.mem_of_getElem? (i := 69) rfl, rfl⟩
set_option maxRecDepth 100000 in
theorem w70 : (Cond.fieldLink "LoggedStore$Disk" 15 "LoggedStore$Disk" "writesLeft" "I") ∈ wsA := List.mem_filter.mpr ⟨List.mem_of_getElem? (i := 70) rfl, rfl⟩
set_option maxRecDepth 100000 in
theorem w71 : (Cond.fieldLink "LoggedStore$Disk" 19 "LoggedStore$Disk" "wordsOfLost" "I") ∈ wsA := List.mem_filter.mpr ⟨List.mem_of_getElem? (i := 71) rfl, rfl⟩
set_option maxRecDepth 100000 in
theorem w72 : (Cond.fieldLink "LoggedStore$Disk" 22 "LoggedStore$Disk" "down" "Z") ∈ wsA := List.mem_filter.mpr ⟨List.mem_of_getElem? (i := 72) rfl, rfl⟩
set_option maxRecDepth 100000 in
theorem w83 : (Cond.arrayClass .int) ∈ wsA := List.mem_filter.mpr ⟨List.mem_of_getElem? (i := 83) rfl, rfl⟩
set_option maxRecDepth 100000 in
theorem w85 : (Cond.instantiable "LoggedStore$Table" 3) ∈ wsA := List.mem_filter.mpr ⟨List.mem_of_getElem? (i := 85) rfl, rfl⟩
set_option maxRecDepth 100000 in
theorem w87 : (Cond.instanceMethod yT_init) ∈ wsA := List.mem_filter.mpr ⟨List.mem_of_getElem? (i := 87) rfl, rfl⟩
set_option maxRecDepth 100000 in
theorem w88 : (Cond.code yT_init cT_init 1 none) ∈ wsA := List.mem_filter.mpr ⟨List.mem_of_getElem? (i := 88) rfl, rfl⟩
set_option maxRecDepth 100000 in
theorem w89 : (Cond.methodLink "LoggedStore$Table" 3 objectInit) ∈ wsA := List.mem_filter.mpr ⟨List.mem_of_getElem? (i := 89) rfl, rfl⟩
set_option maxRecDepth 100000 in
theorem w90 : (Cond.fieldLink "LoggedStore$Table" 9 "LoggedStore$Table" "has" "[Z") ∈ wsA := List.mem_filter.mpr ⟨List.mem_of_getElem? (i := 90) rfl, rfl⟩
set_option maxRecDepth 100000 in
theorem w92 : (Cond.fieldLink "LoggedStore$Table" 15 "LoggedStore$Table" "numbers" "[I") ∈ wsA := List.mem_filter.mpr ⟨List.mem_of_getElem? (i := 92) rfl, rfl⟩
set_option maxRecDepth 100000 in
theorem w94 : (Cond.fieldLink "LoggedStore$Table" 19 "LoggedStore$Table" "size" "I") ∈ wsA := List.mem_filter.mpr ⟨List.mem_of_getElem? (i := 94) rfl, rfl⟩
set_option maxRecDepth 100000 in
theorem w103 : (Cond.arrayClass .boolean) ∈ wsA := List.mem_filter.mpr ⟨List.mem_of_getElem? (i := 103) rfl, rfl⟩
set_option maxRecDepth 100000 in
theorem w109 : (Cond.code yR_init cR_init 1 none) ∈ wsA := List.mem_filter.mpr ⟨List.mem_of_getElem? (i := 109) rfl, rfl⟩
set_option maxRecDepth 100000 in
theorem w110 : (Cond.methodLink "LoggedStore$Transaction" 3 objectInit) ∈ wsA := List.mem_filter.mpr ⟨List.mem_of_getElem? (i := 110) rfl, rfl⟩
set_option maxRecDepth 100000 in
theorem w111 : (Cond.classLink "LoggedStore$Transaction" 9 "LoggedStore$Table") ∈ wsA := List.mem_filter.mpr ⟨List.mem_of_getElem? (i := 111) rfl, rfl⟩
set_option maxRecDepth 100000 in
theorem w113 : (Cond.fieldLink "LoggedStore$Transaction" 12 "LoggedStore$Transaction" "view" "LLoggedStore$Table;") ∈ wsA := List.mem_filter.mpr ⟨List.mem_of_getElem? (i := 113) rfl, rfl⟩
set_option maxRecDepth 100000 in
theorem w115 : (Cond.fieldLink "LoggedStore$Transaction" 18 "LoggedStore$Transaction" "written" "[Z") ∈ wsA := List.mem_filter.mpr ⟨List.mem_of_getElem? (i := 115) rfl, rfl⟩
set_option maxRecDepth 100000 in
theorem w117 : (Cond.fieldLink "LoggedStore$Transaction" 22 "LoggedStore$Transaction" "writes" "I") ∈ wsA := List.mem_filter.mpr ⟨List.mem_of_getElem? (i := 117) rfl, rfl⟩
set_option maxRecDepth 100000 in
theorem w119 : (Cond.fieldLink "LoggedStore$Transaction" 26 "LoggedStore$Transaction" "beganAt" "I") ∈ wsA := List.mem_filter.mpr ⟨List.mem_of_getElem? (i := 119) rfl, rfl⟩
set_option maxRecDepth 100000 in
theorem w121 : (Cond.fieldLink "LoggedStore$Transaction" 29 "LoggedStore$Transaction" "open" "Z") ∈ wsA := List.mem_filter.mpr ⟨List.mem_of_getElem? (i := 121) rfl, rfl⟩
set_option maxRecDepth 100000 in
theorem w137 : (Cond.code yD_format cD_format 2 none) ∈ wsA := List.mem_filter.mpr ⟨List.mem_of_getElem? (i := 137) rfl, rfl⟩
set_option maxRecDepth 100000 in
theorem w139 : (Cond.static yS_headerBlock) ∈ wsA := List.mem_filter.mpr ⟨List.mem_of_getElem? (i := 139) rfl, rfl⟩
set_option maxRecDepth 100000 in
theorem w140 : (Cond.code yS_headerBlock cS_headerBlock 1 (some .int)) ∈ wsA := List.mem_filter.mpr ⟨List.mem_of_getElem? (i := 140) rfl, rfl⟩
set_option maxRecDepth 100000 in
theorem w141 : (Cond.methodLink "LoggedStore" 221 yA_floorMod) ∈ wsA := List.mem_filter.mpr ⟨List.mem_of_getElem? (i := 141) rfl, rfl⟩
set_option maxRecDepth 100000 in
theorem w142 : (Cond.static yA_floorMod) ∈ wsA := List.mem_filter.mpr ⟨List.mem_of_getElem? (i := 142) rfl, rfl⟩
set_option maxRecDepth 100000 in
theorem w143 : (Cond.code yA_floorMod cA_floorMod 3 (some .int)) ∈ wsA := List.mem_filter.mpr ⟨List.mem_of_getElem? (i := 143) rfl, rfl⟩
set_option maxRecDepth 100000 in
theorem w144 : (Cond.methodLink "LoggedStore$Disk" 30 yD_checkOf) ∈ wsA := List.mem_filter.mpr ⟨List.mem_of_getElem? (i := 144) rfl, rfl⟩
set_option maxRecDepth 100000 in
theorem w145 : (Cond.static yD_checkOf) ∈ wsA := List.mem_filter.mpr ⟨List.mem_of_getElem? (i := 145) rfl, rfl⟩
set_option maxRecDepth 100000 in
theorem w146 : (Cond.code yD_checkOf cD_checkOf 4 (some .int)) ∈ wsA := List.mem_filter.mpr ⟨List.mem_of_getElem? (i := 146) rfl, rfl⟩
set_option maxRecDepth 100000 in
theorem w147 : (Cond.constant "LoggedStore$Disk" 61 65536) ∈ wsA := List.mem_filter.mpr ⟨List.mem_of_getElem? (i := 147) rfl, rfl⟩
set_option maxRecDepth 100000 in
theorem w148 : (Cond.constant "LoggedStore$Disk" 62 1664525) ∈ wsA := List.mem_filter.mpr ⟨List.mem_of_getElem? (i := 148) rfl, rfl⟩
set_option maxRecDepth 100000 in
theorem w149 : (Cond.constant "LoggedStore$Disk" 63 1013904223) ∈ wsA := List.mem_filter.mpr ⟨List.mem_of_getElem? (i := 149) rfl, rfl⟩
set_option maxRecDepth 100000 in
theorem w150 : (Cond.methodLink "LoggedStore$Disk" 34 yD_setWords) ∈ wsA := List.mem_filter.mpr ⟨List.mem_of_getElem? (i := 150) rfl, rfl⟩
set_option maxRecDepth 100000 in
theorem w152 : (Cond.instanceMethod yD_setWords) ∈ wsA := List.mem_filter.mpr ⟨List.mem_of_getElem? (i := 152) rfl, rfl⟩
set_option maxRecDepth 100000 in
theorem w153 : (Cond.code yD_setWords cD_setWords 8 none) ∈ wsA := List.mem_filter.mpr ⟨List.mem_of_getElem? (i := 153) rfl, rfl⟩
theorem dA_floorMod_0 : decode cA_floorMod 0 = .ok (.iload_n 0, 1) := by decide +kernel
theorem dA_floorMod_1 : decode cA_floorMod 1 = .ok (.iload_n 1, 1) := by decide +kernel
theorem dA_floorMod_2 : decode cA_floorMod 2 = .ok (.irem, 1) := by decide +kernel
theorem dA_floorMod_3 : decode cA_floorMod 3 = .ok (.istore_n 2, 1) := by decide +kernel
theorem dA_floorMod_4 : decode cA_floorMod 4 = .ok (.iload_n 0, 1) := by decide +kernel
theorem dA_floorMod_5 : decode cA_floorMod 5 = .ok (.iload_n 1, 1) := by decide +kernel
theorem dA_floorMod_6 : decode cA_floorMod 6 = .ok (.ixor, 1) := by decide +kernel
theorem dA_floorMod_7 : decode cA_floorMod 7 = .ok (.ifCond .ge 11, 3) := by decide +kernel
theorem dA_floorMod_18 : decode cA_floorMod 18 = .ok (.iload_n 2, 1) := by decide +kernel
theorem dA_floorMod_19 : decode cA_floorMod 19 = .ok (.ireturn, 1) := by decide +kernel
theorem dS_headerBlock_0 : decode cS_headerBlock 0 = .ok (.iload_n 0, 1) := by decide +kernel
theorem dS_headerBlock_1 : decode cS_headerBlock 1 = .ok (.iconst 1, 1) := by decide +kernel
theorem dS_headerBlock_2 : decode cS_headerBlock 2 = .ok (.iadd, 1) := by decide +kernel
theorem dS_headerBlock_3 : decode cS_headerBlock 3 = .ok (.iconst 2, 1) := by decide +kernel
theorem dS_headerBlock_4 : decode cS_headerBlock 4 = .ok (.invokestatic 221, 3) := by decide +kernel
theorem dS_headerBlock_7 : decode cS_headerBlock 7 = .ok (.ireturn, 1) := by decide +kernel
theorem dD_checkOf_0 : decode cD_checkOf 0 = .ok (.ldc 61, 2) := by decide +kernel
theorem dD_checkOf_2 : decode cD_checkOf 2 = .ok (.iload_n 1, 1) := by decide +kernel
theorem dD_checkOf_3 : decode cD_checkOf 3 = .ok (.imul, 1) := by decide +kernel
theorem dD_checkOf_4 : decode cD_checkOf 4 = .ok (.iload_n 2, 1) := by decide +kernel
theorem dD_checkOf_5 : decode cD_checkOf 5 = .ok (.iadd, 1) := by decide +kernel
theorem dD_checkOf_6 : decode cD_checkOf 6 = .ok (.iload_n 3, 1) := by decide +kernel
theorem dD_checkOf_7 : decode cD_checkOf 7 = .ok (.ldc 62, 2) := by decide +kernel
theorem dD_checkOf_9 : decode cD_checkOf 9 = .ok (.imul, 1) := by decide +kernel
theorem dD_checkOf_10 : decode cD_checkOf 10 = .ok (.ixor, 1) := by decide +kernel
theorem dD_checkOf_11 : decode cD_checkOf 11 = .ok (.ldc 63, 2) := by decide +kernel
theorem dD_checkOf_13 : decode cD_checkOf 13 = .ok (.bipush 97, 2) := by decide +kernel
theorem dD_checkOf_15 : decode cD_checkOf 15 = .ok (.iload_n 0, 1) := by decide +kernel
theorem dD_checkOf_16 : decode cD_checkOf 16 = .ok (.imul, 1) := by decide +kernel
theorem dD_checkOf_17 : decode cD_checkOf 17 = .ok (.iadd, 1) := by decide +kernel
theorem dD_checkOf_18 : decode cD_checkOf 18 = .ok (.ixor, 1) := by decide +kernel
theorem dD_checkOf_19 : decode cD_checkOf 19 = .ok (.ireturn, 1) := by decide +kernel
theorem dD_setWords_0 : decode cD_setWords 0 = .ok (.iconst 4, 1) := by decide +kernel
theorem dD_setWords_1 : decode cD_setWords 1 = .ok (.iload_n 1, 1) := by decide +kernel
theorem dD_setWords_2 : decode cD_setWords 2 = .ok (.imul, 1) := by decide +kernel
theorem dD_setWords_3 : decode cD_setWords 3 = .ok (.istore 7, 2) := by decide +kernel
theorem dD_setWords_5 : decode cD_setWords 5 = .ok (.iload_n 2, 1) := by decide +kernel
theorem dD_setWords_6 : decode cD_setWords 6 = .ok (.ifCond .le 11, 3) := by decide +kernel
theorem dD_setWords_9 : decode cD_setWords 9 = .ok (.aload_n 0, 1) := by decide +kernel
theorem dD_setWords_10 : decode cD_setWords 10 = .ok (.getfield 11, 3) := by decide +kernel
theorem dD_setWords_13 : decode cD_setWords 13 = .ok (.iload 7, 2) := by decide +kernel
theorem dD_setWords_15 : decode cD_setWords 15 = .ok (.iload_n 3, 1) := by decide +kernel
theorem dD_setWords_16 : decode cD_setWords 16 = .ok (.iastore, 1) := by decide +kernel
theorem dD_setWords_17 : decode cD_setWords 17 = .ok (.iload_n 2, 1) := by decide +kernel
theorem dD_setWords_18 : decode cD_setWords 18 = .ok (.iconst 1, 1) := by decide +kernel
theorem dD_setWords_19 : decode cD_setWords 19 = .ok (.if_icmp .le 14, 3) := by decide +kernel
theorem dD_setWords_22 : decode cD_setWords 22 = .ok (.aload_n 0, 1) := by decide +kernel
theorem dD_setWords_23 : decode cD_setWords 23 = .ok (.getfield 11, 3) := by decide +kernel
theorem dD_setWords_26 : decode cD_setWords 26 = .ok (.iload 7, 2) := by decide +kernel
theorem dD_setWords_28 : decode cD_setWords 28 = .ok (.iconst 1, 1) := by decide +kernel
theorem dD_setWords_29 : decode cD_setWords 29 = .ok (.iadd, 1) := by decide +kernel
theorem dD_setWords_30 : decode cD_setWords 30 = .ok (.iload 4, 2) := by decide +kernel
theorem dD_setWords_32 : decode cD_setWords 32 = .ok (.iastore, 1) := by decide +kernel
theorem dD_setWords_33 : decode cD_setWords 33 = .ok (.iload_n 2, 1) := by decide +kernel
theorem dD_setWords_34 : decode cD_setWords 34 = .ok (.iconst 2, 1) := by decide +kernel
theorem dD_setWords_35 : decode cD_setWords 35 = .ok (.if_icmp .le 14, 3) := by decide +kernel
theorem dD_setWords_38 : decode cD_setWords 38 = .ok (.aload_n 0, 1) := by decide +kernel
theorem dD_setWords_39 : decode cD_setWords 39 = .ok (.getfield 11, 3) := by decide +kernel
theorem dD_setWords_42 : decode cD_setWords 42 = .ok (.iload 7, 2) := by decide +kernel
theorem dD_setWords_44 : decode cD_setWords 44 = .ok (.iconst 2, 1) := by decide +kernel
theorem dD_setWords_45 : decode cD_setWords 45 = .ok (.iadd, 1) := by decide +kernel
theorem dD_setWords_46 : decode cD_setWords 46 = .ok (.iload 5, 2) := by decide +kernel
theorem dD_setWords_48 : decode cD_setWords 48 = .ok (.iastore, 1) := by decide +kernel
theorem dD_setWords_49 : decode cD_setWords 49 = .ok (.iload_n 2, 1) := by decide +kernel
theorem dD_setWords_50 : decode cD_setWords 50 = .ok (.iconst 3, 1) := by decide +kernel
theorem dD_setWords_51 : decode cD_setWords 51 = .ok (.if_icmp .le 14, 3) := by decide +kernel
theorem dD_setWords_54 : decode cD_setWords 54 = .ok (.aload_n 0, 1) := by decide +kernel
theorem dD_setWords_55 : decode cD_setWords 55 = .ok (.getfield 11, 3) := by decide +kernel
theorem dD_setWords_58 : decode cD_setWords 58 = .ok (.iload 7, 2) := by decide +kernel
theorem dD_setWords_60 : decode cD_setWords 60 = .ok (.iconst 3, 1) := by decide +kernel
theorem dD_setWords_61 : decode cD_setWords 61 = .ok (.iadd, 1) := by decide +kernel
theorem dD_setWords_62 : decode cD_setWords 62 = .ok (.iload 6, 2) := by decide +kernel
theorem dD_setWords_64 : decode cD_setWords 64 = .ok (.iastore, 1) := by decide +kernel
theorem dD_setWords_65 : decode cD_setWords 65 = .ok (.return_, 1) := by decide +kernel
theorem dD_format_0 : decode cD_format 0 = .ok (.iconst 1, 1) := by decide +kernel
theorem dD_format_1 : decode cD_format 1 = .ok (.invokestatic 26, 3) := by decide +kernel
theorem dD_format_4 : decode cD_format 4 = .ok (.istore_n 1, 1) := by decide +kernel
theorem dD_format_5 : decode cD_format 5 = .ok (.aload_n 0, 1) := by decide +kernel
theorem dD_format_6 : decode cD_format 6 = .ok (.iload_n 1, 1) := by decide +kernel
theorem dD_format_7 : decode cD_format 7 = .ok (.iconst 4, 1) := by decide +kernel
theorem dD_format_8 : decode cD_format 8 = .ok (.iconst 1, 1) := by decide +kernel
theorem dD_format_9 : decode cD_format 9 = .ok (.iconst 0, 1) := by decide +kernel
theorem dD_format_10 : decode cD_format 10 = .ok (.iconst 0, 1) := by decide +kernel
theorem dD_format_11 : decode cD_format 11 = .ok (.iload_n 1, 1) := by decide +kernel
theorem dD_format_12 : decode cD_format 12 = .ok (.iconst 1, 1) := by decide +kernel
theorem dD_format_13 : decode cD_format 13 = .ok (.iconst 0, 1) := by decide +kernel
theorem dD_format_14 : decode cD_format 14 = .ok (.iconst 0, 1) := by decide +kernel
theorem dD_format_15 : decode cD_format 15 = .ok (.invokestatic 30, 3) := by decide +kernel
theorem dD_format_18 : decode cD_format 18 = .ok (.invokevirtual 34, 3) := by decide +kernel
theorem dD_format_21 : decode cD_format 21 = .ok (.return_, 1) := by decide +kernel
theorem dD_init_0 : decode cD_init 0 = .ok (.aload_n 0, 1) := by decide +kernel
theorem dD_init_1 : decode cD_init 1 = .ok (.invokespecial 3, 3) := by decide +kernel
theorem dD_init_4 : decode cD_init 4 = .ok (.aload_n 0, 1) := by decide +kernel
theorem dD_init_5 : decode cD_init 5 = .ok (.sipush 384, 3) := by decide +kernel
theorem dD_init_8 : decode cD_init 8 = .ok (.newarray .int, 2) := by decide +kernel
theorem dD_init_10 : decode cD_init 10 = .ok (.putfield 11, 3) := by decide +kernel
theorem dD_init_13 : decode cD_init 13 = .ok (.aload_n 0, 1) := by decide +kernel
theorem dD_init_14 : decode cD_init 14 = .ok (.iconst (-1), 1) := by decide +kernel
theorem dD_init_15 : decode cD_init 15 = .ok (.putfield 15, 3) := by decide +kernel
theorem dD_init_18 : decode cD_init 18 = .ok (.aload_n 0, 1) := by decide +kernel
theorem dD_init_19 : decode cD_init 19 = .ok (.iconst 0, 1) := by decide +kernel
theorem dD_init_20 : decode cD_init 20 = .ok (.putfield 19, 3) := by decide +kernel
theorem dD_init_23 : decode cD_init 23 = .ok (.aload_n 0, 1) := by decide +kernel
theorem dD_init_24 : decode cD_init 24 = .ok (.iconst 0, 1) := by decide +kernel
theorem dD_init_25 : decode cD_init 25 = .ok (.putfield 22, 3) := by decide +kernel
theorem dD_init_28 : decode cD_init 28 = .ok (.return_, 1) := by decide +kernel
theorem dT_init_0 : decode cT_init 0 = .ok (.aload_n 0, 1) := by decide +kernel
theorem dT_init_1 : decode cT_init 1 = .ok (.invokespecial 3, 3) := by decide +kernel
theorem dT_init_4 : decode cT_init 4 = .ok (.aload_n 0, 1) := by decide +kernel
theorem dT_init_5 : decode cT_init 5 = .ok (.bipush 64, 2) := by decide +kernel
theorem dT_init_7 : decode cT_init 7 = .ok (.newarray .boolean, 2) := by decide +kernel
theorem dT_init_9 : decode cT_init 9 = .ok (.putfield 9, 3) := by decide +kernel
theorem dT_init_12 : decode cT_init 12 = .ok (.aload_n 0, 1) := by decide +kernel
theorem dT_init_13 : decode cT_init 13 = .ok (.bipush 64, 2) := by decide +kernel
theorem dT_init_15 : decode cT_init 15 = .ok (.newarray .int, 2) := by decide +kernel
theorem dT_init_17 : decode cT_init 17 = .ok (.putfield 15, 3) := by decide +kernel
theorem dT_init_20 : decode cT_init 20 = .ok (.aload_n 0, 1) := by decide +kernel
theorem dT_init_21 : decode cT_init 21 = .ok (.iconst 0, 1) := by decide +kernel
theorem dT_init_22 : decode cT_init 22 = .ok (.putfield 19, 3) := by decide +kernel
theorem dT_init_25 : decode cT_init 25 = .ok (.return_, 1) := by decide +kernel
theorem dR_init_0 : decode cR_init 0 = .ok (.aload_n 0, 1) := by decide +kernel
theorem dR_init_1 : decode cR_init 1 = .ok (.invokespecial 3, 3) := by decide +kernel
theorem dR_init_4 : decode cR_init 4 = .ok (.aload_n 0, 1) := by decide +kernel
theorem dR_init_5 : decode cR_init 5 = .ok (.new 9, 3) := by decide +kernel
theorem dR_init_8 : decode cR_init 8 = .ok (.dup, 1) := by decide +kernel
theorem dR_init_9 : decode cR_init 9 = .ok (.invokespecial 11, 3) := by decide +kernel
theorem dR_init_12 : decode cR_init 12 = .ok (.putfield 12, 3) := by decide +kernel
theorem dR_init_15 : decode cR_init 15 = .ok (.aload_n 0, 1) := by decide +kernel
theorem dR_init_16 : decode cR_init 16 = .ok (.bipush 64, 2) := by decide +kernel
theorem dR_init_18 : decode cR_init 18 = .ok (.newarray .boolean, 2) := by decide +kernel
theorem dR_init_20 : decode cR_init 20 = .ok (.putfield 18, 3) := by decide +kernel
theorem dR_init_23 : decode cR_init 23 = .ok (.aload_n 0, 1) := by decide +kernel
theorem dR_init_24 : decode cR_init 24 = .ok (.iconst 0, 1) := by decide +kernel
theorem dR_init_25 : decode cR_init 25 = .ok (.putfield 22, 3) := by decide +kernel
theorem dR_init_28 : decode cR_init 28 = .ok (.aload_n 0, 1) := by decide +kernel
theorem dR_init_29 : decode cR_init 29 = .ok (.iconst 0, 1) := by decide +kernel
theorem dR_init_30 : decode cR_init 30 = .ok (.putfield 26, 3) := by decide +kernel
theorem dR_init_33 : decode cR_init 33 = .ok (.aload_n 0, 1) := by decide +kernel
theorem dR_init_34 : decode cR_init 34 = .ok (.iconst 0, 1) := by decide +kernel
theorem dR_init_35 : decode cR_init 35 = .ok (.putfield 29, 3) := by decide +kernel
theorem dR_init_38 : decode cR_init 38 = .ok (.return_, 1) := by decide +kernel
def W0 : Nat → Int32 := upd (upd (upd (upd (fun _ => 0) (0 : Int32).toNatClampNeg 1) (1 : Int32).toNatClampNeg 0) (2 : Int32).toNatClampNeg 0) (3 : Int32).toNatClampNeg 1013969759
def tF (t0 t1 t2 : Nat) : Nat → Option Nat := va_up (va_up (va_up (fun _ => none) (0 : Int32).toNatClampNeg (some t0)) (1 : Int32).toNatClampNeg (some t1)) (2 : Int32).toNatClampNeg (some t2)
set_option maxHeartbeats 4000000 in
set_option maxRecDepth 100000 in
theorem c_fm22 (l : Launch) (dC : Nat → ClassId) (dI : Nat → Nat → Nat) (cI cZ cJ cT : ClassId) : Met l yA_floorMod (Cond.code yA_floorMod cA_floorMod 3 (some .int) :: wsA) ({ frames := 0, cells := 0, slots := 0, locals := 0 }) (va_Pc [.int 2, .int 2] (fun U => va_P (dC, dI) vwC [] U.heap ∧ KK dC dI cI cZ cJ cT U)) (vp_Si (fun r => r = 0)) 0 0 (fun _ => False) := by
  refine va_MetF (cc := cA_floorMod) (maxL := 3) (ret := (some .int)) (by decide +kernel) rfl ?_
  intro p e s m args below meth c s₁ B hml hv
  obtain ⟨rfl, hP, hKK⟩ := hv
  have hK := hKK.1
  have hx := B.exec
  have hb := B.bytes
  have hr := B.returns
  have hw : ∀ w ∈ wsA, w.before _ s = true := fun w h => atoms_spec (ws := (Cond.code yA_floorMod cA_floorMod 3 (some .int) :: wsA)) B.pre w (List.mem_cons_of_mem _ h)
  have hown : s.vm.findClass "java/lang/Math" = some m.cls := findClass_of_methodNamed B.named
  have hlocks := B.notSynchronized
  have hl := lv_entry ([.int 2, .int 2]) (n := 3) (Nat.le_of_ble_eq_true rfl)
  rw [lg_entry_eq]
  generalize (lg_sl ([.int 2, .int 2]) ++ List.replicate (3 - (lg_sl ([.int 2, .int 2])).length) Slot.unset).toArray = ls at hl ⊢
  have hl : lv_has ls 3 [(0, .int 2), (1, .int 2)] := hl
  refine lv_iload_n hx hb dA_floorMod_0 rfl (lv_at hl 0 rfl) ?_
  refine lv_iload_n hx hb dA_floorMod_1 rfl (lv_at hl 1 rfl) ?_
  refine lv_irem hx hb dA_floorMod_2 (by decide) ?_
  refine lv_topi (nm_r (e' := 0) (by decide +kernel) ?_)
  refine lv_istore_n hx hb dA_floorMod_3 rfl hl (by decide) rfl (fun ls hl => ?_)
  have hl : lv_has ls 3 [(2, .int 0), (0, .int 2), (1, .int 2)] := hl
  refine lv_iload_n hx hb dA_floorMod_4 rfl (lv_at hl 1 rfl) ?_
  refine lv_iload_n hx hb dA_floorMod_5 rfl (lv_at hl 2 rfl) ?_
  refine lv_ixor hx hb dA_floorMod_6 ?_
  refine lv_topi (nm_r (e' := 0) (by decide +kernel) ?_)
  refine lv_if_ge (tgt := 18) hx hb dA_floorMod_7 (by decide) (fun _ => ?_) (fun h9 => absurd (by decide) h9)
  refine lv_iload_n hx hb dA_floorMod_18 rfl (lv_at hl 0 rfl) ?_
  exact W.iret (v := 0) hx hb hr (fun t ht hW => ⟨0, rfl, rfl, ht⟩) (fun q h => by cases h) dA_floorMod_19

set_option maxHeartbeats 4000000 in
set_option maxRecDepth 100000 in
theorem c_fm32 (l : Launch) (dC : Nat → ClassId) (dI : Nat → Nat → Nat) (cI cZ cJ cT : ClassId) : Met l yA_floorMod (Cond.code yA_floorMod cA_floorMod 3 (some .int) :: wsA) ({ frames := 0, cells := 0, slots := 0, locals := 0 }) (va_Pc [.int 3, .int 2] (fun U => va_P (dC, dI) vwC [] U.heap ∧ KK dC dI cI cZ cJ cT U)) (vp_Si (fun r => r = 1)) 0 0 (fun _ => False) := by
  refine va_MetF (cc := cA_floorMod) (maxL := 3) (ret := (some .int)) (by decide +kernel) rfl ?_
  intro p e s m args below meth c s₁ B hml hv
  obtain ⟨rfl, hP, hKK⟩ := hv
  have hK := hKK.1
  have hx := B.exec
  have hb := B.bytes
  have hr := B.returns
  have hw : ∀ w ∈ wsA, w.before _ s = true := fun w h => atoms_spec (ws := (Cond.code yA_floorMod cA_floorMod 3 (some .int) :: wsA)) B.pre w (List.mem_cons_of_mem _ h)
  have hown : s.vm.findClass "java/lang/Math" = some m.cls := findClass_of_methodNamed B.named
  have hlocks := B.notSynchronized
  have hl := lv_entry ([.int 3, .int 2]) (n := 3) (Nat.le_of_ble_eq_true rfl)
  rw [lg_entry_eq]
  generalize (lg_sl ([.int 3, .int 2]) ++ List.replicate (3 - (lg_sl ([.int 3, .int 2])).length) Slot.unset).toArray = ls at hl ⊢
  have hl : lv_has ls 3 [(0, .int 3), (1, .int 2)] := hl
  refine lv_iload_n hx hb dA_floorMod_0 rfl (lv_at hl 0 rfl) ?_
  refine lv_iload_n hx hb dA_floorMod_1 rfl (lv_at hl 1 rfl) ?_
  refine lv_irem hx hb dA_floorMod_2 (by decide) ?_
  refine lv_topi (nm_r (e' := 1) (by decide +kernel) ?_)
  refine lv_istore_n hx hb dA_floorMod_3 rfl hl (by decide) rfl (fun ls hl => ?_)
  have hl : lv_has ls 3 [(2, .int 1), (0, .int 3), (1, .int 2)] := hl
  refine lv_iload_n hx hb dA_floorMod_4 rfl (lv_at hl 1 rfl) ?_
  refine lv_iload_n hx hb dA_floorMod_5 rfl (lv_at hl 2 rfl) ?_
  refine lv_ixor hx hb dA_floorMod_6 ?_
  refine lv_topi (nm_r (e' := 1) (by decide +kernel) ?_)
  refine lv_if_ge (tgt := 18) hx hb dA_floorMod_7 (by decide) (fun _ => ?_) (fun h9 => absurd (by decide) h9)
  refine lv_iload_n hx hb dA_floorMod_18 rfl (lv_at hl 0 rfl) ?_
  exact W.iret (v := 1) hx hb hr (fun t ht hW => ⟨1, rfl, rfl, ht⟩) (fun q h => by cases h) dA_floorMod_19

set_option maxHeartbeats 4000000 in
set_option maxRecDepth 100000 in
theorem c_hb1 (l : Launch) (dC : Nat → ClassId) (dI : Nat → Nat → Nat) (cI cZ cJ cT : ClassId) : Met l yS_headerBlock (Cond.code yS_headerBlock cS_headerBlock 1 (some .int) :: wsA) ({ frames := 1, cells := 0, slots := 0, locals := 22 }) (va_Pc [.int 1] (fun U => va_P (dC, dI) vwC [] U.heap ∧ KK dC dI cI cZ cJ cT U)) (vp_Si (fun r => r = 0)) 0 0 (fun _ => False) := by
  refine Met.ofW (cc := cS_headerBlock) (maxL := 1) (ret := (some .int)) (by decide) rfl ?_
  intro p e s m args below meth c s₁ B hml hv
  obtain ⟨rfl, hP, hKK⟩ := hv
  have hK := hKK.1
  have hx := B.exec
  have hb := B.bytes
  have hr := B.returns
  have hw : ∀ w ∈ wsA, w.before _ s = true := fun w h => atoms_spec (ws := (Cond.code yS_headerBlock cS_headerBlock 1 (some .int) :: wsA)) B.pre w (List.mem_cons_of_mem _ h)
  have hown : s.vm.findClass "LoggedStore" = some m.cls := findClass_of_methodNamed B.named
  have hlocks := B.notSynchronized
  have hl := lv_entry ([.int 1]) (n := 1) (Nat.le_of_ble_eq_true rfl)
  rw [lg_entry_eq]
  generalize (lg_sl ([.int 1]) ++ List.replicate (1 - (lg_sl ([.int 1])).length) Slot.unset).toArray = ls at hl ⊢
  have hl : lv_has ls 1 [(0, .int 1)] := hl
  refine lv_iload_n hx hb dS_headerBlock_0 rfl (lv_at hl 0 rfl) ?_
  refine lv_iconst (v := 1) hx hb dS_headerBlock_1 (by decide) ?_
  refine lv_iadd hx hb dS_headerBlock_2 ?_
  refine lv_topi (nm_r (e' := 2) (by decide +kernel) ?_)
  refine lv_iconst (v := 2) hx hb dS_headerBlock_3 (by decide) ?_
  have hPc := hP.sub (ws' := []) [] rfl
  refine vp_callSi (W.runS (As := [.int 2, .int 2]) (rest := []) ⟨hx, hb, hml, hown, hw⟩ (c_fm22 l dC dI cI cZ cJ cT) ⟨callB_of 2 hw (gA0 w143) rfl rfl rfl (hw _ w44) (hw _ w141) (by decide +kernel) ⟨Nat.le_of_ble_eq_true rfl, Nat.le_of_ble_eq_true rfl⟩, (hw _ w142)⟩ ⟨kb_S, fun U hU hW => ⟨rfl, by rw [hU]; exact hPc, hKK.moved hW⟩⟩ rfl rfl hl.1 rfl (lv_room (Nat.le_of_ble_eq_true rfl)) dS_headerBlock_4 ⟨Nat.le_of_ble_eq_true rfl, Nat.le_of_ble_eq_true rfl⟩) (fun r1 e2 => ?_)
  obtain rfl : r1 = 0 := e2
  exact W.iret (v := 0) hx hb hr (fun t ht hW => ⟨0, rfl, rfl, ht⟩) (fun q h => by cases h) dS_headerBlock_7

set_option maxHeartbeats 4000000 in
set_option maxRecDepth 100000 in
theorem c_hb2 (l : Launch) (dC : Nat → ClassId) (dI : Nat → Nat → Nat) (cI cZ cJ cT : ClassId) : Met l yS_headerBlock (Cond.code yS_headerBlock cS_headerBlock 1 (some .int) :: wsA) ({ frames := 1, cells := 0, slots := 0, locals := 22 }) (va_Pc [.int 2] (fun U => va_P (dC, dI) vwC [] U.heap ∧ KK dC dI cI cZ cJ cT U)) (vp_Si (fun r => r = 1)) 0 0 (fun _ => False) := by
  refine Met.ofW (cc := cS_headerBlock) (maxL := 1) (ret := (some .int)) (by decide) rfl ?_
  intro p e s m args below meth c s₁ B hml hv
  obtain ⟨rfl, hP, hKK⟩ := hv
  have hK := hKK.1
  have hx := B.exec
  have hb := B.bytes
  have hr := B.returns
  have hw : ∀ w ∈ wsA, w.before _ s = true := fun w h => atoms_spec (ws := (Cond.code yS_headerBlock cS_headerBlock 1 (some .int) :: wsA)) B.pre w (List.mem_cons_of_mem _ h)
  have hown : s.vm.findClass "LoggedStore" = some m.cls := findClass_of_methodNamed B.named
  have hlocks := B.notSynchronized
  have hl := lv_entry ([.int 2]) (n := 1) (Nat.le_of_ble_eq_true rfl)
  rw [lg_entry_eq]
  generalize (lg_sl ([.int 2]) ++ List.replicate (1 - (lg_sl ([.int 2])).length) Slot.unset).toArray = ls at hl ⊢
  have hl : lv_has ls 1 [(0, .int 2)] := hl
  refine lv_iload_n hx hb dS_headerBlock_0 rfl (lv_at hl 0 rfl) ?_
  refine lv_iconst (v := 1) hx hb dS_headerBlock_1 (by decide) ?_
  refine lv_iadd hx hb dS_headerBlock_2 ?_
  refine lv_topi (nm_r (e' := 3) (by decide +kernel) ?_)
  refine lv_iconst (v := 2) hx hb dS_headerBlock_3 (by decide) ?_
  have hPc := hP.sub (ws' := []) [] rfl
  refine vp_callSi (W.runS (As := [.int 3, .int 2]) (rest := []) ⟨hx, hb, hml, hown, hw⟩ (c_fm32 l dC dI cI cZ cJ cT) ⟨callB_of 2 hw (gA0 w143) rfl rfl rfl (hw _ w44) (hw _ w141) (by decide +kernel) ⟨Nat.le_of_ble_eq_true rfl, Nat.le_of_ble_eq_true rfl⟩, (hw _ w142)⟩ ⟨kb_S, fun U hU hW => ⟨rfl, by rw [hU]; exact hPc, hKK.moved hW⟩⟩ rfl rfl hl.1 rfl (lv_room (Nat.le_of_ble_eq_true rfl)) dS_headerBlock_4 ⟨Nat.le_of_ble_eq_true rfl, Nat.le_of_ble_eq_true rfl⟩) (fun r1 e2 => ?_)
  obtain rfl : r1 = 1 := e2
  exact W.iret (v := 1) hx hb hr (fun t ht hW => ⟨1, rfl, rfl, ht⟩) (fun q h => by cases h) dS_headerBlock_7

set_option maxHeartbeats 4000000 in
set_option maxRecDepth 100000 in
theorem c_chk (l : Launch) (dC : Nat → ClassId) (dI : Nat → Nat → Nat) (cI cZ cJ cT : ClassId) (k a b c9 : Int32) : Met l yD_checkOf (Cond.code yD_checkOf cD_checkOf 4 (some .int) :: wsA) ({ frames := 0, cells := 0, slots := 0, locals := 0 }) (va_Pc [.int k, .int a, .int b, .int c9] (fun U => va_P (dC, dI) vwC [] U.heap ∧ KK dC dI cI cZ cJ cT U)) (vp_Si (fun r => r = ((((65536 * a) + b) ^^^ (c9 * 1664525)) ^^^ (1013904223 + (97 * k))))) 0 0 (fun _ => False) := by
  refine Met.ofW (cc := cD_checkOf) (maxL := 4) (ret := (some .int)) (by decide) rfl ?_
  intro p e s m args below meth c s₁ B hml hv
  obtain ⟨rfl, hP, hKK⟩ := hv
  have hK := hKK.1
  have hx := B.exec
  have hb := B.bytes
  have hr := B.returns
  have hw : ∀ w ∈ wsA, w.before _ s = true := fun w h => atoms_spec (ws := (Cond.code yD_checkOf cD_checkOf 4 (some .int) :: wsA)) B.pre w (List.mem_cons_of_mem _ h)
  have hown : s.vm.findClass "LoggedStore$Disk" = some m.cls := findClass_of_methodNamed B.named
  have hlocks := B.notSynchronized
  have hl := lv_entry ([.int k, .int a, .int b, .int c9]) (n := 4) (Nat.le_of_ble_eq_true rfl)
  rw [lg_entry_eq]
  generalize (lg_sl ([.int k, .int a, .int b, .int c9]) ++ List.replicate (4 - (lg_sl ([.int k, .int a, .int b, .int c9])).length) Slot.unset).toArray = ls at hl ⊢
  have hl : lv_has ls 4 [(0, .int k), (1, .int a), (2, .int b), (3, .int c9)] := hl
  refine lv_ldc (v := 65536) hx hb hown (hw _ w147) dD_checkOf_0 ?_
  refine lv_iload_n hx hb dD_checkOf_2 rfl (lv_at hl 1 rfl) ?_
  refine lv_imul hx hb dD_checkOf_3 ?_
  refine lv_iload_n hx hb dD_checkOf_4 rfl (lv_at hl 2 rfl) ?_
  refine lv_iadd hx hb dD_checkOf_5 ?_
  refine lv_iload_n hx hb dD_checkOf_6 rfl (lv_at hl 3 rfl) ?_
  refine lv_ldc (v := 1664525) hx hb hown (hw _ w148) dD_checkOf_7 ?_
  refine lv_imul hx hb dD_checkOf_9 ?_
  refine lv_ixor hx hb dD_checkOf_10 ?_
  refine lv_ldc (v := 1013904223) hx hb hown (hw _ w149) dD_checkOf_11 ?_
  refine lv_bipush (v := 97) hx hb dD_checkOf_13 (by decide) ?_
  refine lv_iload_n hx hb dD_checkOf_15 rfl (lv_at hl 0 rfl) ?_
  refine lv_imul hx hb dD_checkOf_16 ?_
  refine lv_iadd hx hb dD_checkOf_17 ?_
  refine lv_ixor hx hb dD_checkOf_18 ?_
  exact W.iret (v := ((((65536 * a) + b) ^^^ (c9 * 1664525)) ^^^ (1013904223 + (97 * k)))) hx hb hr (fun t ht hW => ⟨((((65536 * a) + b) ^^^ (c9 * 1664525)) ^^^ (1013904223 + (97 * k))), rfl, rfl, ht⟩) (fun q h => by cases h) dD_checkOf_19

set_option maxHeartbeats 4000000 in
set_option maxRecDepth 100000 in
theorem c_setWords0 (l : Launch) (dC : Nat → ClassId) (dI : Nat → Nat → Nat) (cI cZ cJ cT : ClassId) (d w : Nat) (a b c9 e9 : Int32) (f : Nat → Int32) (sz : Nat) : Met l yD_setWords (Cond.code yD_setWords cD_setWords 8 none :: wsA) ({ frames := 0, cells := 0, slots := 0, locals := 0 }) (va_Pc [.ref d, .int 0, .int 4, .int a, .int b, .int c9, .int e9] (fun U => U.heap.size = sz ∧ va_P (dC, dI) vwC [(d, .inr (0, [.ref w, .int (-1), .int 0, .int 0])), (w, .inl (cI, 384, .inl f))] U.heap ∧ KK dC dI cI cZ cJ cT U ∧ va_D (fun _ => True) [(d, .inr (0, [.ref w, .int (-1), .int 0, .int 0])), (w, .inl (cI, 384, .inl f))])) (va_Qv (S := Nat → Nat) (fun _ => True) (fun u t => va_P (dC, dI) vwC [(d, .inr (0, [.ref w, .int (-1), .int 0, .int 0])), (w, .inl (cI, 384, .inl (upd (upd (upd (upd f (0 : Int32).toNatClampNeg a) (1 : Int32).toNatClampNeg b) (2 : Int32).toNatClampNeg c9) (3 : Int32).toNatClampNeg e9)))] t.heap ∧ va_D (va_A [(d, .inr (0, [.ref w, .int (-1), .int 0, .int 0])), (w, .inl (cI, 384, .inl f))] sz) [(d, .inr (0, [.ref w, .int (-1), .int 0, .int 0])), (w, .inl (cI, 384, .inl (upd (upd (upd (upd f (0 : Int32).toNatClampNeg a) (1 : Int32).toNatClampNeg b) (2 : Int32).toNatClampNeg c9) (3 : Int32).toNatClampNeg e9)))]) (va_A [(d, .inr (0, [.ref w, .int (-1), .int 0, .int 0])), (w, .inl (cI, 384, .inl f))] sz)) 0 0 (va_A [(d, .inr (0, [.ref w, .int (-1), .int 0, .int 0])), (w, .inl (cI, 384, .inl f))] sz) := by
  refine Met.ofW (cc := cD_setWords) (maxL := 8) (ret := none) (by decide) rfl ?_
  intro p e s m args below meth c s₁ B hml hv
  obtain ⟨rfl, hsz, hP, hKK, hD0⟩ := hv
  have hK := hKK.1
  have hx := B.exec
  have hb := B.bytes
  have hr := B.returns
  have hw : ∀ w ∈ wsA, w.before _ s = true := fun w h => atoms_spec (ws := (Cond.code yD_setWords cD_setWords 8 none :: wsA)) B.pre w (List.mem_cons_of_mem _ h)
  have hown : s.vm.findClass "LoggedStore$Disk" = some m.cls := findClass_of_methodNamed B.named
  have hlocks := B.notSynchronized
  subst hsz
  have hD := hD0.self (sz := s.heap.size)
  generalize hAe : va_A [(d, .inr (0, [.ref w, .int (-1), .int 0, .int 0])), (w, .inl (cI, 384, .inl f))] s.heap.size = A at hD ⊢
  have hA : ∀ q : Nat, s.heap.size ≤ q → A q := fun q h => by rw [← hAe]; exact Or.inr h
  have hS : va_S A s.heap s.heap [] := va_S.rf
  have hl := lv_entry ([.ref d, .int 0, .int 4, .int a, .int b, .int c9, .int e9]) (n := 8) (Nat.le_of_ble_eq_true rfl)
  rw [lg_entry_eq]
  generalize (lg_sl ([.ref d, .int 0, .int 4, .int a, .int b, .int c9, .int e9]) ++ List.replicate (8 - (lg_sl ([.ref d, .int 0, .int 4, .int a, .int b, .int c9, .int e9])).length) Slot.unset).toArray = ls at hl ⊢
  have hl : lv_has ls 8 [(0, .ref d), (1, .int 0), (2, .int 4), (3, .int a), (4, .int b), (5, .int c9), (6, .int e9)] := hl
  refine lv_iconst (v := 4) hx hb dD_setWords_0 (by decide) ?_
  refine lv_iload_n hx hb dD_setWords_1 rfl (lv_at hl 1 rfl) ?_
  refine lv_imul hx hb dD_setWords_2 ?_
  refine lv_topi (nm_r (e' := 0) (by decide +kernel) ?_)
  refine lv_istore hx hb dD_setWords_3 hl (by decide) rfl (fun ls hl => ?_)
  have hl : lv_has ls 8 [(7, .int 0), (0, .ref d), (1, .int 0), (2, .int 4), (3, .int a), (4, .int b), (5, .int c9), (6, .int e9)] := hl
  refine lv_iload_n hx hb dD_setWords_5 rfl (lv_at hl 3 rfl) ?_
  refine lv_if_le (tgt := 17) hx hb dD_setWords_6 (by decide) (fun h9 => absurd h9 (by decide)) (fun _ => ?_)
  refine lv_aload_n hx hb dD_setWords_9 rfl (lv_at hl 1 rfl) ?_
  refine va_get (D := (dC, dI)) (ci := 0) (v := .ref w) (C := "LoggedStore$Disk") (T := uD) (N := 4) hx hb hw inD hown hK hP 0 rfl rfl 0 (by decide) (hw _ w69) (fun _ h9 => h9) rfl dD_setWords_10 ?_
  refine lv_iload hx hb dD_setWords_13 (lv_at hl 0 rfl) ?_
  refine lv_iload_n hx hb dD_setWords_15 rfl (lv_at hl 4 rfl) ?_
  refine va_iast hx hb hK hP hD hS 1 0 rfl rfl (tv_in (by decide +kernel)) dD_setWords_16 (fun H locs hP hD hS => ?_)
  have hP : va_P (dC, dI) vwC [(d, .inr (0, [.ref w, .int (-1), .int 0, .int 0])), (w, .inl (cI, 384, .inl (upd f (0 : Int32).toNatClampNeg a)))] H := hP
  have hD : va_D A [(d, .inr (0, [.ref w, .int (-1), .int 0, .int 0])), (w, .inl (cI, 384, .inl (upd f (0 : Int32).toNatClampNeg a)))] := hD
  refine lv_iload_n hx hb dD_setWords_17 rfl (lv_at hl 3 rfl) ?_
  refine lv_iconst (v := 1) hx hb dD_setWords_18 (by decide) ?_
  refine lv_icmp_le (tgt := 33) hx hb dD_setWords_19 (by decide) (fun h9 => absurd h9 (by decide)) (fun _ => ?_)
  refine lv_aload_n hx hb dD_setWords_22 rfl (lv_at hl 1 rfl) ?_
  refine va_get (D := (dC, dI)) (ci := 0) (v := .ref w) (C := "LoggedStore$Disk") (T := uD) (N := 4) hx hb hw inD hown hK hP 0 rfl rfl 0 (by decide) (hw _ w69) (fun _ h9 => h9) rfl dD_setWords_23 ?_
  refine lv_iload hx hb dD_setWords_26 (lv_at hl 0 rfl) ?_
  refine lv_iconst (v := 1) hx hb dD_setWords_28 (by decide) ?_
  refine lv_iadd hx hb dD_setWords_29 ?_
  refine lv_topi (nm_r (e' := 1) (by decide +kernel) ?_)
  refine lv_iload hx hb dD_setWords_30 (lv_at hl 5 rfl) ?_
  refine va_iast hx hb hK hP hD hS 1 0 rfl rfl (tv_in (by decide +kernel)) dD_setWords_32 (fun H locs hP hD hS => ?_)
  have hP : va_P (dC, dI) vwC [(d, .inr (0, [.ref w, .int (-1), .int 0, .int 0])), (w, .inl (cI, 384, .inl (upd (upd f (0 : Int32).toNatClampNeg a) (1 : Int32).toNatClampNeg b)))] H := hP
  have hD : va_D A [(d, .inr (0, [.ref w, .int (-1), .int 0, .int 0])), (w, .inl (cI, 384, .inl (upd (upd f (0 : Int32).toNatClampNeg a) (1 : Int32).toNatClampNeg b)))] := hD
  refine lv_iload_n hx hb dD_setWords_33 rfl (lv_at hl 3 rfl) ?_
  refine lv_iconst (v := 2) hx hb dD_setWords_34 (by decide) ?_
  refine lv_icmp_le (tgt := 49) hx hb dD_setWords_35 (by decide) (fun h9 => absurd h9 (by decide)) (fun _ => ?_)
  refine lv_aload_n hx hb dD_setWords_38 rfl (lv_at hl 1 rfl) ?_
  refine va_get (D := (dC, dI)) (ci := 0) (v := .ref w) (C := "LoggedStore$Disk") (T := uD) (N := 4) hx hb hw inD hown hK hP 0 rfl rfl 0 (by decide) (hw _ w69) (fun _ h9 => h9) rfl dD_setWords_39 ?_
  refine lv_iload hx hb dD_setWords_42 (lv_at hl 0 rfl) ?_
  refine lv_iconst (v := 2) hx hb dD_setWords_44 (by decide) ?_
  refine lv_iadd hx hb dD_setWords_45 ?_
  refine lv_topi (nm_r (e' := 2) (by decide +kernel) ?_)
  refine lv_iload hx hb dD_setWords_46 (lv_at hl 6 rfl) ?_
  refine va_iast hx hb hK hP hD hS 1 0 rfl rfl (tv_in (by decide +kernel)) dD_setWords_48 (fun H locs hP hD hS => ?_)
  have hP : va_P (dC, dI) vwC [(d, .inr (0, [.ref w, .int (-1), .int 0, .int 0])), (w, .inl (cI, 384, .inl (upd (upd (upd f (0 : Int32).toNatClampNeg a) (1 : Int32).toNatClampNeg b) (2 : Int32).toNatClampNeg c9)))] H := hP
  have hD : va_D A [(d, .inr (0, [.ref w, .int (-1), .int 0, .int 0])), (w, .inl (cI, 384, .inl (upd (upd (upd f (0 : Int32).toNatClampNeg a) (1 : Int32).toNatClampNeg b) (2 : Int32).toNatClampNeg c9)))] := hD
  refine lv_iload_n hx hb dD_setWords_49 rfl (lv_at hl 3 rfl) ?_
  refine lv_iconst (v := 3) hx hb dD_setWords_50 (by decide) ?_
  refine lv_icmp_le (tgt := 65) hx hb dD_setWords_51 (by decide) (fun h9 => absurd h9 (by decide)) (fun _ => ?_)
  refine lv_aload_n hx hb dD_setWords_54 rfl (lv_at hl 1 rfl) ?_
  refine va_get (D := (dC, dI)) (ci := 0) (v := .ref w) (C := "LoggedStore$Disk") (T := uD) (N := 4) hx hb hw inD hown hK hP 0 rfl rfl 0 (by decide) (hw _ w69) (fun _ h9 => h9) rfl dD_setWords_55 ?_
  refine lv_iload hx hb dD_setWords_58 (lv_at hl 0 rfl) ?_
  refine lv_iconst (v := 3) hx hb dD_setWords_60 (by decide) ?_
  refine lv_iadd hx hb dD_setWords_61 ?_
  refine lv_topi (nm_r (e' := 3) (by decide +kernel) ?_)
  refine lv_iload hx hb dD_setWords_62 (lv_at hl 7 rfl) ?_
  refine va_iast hx hb hK hP hD hS 1 0 rfl rfl (tv_in (by decide +kernel)) dD_setWords_64 (fun H locs hP hD hS => ?_)
  have hP : va_P (dC, dI) vwC [(d, .inr (0, [.ref w, .int (-1), .int 0, .int 0])), (w, .inl (cI, 384, .inl (upd (upd (upd (upd f (0 : Int32).toNatClampNeg a) (1 : Int32).toNatClampNeg b) (2 : Int32).toNatClampNeg c9) (3 : Int32).toNatClampNeg e9)))] H := hP
  have hD : va_D A [(d, .inr (0, [.ref w, .int (-1), .int 0, .int 0])), (w, .inl (cI, 384, .inl (upd (upd (upd (upd f (0 : Int32).toNatClampNeg a) (1 : Int32).toNatClampNeg b) (2 : Int32).toNatClampNeg c9) (3 : Int32).toNatClampNeg e9)))] := hD
  have hP9 := hP.sub (ws' := [(d, .inr (0, [.ref w, .int (-1), .int 0, .int 0])), (w, .inl (cI, 384, .inl (upd (upd (upd (upd f (0 : Int32).toNatClampNeg a) (1 : Int32).toNatClampNeg b) (2 : Int32).toNatClampNeg c9) (3 : Int32).toNatClampNeg e9)))]) [0, 1] rfl
  have hD9 := hD.sub (ws' := [(d, .inr (0, [.ref w, .int (-1), .int 0, .int 0])), (w, .inl (cI, 384, .inl (upd (upd (upd (upd f (0 : Int32).toNatClampNeg a) (1 : Int32).toNatClampNeg b) (2 : Int32).toNatClampNeg c9) (3 : Int32).toNatClampNeg e9)))]) [0, 1] (by decide) rfl
  refine W.widen (k := 0) (n := 0) (by decide) (by decide) ?_
  exact W.vret hx hb hr (fun t ht hW => ⟨⟨fun _ => 0, rfl, trivial, by rw [ht]; exact hP9, hD9⟩, hS.F ht⟩) hS.2.2 dD_setWords_65

set_option maxHeartbeats 4000000 in
set_option maxRecDepth 100000 in
theorem c_setWords1 (l : Launch) (dC : Nat → ClassId) (dI : Nat → Nat → Nat) (cI cZ cJ cT : ClassId) (d w : Nat) (a b c9 e9 : Int32) (f : Nat → Int32) (sz : Nat) : Met l yD_setWords (Cond.code yD_setWords cD_setWords 8 none :: wsA) ({ frames := 0, cells := 0, slots := 0, locals := 0 }) (va_Pc [.ref d, .int 1, .int 4, .int a, .int b, .int c9, .int e9] (fun U => U.heap.size = sz ∧ va_P (dC, dI) vwC [(d, .inr (0, [.ref w, .int (-1), .int 0, .int 0])), (w, .inl (cI, 384, .inl f))] U.heap ∧ KK dC dI cI cZ cJ cT U ∧ va_D (fun _ => True) [(d, .inr (0, [.ref w, .int (-1), .int 0, .int 0])), (w, .inl (cI, 384, .inl f))])) (va_Qv (S := Nat → Nat) (fun _ => True) (fun u t => va_P (dC, dI) vwC [(d, .inr (0, [.ref w, .int (-1), .int 0, .int 0])), (w, .inl (cI, 384, .inl (upd (upd (upd (upd f (4 : Int32).toNatClampNeg a) (5 : Int32).toNatClampNeg b) (6 : Int32).toNatClampNeg c9) (7 : Int32).toNatClampNeg e9)))] t.heap ∧ va_D (va_A [(d, .inr (0, [.ref w, .int (-1), .int 0, .int 0])), (w, .inl (cI, 384, .inl f))] sz) [(d, .inr (0, [.ref w, .int (-1), .int 0, .int 0])), (w, .inl (cI, 384, .inl (upd (upd (upd (upd f (4 : Int32).toNatClampNeg a) (5 : Int32).toNatClampNeg b) (6 : Int32).toNatClampNeg c9) (7 : Int32).toNatClampNeg e9)))]) (va_A [(d, .inr (0, [.ref w, .int (-1), .int 0, .int 0])), (w, .inl (cI, 384, .inl f))] sz)) 0 0 (va_A [(d, .inr (0, [.ref w, .int (-1), .int 0, .int 0])), (w, .inl (cI, 384, .inl f))] sz) := by
  refine Met.ofW (cc := cD_setWords) (maxL := 8) (ret := none) (by decide) rfl ?_
  intro p e s m args below meth c s₁ B hml hv
  obtain ⟨rfl, hsz, hP, hKK, hD0⟩ := hv
  have hK := hKK.1
  have hx := B.exec
  have hb := B.bytes
  have hr := B.returns
  have hw : ∀ w ∈ wsA, w.before _ s = true := fun w h => atoms_spec (ws := (Cond.code yD_setWords cD_setWords 8 none :: wsA)) B.pre w (List.mem_cons_of_mem _ h)
  have hown : s.vm.findClass "LoggedStore$Disk" = some m.cls := findClass_of_methodNamed B.named
  have hlocks := B.notSynchronized
  subst hsz
  have hD := hD0.self (sz := s.heap.size)
  generalize hAe : va_A [(d, .inr (0, [.ref w, .int (-1), .int 0, .int 0])), (w, .inl (cI, 384, .inl f))] s.heap.size = A at hD ⊢
  have hA : ∀ q : Nat, s.heap.size ≤ q → A q := fun q h => by rw [← hAe]; exact Or.inr h
  have hS : va_S A s.heap s.heap [] := va_S.rf
  have hl := lv_entry ([.ref d, .int 1, .int 4, .int a, .int b, .int c9, .int e9]) (n := 8) (Nat.le_of_ble_eq_true rfl)
  rw [lg_entry_eq]
  generalize (lg_sl ([.ref d, .int 1, .int 4, .int a, .int b, .int c9, .int e9]) ++ List.replicate (8 - (lg_sl ([.ref d, .int 1, .int 4, .int a, .int b, .int c9, .int e9])).length) Slot.unset).toArray = ls at hl ⊢
  have hl : lv_has ls 8 [(0, .ref d), (1, .int 1), (2, .int 4), (3, .int a), (4, .int b), (5, .int c9), (6, .int e9)] := hl
  refine lv_iconst (v := 4) hx hb dD_setWords_0 (by decide) ?_
  refine lv_iload_n hx hb dD_setWords_1 rfl (lv_at hl 1 rfl) ?_
  refine lv_imul hx hb dD_setWords_2 ?_
  refine lv_topi (nm_r (e' := 4) (by decide +kernel) ?_)
  refine lv_istore hx hb dD_setWords_3 hl (by decide) rfl (fun ls hl => ?_)
  have hl : lv_has ls 8 [(7, .int 4), (0, .ref d), (1, .int 1), (2, .int 4), (3, .int a), (4, .int b), (5, .int c9), (6, .int e9)] := hl
  refine lv_iload_n hx hb dD_setWords_5 rfl (lv_at hl 3 rfl) ?_
  refine lv_if_le (tgt := 17) hx hb dD_setWords_6 (by decide) (fun h9 => absurd h9 (by decide)) (fun _ => ?_)
  refine lv_aload_n hx hb dD_setWords_9 rfl (lv_at hl 1 rfl) ?_
  refine va_get (D := (dC, dI)) (ci := 0) (v := .ref w) (C := "LoggedStore$Disk") (T := uD) (N := 4) hx hb hw inD hown hK hP 0 rfl rfl 0 (by decide) (hw _ w69) (fun _ h9 => h9) rfl dD_setWords_10 ?_
  refine lv_iload hx hb dD_setWords_13 (lv_at hl 0 rfl) ?_
  refine lv_iload_n hx hb dD_setWords_15 rfl (lv_at hl 4 rfl) ?_
  refine va_iast hx hb hK hP hD hS 1 0 rfl rfl (tv_in (by decide +kernel)) dD_setWords_16 (fun H locs hP hD hS => ?_)
  have hP : va_P (dC, dI) vwC [(d, .inr (0, [.ref w, .int (-1), .int 0, .int 0])), (w, .inl (cI, 384, .inl (upd f (4 : Int32).toNatClampNeg a)))] H := hP
  have hD : va_D A [(d, .inr (0, [.ref w, .int (-1), .int 0, .int 0])), (w, .inl (cI, 384, .inl (upd f (4 : Int32).toNatClampNeg a)))] := hD
  refine lv_iload_n hx hb dD_setWords_17 rfl (lv_at hl 3 rfl) ?_
  refine lv_iconst (v := 1) hx hb dD_setWords_18 (by decide) ?_
  refine lv_icmp_le (tgt := 33) hx hb dD_setWords_19 (by decide) (fun h9 => absurd h9 (by decide)) (fun _ => ?_)
  refine lv_aload_n hx hb dD_setWords_22 rfl (lv_at hl 1 rfl) ?_
  refine va_get (D := (dC, dI)) (ci := 0) (v := .ref w) (C := "LoggedStore$Disk") (T := uD) (N := 4) hx hb hw inD hown hK hP 0 rfl rfl 0 (by decide) (hw _ w69) (fun _ h9 => h9) rfl dD_setWords_23 ?_
  refine lv_iload hx hb dD_setWords_26 (lv_at hl 0 rfl) ?_
  refine lv_iconst (v := 1) hx hb dD_setWords_28 (by decide) ?_
  refine lv_iadd hx hb dD_setWords_29 ?_
  refine lv_topi (nm_r (e' := 5) (by decide +kernel) ?_)
  refine lv_iload hx hb dD_setWords_30 (lv_at hl 5 rfl) ?_
  refine va_iast hx hb hK hP hD hS 1 0 rfl rfl (tv_in (by decide +kernel)) dD_setWords_32 (fun H locs hP hD hS => ?_)
  have hP : va_P (dC, dI) vwC [(d, .inr (0, [.ref w, .int (-1), .int 0, .int 0])), (w, .inl (cI, 384, .inl (upd (upd f (4 : Int32).toNatClampNeg a) (5 : Int32).toNatClampNeg b)))] H := hP
  have hD : va_D A [(d, .inr (0, [.ref w, .int (-1), .int 0, .int 0])), (w, .inl (cI, 384, .inl (upd (upd f (4 : Int32).toNatClampNeg a) (5 : Int32).toNatClampNeg b)))] := hD
  refine lv_iload_n hx hb dD_setWords_33 rfl (lv_at hl 3 rfl) ?_
  refine lv_iconst (v := 2) hx hb dD_setWords_34 (by decide) ?_
  refine lv_icmp_le (tgt := 49) hx hb dD_setWords_35 (by decide) (fun h9 => absurd h9 (by decide)) (fun _ => ?_)
  refine lv_aload_n hx hb dD_setWords_38 rfl (lv_at hl 1 rfl) ?_
  refine va_get (D := (dC, dI)) (ci := 0) (v := .ref w) (C := "LoggedStore$Disk") (T := uD) (N := 4) hx hb hw inD hown hK hP 0 rfl rfl 0 (by decide) (hw _ w69) (fun _ h9 => h9) rfl dD_setWords_39 ?_
  refine lv_iload hx hb dD_setWords_42 (lv_at hl 0 rfl) ?_
  refine lv_iconst (v := 2) hx hb dD_setWords_44 (by decide) ?_
  refine lv_iadd hx hb dD_setWords_45 ?_
  refine lv_topi (nm_r (e' := 6) (by decide +kernel) ?_)
  refine lv_iload hx hb dD_setWords_46 (lv_at hl 6 rfl) ?_
  refine va_iast hx hb hK hP hD hS 1 0 rfl rfl (tv_in (by decide +kernel)) dD_setWords_48 (fun H locs hP hD hS => ?_)
  have hP : va_P (dC, dI) vwC [(d, .inr (0, [.ref w, .int (-1), .int 0, .int 0])), (w, .inl (cI, 384, .inl (upd (upd (upd f (4 : Int32).toNatClampNeg a) (5 : Int32).toNatClampNeg b) (6 : Int32).toNatClampNeg c9)))] H := hP
  have hD : va_D A [(d, .inr (0, [.ref w, .int (-1), .int 0, .int 0])), (w, .inl (cI, 384, .inl (upd (upd (upd f (4 : Int32).toNatClampNeg a) (5 : Int32).toNatClampNeg b) (6 : Int32).toNatClampNeg c9)))] := hD
  refine lv_iload_n hx hb dD_setWords_49 rfl (lv_at hl 3 rfl) ?_
  refine lv_iconst (v := 3) hx hb dD_setWords_50 (by decide) ?_
  refine lv_icmp_le (tgt := 65) hx hb dD_setWords_51 (by decide) (fun h9 => absurd h9 (by decide)) (fun _ => ?_)
  refine lv_aload_n hx hb dD_setWords_54 rfl (lv_at hl 1 rfl) ?_
  refine va_get (D := (dC, dI)) (ci := 0) (v := .ref w) (C := "LoggedStore$Disk") (T := uD) (N := 4) hx hb hw inD hown hK hP 0 rfl rfl 0 (by decide) (hw _ w69) (fun _ h9 => h9) rfl dD_setWords_55 ?_
  refine lv_iload hx hb dD_setWords_58 (lv_at hl 0 rfl) ?_
  refine lv_iconst (v := 3) hx hb dD_setWords_60 (by decide) ?_
  refine lv_iadd hx hb dD_setWords_61 ?_
  refine lv_topi (nm_r (e' := 7) (by decide +kernel) ?_)
  refine lv_iload hx hb dD_setWords_62 (lv_at hl 7 rfl) ?_
  refine va_iast hx hb hK hP hD hS 1 0 rfl rfl (tv_in (by decide +kernel)) dD_setWords_64 (fun H locs hP hD hS => ?_)
  have hP : va_P (dC, dI) vwC [(d, .inr (0, [.ref w, .int (-1), .int 0, .int 0])), (w, .inl (cI, 384, .inl (upd (upd (upd (upd f (4 : Int32).toNatClampNeg a) (5 : Int32).toNatClampNeg b) (6 : Int32).toNatClampNeg c9) (7 : Int32).toNatClampNeg e9)))] H := hP
  have hD : va_D A [(d, .inr (0, [.ref w, .int (-1), .int 0, .int 0])), (w, .inl (cI, 384, .inl (upd (upd (upd (upd f (4 : Int32).toNatClampNeg a) (5 : Int32).toNatClampNeg b) (6 : Int32).toNatClampNeg c9) (7 : Int32).toNatClampNeg e9)))] := hD
  have hP9 := hP.sub (ws' := [(d, .inr (0, [.ref w, .int (-1), .int 0, .int 0])), (w, .inl (cI, 384, .inl (upd (upd (upd (upd f (4 : Int32).toNatClampNeg a) (5 : Int32).toNatClampNeg b) (6 : Int32).toNatClampNeg c9) (7 : Int32).toNatClampNeg e9)))]) [0, 1] rfl
  have hD9 := hD.sub (ws' := [(d, .inr (0, [.ref w, .int (-1), .int 0, .int 0])), (w, .inl (cI, 384, .inl (upd (upd (upd (upd f (4 : Int32).toNatClampNeg a) (5 : Int32).toNatClampNeg b) (6 : Int32).toNatClampNeg c9) (7 : Int32).toNatClampNeg e9)))]) [0, 1] (by decide) rfl
  refine W.widen (k := 0) (n := 0) (by decide) (by decide) ?_
  exact W.vret hx hb hr (fun t ht hW => ⟨⟨fun _ => 0, rfl, trivial, by rw [ht]; exact hP9, hD9⟩, hS.F ht⟩) hS.2.2 dD_setWords_65

set_option maxHeartbeats 4000000 in
set_option maxRecDepth 100000 in
theorem c_format (l : Launch) (dC : Nat → ClassId) (dI : Nat → Nat → Nat) (cI cZ cJ cT : ClassId) (d w : Nat) (sz : Nat) : Met l yD_format (Cond.code yD_format cD_format 2 none :: wsA) ({ frames := 2, cells := 0, slots := 0, locals := 42 }) (va_Pc [.ref d] (fun U => U.heap.size = sz ∧ va_P (dC, dI) vwC [(d, .inr (0, [.ref w, .int (-1), .int 0, .int 0])), (w, .inl (cI, 384, .inl (fun _ => 0)))] U.heap ∧ KK dC dI cI cZ cJ cT U ∧ va_D (fun _ => True) [(d, .inr (0, [.ref w, .int (-1), .int 0, .int 0])), (w, .inl (cI, 384, .inl (fun _ => 0)))])) (va_Qv (S := Nat → Nat) (fun _ => True) (fun u t => va_P (dC, dI) vwC [(d, .inr (0, [.ref w, .int (-1), .int 0, .int 0])), (w, .inl (cI, 384, .inl W0))] t.heap ∧ va_D (va_A [(d, .inr (0, [.ref w, .int (-1), .int 0, .int 0])), (w, .inl (cI, 384, .inl (fun _ => 0)))] sz) [(d, .inr (0, [.ref w, .int (-1), .int 0, .int 0])), (w, .inl (cI, 384, .inl W0))]) (va_A [(d, .inr (0, [.ref w, .int (-1), .int 0, .int 0])), (w, .inl (cI, 384, .inl (fun _ => 0)))] sz)) 0 0 (va_A [(d, .inr (0, [.ref w, .int (-1), .int 0, .int 0])), (w, .inl (cI, 384, .inl (fun _ => 0)))] sz) := by
  refine Met.ofW (cc := cD_format) (maxL := 2) (ret := none) (by decide) rfl ?_
  intro p e s m args below meth c s₁ B hml hv
  obtain ⟨rfl, hsz, hP, hKK, hD0⟩ := hv
  have hK := hKK.1
  have hx := B.exec
  have hb := B.bytes
  have hr := B.returns
  have hw : ∀ w ∈ wsA, w.before _ s = true := fun w h => atoms_spec (ws := (Cond.code yD_format cD_format 2 none :: wsA)) B.pre w (List.mem_cons_of_mem _ h)
  have hown : s.vm.findClass "LoggedStore$Disk" = some m.cls := findClass_of_methodNamed B.named
  have hlocks := B.notSynchronized
  subst hsz
  have hD := hD0.self (sz := s.heap.size)
  generalize hAe : va_A [(d, .inr (0, [.ref w, .int (-1), .int 0, .int 0])), (w, .inl (cI, 384, .inl (fun _ => 0)))] s.heap.size = A at hD ⊢
  have hA : ∀ q : Nat, s.heap.size ≤ q → A q := fun q h => by rw [← hAe]; exact Or.inr h
  have hS : va_S A s.heap s.heap [] := va_S.rf
  have hl := lv_entry ([.ref d]) (n := 2) (Nat.le_of_ble_eq_true rfl)
  rw [lg_entry_eq]
  generalize (lg_sl ([.ref d]) ++ List.replicate (2 - (lg_sl ([.ref d])).length) Slot.unset).toArray = ls at hl ⊢
  have hl : lv_has ls 2 [(0, .ref d)] := hl
  refine lv_iconst (v := 1) hx hb dD_format_0 (by decide) ?_
  have hPc := hP.sub (ws' := []) [] rfl
  refine vp_callSi (tk_run (va_runSN (As := [.int 1]) (rest := []) ⟨hx, hb, hml, hown, hw⟩ (c_hb1 l dC dI cI cZ cJ cT) ⟨va_cnB 1 hw (gA0 w140) rfl rfl rfl hKK.2.n5 (hw _ w40) (by decide +kernel) ⟨Nat.le_of_ble_eq_true rfl, Nat.le_of_ble_eq_true rfl⟩, (hw _ w139), trivial⟩ ⟨kb_S, fun U hU hW => ⟨rfl, by rw [hU]; exact hPc, hKK.moved hW⟩⟩ rfl rfl hl.1 rfl (lv_room (Nat.le_of_ble_eq_true rfl)) dD_format_1 ⟨Nat.le_of_ble_eq_true rfl, Nat.le_of_ble_eq_true rfl⟩)) (fun r1 e2 => ?_)
  obtain rfl : r1 = 0 := e2
  refine lv_istore_n hx hb dD_format_4 rfl hl (by decide) rfl (fun ls hl => ?_)
  have hl : lv_has ls 2 [(1, .int 0), (0, .ref d)] := hl
  refine lv_aload_n hx hb dD_format_5 rfl (lv_at hl 1 rfl) ?_
  refine lv_iload_n hx hb dD_format_6 rfl (lv_at hl 0 rfl) ?_
  refine lv_iconst (v := 4) hx hb dD_format_7 (by decide) ?_
  refine lv_iconst (v := 1) hx hb dD_format_8 (by decide) ?_
  refine lv_iconst (v := 0) hx hb dD_format_9 (by decide) ?_
  refine lv_iconst (v := 0) hx hb dD_format_10 (by decide) ?_
  refine lv_iload_n hx hb dD_format_11 rfl (lv_at hl 0 rfl) ?_
  refine lv_iconst (v := 1) hx hb dD_format_12 (by decide) ?_
  refine lv_iconst (v := 0) hx hb dD_format_13 (by decide) ?_
  refine lv_iconst (v := 0) hx hb dD_format_14 (by decide) ?_
  have hPc := hP.sub (ws' := []) [] rfl
  refine vp_callSi (W.runS (As := [.int 0, .int 1, .int 0, .int 0]) (rest := [.int 0, .int 0, .int 1, .int 4, .int 0, .ref d]) ⟨hx, hb, hml, hown, hw⟩ (c_chk l dC dI cI cZ cJ cT 0 1 0 0) ⟨callB_of 4 hw (gA0 w146) rfl rfl rfl (hw _ w41) (hw _ w144) (by decide +kernel) ⟨Nat.le_of_ble_eq_true rfl, Nat.le_of_ble_eq_true rfl⟩, (hw _ w145)⟩ ⟨kb_S, fun U hU hW => ⟨rfl, by rw [hU]; exact hPc, hKK.moved hW⟩⟩ rfl rfl hl.1 rfl (lv_room (Nat.le_of_ble_eq_true rfl)) dD_format_15 ⟨Nat.le_of_ble_eq_true rfl, Nat.le_of_ble_eq_true rfl⟩) (fun r3 e4 => ?_)
  obtain rfl : r3 = 1013969759 := e4.trans (by decide +kernel)
  have hPc := hP.sub (ws' := [(d, .inr (0, [.ref w, .int (-1), .int 0, .int 0])), (w, .inl (cI, 384, .inl (fun _ => 0)))]) [0, 1] rfl
  have hDc := hD.sub (ws' := [(d, .inr (0, [.ref w, .int (-1), .int 0, .int 0])), (w, .inl (cI, 384, .inl (fun _ => 0)))]) [0, 1] (by decide) rfl
  have hFc := va_free (wc := [(d, .inr (0, [.ref w, .int (-1), .int 0, .int 0])), (w, .inl (cI, 384, .inl (fun _ => 0)))]) hD hS hA [0, 1] rfl
  refine va_callv (va_runV (C := "LoggedStore$Disk") (b := d) (As := [.int 0, .int 4, .int 1, .int 0, .int 0, .int 1013969759]) (rest := []) ⟨hx, hb, hml, hown, hw⟩ (c_setWords0 l dC dI cI cZ cJ cT d w 1 0 0 1013969759 (fun _ => 0) s.heap.size) ⟨callB_of 6 hw (gA0 w153) rfl rfl rfl (hw _ w41) (hw _ w150) (by decide +kernel) ⟨Nat.le_of_ble_eq_true rfl, Nat.le_of_ble_eq_true rfl⟩, (hw _ w152), (hw _ w0)⟩ ⟨kb_Q, va_recv (ci := 0) (q0 := 0) hK hP rfl rfl, fun U hU hW => ⟨rfl, by rw [hU], by rw [hU]; exact hPc, hKK.moved hW, hDc.weaken (fun _ _ _ _ => trivial)⟩⟩ rfl rfl hl.1 rfl (lv_room (Nat.le_of_ble_eq_true rfl)) dD_format_18 ⟨Nat.le_of_ble_eq_true rfl, Nat.le_of_ble_eq_true rfl⟩) hS (fun q _ h => hFc q h) hFc (fun u6 t H1 locs ht hvm he9 hB hz1 hk1 hS => ?_)
  obtain ⟨hP1, hD1⟩ := hB
  rw [ht] at hP1
  obtain ⟨hP, hD⟩ := va_join (wr := []) (w1 := [(d, .inr (0, [.ref w, .int (-1), .int 0, .int 0])), (w, .inl (cI, 384, .inl W0))]) hP hD [0, 1] [] rfl rfl (by decide) (by decide) hk1 hFc hP1 hD1
  generalize H1 = H at hP hS ⊢
  have hP : va_P (dC, dI) vwC [(d, .inr (0, [.ref w, .int (-1), .int 0, .int 0])), (w, .inl (cI, 384, .inl W0))] H := hP
  have hD : va_D A [(d, .inr (0, [.ref w, .int (-1), .int 0, .int 0])), (w, .inl (cI, 384, .inl W0))] := hD
  have hP9 := hP.sub (ws' := [(d, .inr (0, [.ref w, .int (-1), .int 0, .int 0])), (w, .inl (cI, 384, .inl W0))]) [0, 1] rfl
  have hD9 := hD.sub (ws' := [(d, .inr (0, [.ref w, .int (-1), .int 0, .int 0])), (w, .inl (cI, 384, .inl W0))]) [0, 1] (by decide) rfl
  refine W.widen (k := 0) (n := 0) (by decide) (by decide) ?_
  exact W.vret hx hb hr (fun t ht hW => ⟨⟨fun _ => 0, rfl, trivial, by rw [ht]; exact hP9, hD9⟩, hS.F ht⟩) hS.2.2 dD_format_21

set_option maxHeartbeats 4000000 in
set_option maxRecDepth 100000 in
theorem c_D_init (l : Launch) (dC : Nat → ClassId) (dI : Nat → Nat → Nat) (cI cZ cJ cT : ClassId) (d : Nat) (sz : Nat) : Met l yD_init (Cond.code yD_init cD_init 1 none :: wsA) ({ frames := 1, cells := 1, slots := 384, locals := 12 }) (va_Pc [.ref d] (fun U => U.heap.size = sz ∧ va_P (dC, dI) vwC [(d, .inr (0, [.null, .int 0, .int 0, .int 0]))] U.heap ∧ KK dC dI cI cZ cJ cT U ∧ va_D (fun _ => True) [(d, .inr (0, [.null, .int 0, .int 0, .int 0]))])) (va_Qv (S := Nat → Nat) (fun _ => True) (fun u t => va_P (dC, dI) vwC [(d, .inr (0, [.ref (u 0), .int (-1), .int 0, .int 0])), ((u 0), .inl (cI, 384, .inl (fun _ => 0)))] t.heap ∧ va_D (va_A [(d, .inr (0, [.null, .int 0, .int 0, .int 0]))] sz) [(d, .inr (0, [.ref (u 0), .int (-1), .int 0, .int 0])), ((u 0), .inl (cI, 384, .inl (fun _ => 0)))]) (va_A [(d, .inr (0, [.null, .int 0, .int 0, .int 0]))] sz)) 1 384 (va_A [(d, .inr (0, [.null, .int 0, .int 0, .int 0]))] sz) := by
  refine Met.ofW (cc := cD_init) (maxL := 1) (ret := none) (by decide) rfl ?_
  intro p e s m args below meth c s₁ B hml hv
  obtain ⟨rfl, hsz, hP, hKK, hD0⟩ := hv
  have hK := hKK.1
  have hx := B.exec
  have hb := B.bytes
  have hr := B.returns
  have hw : ∀ w ∈ wsA, w.before _ s = true := fun w h => atoms_spec (ws := (Cond.code yD_init cD_init 1 none :: wsA)) B.pre w (List.mem_cons_of_mem _ h)
  have hown : s.vm.findClass "LoggedStore$Disk" = some m.cls := findClass_of_methodNamed B.named
  have hlocks := B.notSynchronized
  have hin : meth.name = "<init>" := (name_of_methodNamed B.named B.method).1
  subst hsz
  have hD := hD0.self (sz := s.heap.size)
  generalize hAe : va_A [(d, .inr (0, [.null, .int 0, .int 0, .int 0]))] s.heap.size = A at hD ⊢
  have hA : ∀ q : Nat, s.heap.size ≤ q → A q := fun q h => by rw [← hAe]; exact Or.inr h
  have hS : va_S A s.heap s.heap [] := va_S.rf
  have hl := lv_entry ([.ref d]) (n := 1) (Nat.le_of_ble_eq_true rfl)
  rw [lg_entry_eq]
  generalize (lg_sl ([.ref d]) ++ List.replicate (1 - (lg_sl ([.ref d])).length) Slot.unset).toArray = ls at hl ⊢
  have hl : lv_has ls 1 [(0, .ref d)] := hl
  refine lv_aload_n hx hb dD_init_0 rfl (lv_at hl 0 rfl) ?_
  refine W.objInit hx hb hown (hw _ w68) (hw _ w61) (hw _ w62) rfl (by rw [hml]; exact hl.1) rfl dD_init_1 (Nat.le_of_ble_eq_true rfl) (Nat.le_of_ble_eq_true rfl) ?_
  refine W.eq (g2 := F0 m 4 ls []) rfl ?_
  refine lv_aload_n hx hb dD_init_4 rfl (lv_at hl 0 rfl) ?_
  refine lv_sipush (v := 384) hx hb dD_init_5 (by decide) ?_
  refine va_newa (atype := .int) (a0 := (384, .inl (fun _ => 0))) (ty := .int) hx hb (hw _ w83) rfl hK hP hD hS hA (fun _ => rfl) (by decide) (by decide) (by decide) (Nat.le_of_ble_eq_true rfl) (Nat.le_of_ble_eq_true rfl) dD_init_8 (fun q1 cA H hK hP hD hS => ?_)
  obtain rfl := tk_eq hK (i := 0) (j := 4) rfl rfl
  have hK := hK.sub (tys' := tyA cI cZ cJ cT) [0, 1, 2, 3] rfl
  have hP : va_P (dC, dI) vwC [(d, .inr (0, [.null, .int 0, .int 0, .int 0])), (q1, .inl (cI, 384, .inl (fun _ => 0)))] H := hP
  have hD : va_D A [(d, .inr (0, [.null, .int 0, .int 0, .int 0])), (q1, .inl (cI, 384, .inl (fun _ => 0)))] := hD
  refine va_putF (D := (dC, dI)) (ci := 0) (v := .ref q1) (ty := .array .int) (C := "LoggedStore$Disk") (T := uD) (N := 4) hx hb hw inD tyD tyD_ok nmD hown hK hP hD hS 0 rfl rfl 0 (by decide) (hw _ w69) (fun _ h9 => h9) rfl hin rfl (by decide +kernel) rfl rfl (Nat.le_of_ble_eq_true rfl) dD_init_10 (fun H locs hP hD hS => ?_)
  have hP : va_P (dC, dI) vwC [(d, .inr (0, [.ref q1, .int 0, .int 0, .int 0])), (q1, .inl (cI, 384, .inl (fun _ => 0)))] H := hP
  have hD : va_D A [(d, .inr (0, [.ref q1, .int 0, .int 0, .int 0])), (q1, .inl (cI, 384, .inl (fun _ => 0)))] := hD
  refine lv_aload_n hx hb dD_init_13 rfl (lv_at hl 0 rfl) ?_
  refine lv_iconst (v := (-1)) hx hb dD_init_14 (by decide) ?_
  refine va_put (D := (dC, dI)) (ci := 0) (v := .int (-1)) (ty := .int) (C := "LoggedStore$Disk") (T := uD) (N := 4) hx hb hw inD tyD tyD_ok nmD hown hK hP hD hS 0 rfl rfl 1 (by decide) (hw _ w70) (fun _ h9 => h9) rfl (by decide +kernel) rfl rfl (Nat.le_of_ble_eq_true rfl) dD_init_15 (fun H locs hP hD hS => ?_)
  have hP : va_P (dC, dI) vwC [(d, .inr (0, [.ref q1, .int (-1), .int 0, .int 0])), (q1, .inl (cI, 384, .inl (fun _ => 0)))] H := hP
  have hD : va_D A [(d, .inr (0, [.ref q1, .int (-1), .int 0, .int 0])), (q1, .inl (cI, 384, .inl (fun _ => 0)))] := hD
  refine lv_aload_n hx hb dD_init_18 rfl (lv_at hl 0 rfl) ?_
  refine lv_iconst (v := 0) hx hb dD_init_19 (by decide) ?_
  refine va_put (D := (dC, dI)) (ci := 0) (v := .int 0) (ty := .int) (C := "LoggedStore$Disk") (T := uD) (N := 4) hx hb hw inD tyD tyD_ok nmD hown hK hP hD hS 0 rfl rfl 2 (by decide) (hw _ w71) (fun _ h9 => h9) rfl (by decide +kernel) rfl rfl (Nat.le_of_ble_eq_true rfl) dD_init_20 (fun H locs hP hD hS => ?_)
  have hP : va_P (dC, dI) vwC [(d, .inr (0, [.ref q1, .int (-1), .int 0, .int 0])), (q1, .inl (cI, 384, .inl (fun _ => 0)))] H := hP
  have hD : va_D A [(d, .inr (0, [.ref q1, .int (-1), .int 0, .int 0])), (q1, .inl (cI, 384, .inl (fun _ => 0)))] := hD
  refine lv_aload_n hx hb dD_init_23 rfl (lv_at hl 0 rfl) ?_
  refine lv_iconst (v := 0) hx hb dD_init_24 (by decide) ?_
  refine va_put (D := (dC, dI)) (ci := 0) (v := .int 0) (ty := .boolean) (C := "LoggedStore$Disk") (T := uD) (N := 4) hx hb hw inD tyD tyD_ok nmD hown hK hP hD hS 0 rfl rfl 3 (by decide) (hw _ w72) (fun _ h9 => h9) rfl (by decide +kernel) rfl rfl (Nat.le_of_ble_eq_true rfl) dD_init_25 (fun H locs hP hD hS => ?_)
  have hP : va_P (dC, dI) vwC [(d, .inr (0, [.ref q1, .int (-1), .int 0, .int 0])), (q1, .inl (cI, 384, .inl (fun _ => 0)))] H := hP
  have hD : va_D A [(d, .inr (0, [.ref q1, .int (-1), .int 0, .int 0])), (q1, .inl (cI, 384, .inl (fun _ => 0)))] := hD
  have hP9 := hP.sub (ws' := [(d, .inr (0, [.ref q1, .int (-1), .int 0, .int 0])), (q1, .inl (cI, 384, .inl (fun _ => 0)))]) [0, 1] rfl
  have hD9 := hD.sub (ws' := [(d, .inr (0, [.ref q1, .int (-1), .int 0, .int 0])), (q1, .inl (cI, 384, .inl (fun _ => 0)))]) [0, 1] (by decide) rfl
  refine W.widen (k := 1) (n := 384) (by decide) (by decide) ?_
  exact W.vret hx hb hr (fun t ht hW => ⟨⟨fun k => match k with | _ => q1, rfl, trivial, by rw [ht]; exact hP9, hD9⟩, hS.F ht⟩) hS.2.2 dD_init_28

set_option maxHeartbeats 4000000 in
set_option maxRecDepth 100000 in
theorem c_T_init (l : Launch) (dC : Nat → ClassId) (dI : Nat → Nat → Nat) (cI cZ cJ cT : ClassId) (tb : Nat) (sz : Nat) : Met l yT_init (Cond.code yT_init cT_init 1 none :: wsA) ({ frames := 1, cells := 2, slots := 128, locals := 12 }) (va_Pc [.ref tb] (fun U => U.heap.size = sz ∧ va_P (dC, dI) vwC [(tb, .inr (1, [.null, .null, .int 0]))] U.heap ∧ KK dC dI cI cZ cJ cT U ∧ va_D (fun _ => True) [(tb, .inr (1, [.null, .null, .int 0]))])) (va_Qv (S := Nat → Nat) (fun _ => True) (fun u t => va_P (dC, dI) vwC [(tb, .inr (1, [.ref (u 0), .ref (u 1), .int 0])), ((u 0), .inl (cZ, 64, .inl (fun _ => 0))), ((u 1), .inl (cI, 64, .inl (fun _ => 0)))] t.heap ∧ va_D (va_A [(tb, .inr (1, [.null, .null, .int 0]))] sz) [(tb, .inr (1, [.ref (u 0), .ref (u 1), .int 0])), ((u 0), .inl (cZ, 64, .inl (fun _ => 0))), ((u 1), .inl (cI, 64, .inl (fun _ => 0)))]) (va_A [(tb, .inr (1, [.null, .null, .int 0]))] sz)) 2 128 (va_A [(tb, .inr (1, [.null, .null, .int 0]))] sz) := by
  refine Met.ofW (cc := cT_init) (maxL := 1) (ret := none) (by decide) rfl ?_
  intro p e s m args below meth c s₁ B hml hv
  obtain ⟨rfl, hsz, hP, hKK, hD0⟩ := hv
  have hK := hKK.1
  have hx := B.exec
  have hb := B.bytes
  have hr := B.returns
  have hw : ∀ w ∈ wsA, w.before _ s = true := fun w h => atoms_spec (ws := (Cond.code yT_init cT_init 1 none :: wsA)) B.pre w (List.mem_cons_of_mem _ h)
  have hown : s.vm.findClass "LoggedStore$Table" = some m.cls := findClass_of_methodNamed B.named
  have hlocks := B.notSynchronized
  have hin : meth.name = "<init>" := (name_of_methodNamed B.named B.method).1
  subst hsz
  have hD := hD0.self (sz := s.heap.size)
  generalize hAe : va_A [(tb, .inr (1, [.null, .null, .int 0]))] s.heap.size = A at hD ⊢
  have hA : ∀ q : Nat, s.heap.size ≤ q → A q := fun q h => by rw [← hAe]; exact Or.inr h
  have hS : va_S A s.heap s.heap [] := va_S.rf
  have hl := lv_entry ([.ref tb]) (n := 1) (Nat.le_of_ble_eq_true rfl)
  rw [lg_entry_eq]
  generalize (lg_sl ([.ref tb]) ++ List.replicate (1 - (lg_sl ([.ref tb])).length) Slot.unset).toArray = ls at hl ⊢
  have hl : lv_has ls 1 [(0, .ref tb)] := hl
  refine lv_aload_n hx hb dT_init_0 rfl (lv_at hl 0 rfl) ?_
  refine W.objInit hx hb hown (hw _ w89) (hw _ w61) (hw _ w62) rfl (by rw [hml]; exact hl.1) rfl dT_init_1 (Nat.le_of_ble_eq_true rfl) (Nat.le_of_ble_eq_true rfl) ?_
  refine W.eq (g2 := F0 m 4 ls []) rfl ?_
  refine lv_aload_n hx hb dT_init_4 rfl (lv_at hl 0 rfl) ?_
  refine lv_bipush (v := 64) hx hb dT_init_5 (by decide) ?_
  refine va_newa (atype := .boolean) (a0 := (64, .inl (fun _ => 0))) (ty := .boolean) hx hb (hw _ w103) rfl hK hP hD hS hA (fun _ => rfl) (by decide) (by decide) (by decide) (Nat.le_of_ble_eq_true rfl) (Nat.le_of_ble_eq_true rfl) dT_init_7 (fun q1 cA H hK hP hD hS => ?_)
  obtain rfl := tk_eq hK (i := 1) (j := 4) rfl rfl
  have hK := hK.sub (tys' := tyA cI cZ cJ cT) [0, 1, 2, 3] rfl
  have hP : va_P (dC, dI) vwC [(tb, .inr (1, [.null, .null, .int 0])), (q1, .inl (cZ, 64, .inl (fun _ => 0)))] H := hP
  have hD : va_D A [(tb, .inr (1, [.null, .null, .int 0])), (q1, .inl (cZ, 64, .inl (fun _ => 0)))] := hD
  refine va_putF (D := (dC, dI)) (ci := 1) (v := .ref q1) (ty := .array .boolean) (C := "LoggedStore$Table") (T := uT) (N := 3) hx hb hw inT tyT tyT_ok nmT hown hK hP hD hS 0 rfl rfl 0 (by decide) (hw _ w90) (fun _ h9 => h9) rfl hin rfl (by decide +kernel) rfl rfl (Nat.le_of_ble_eq_true rfl) dT_init_9 (fun H locs hP hD hS => ?_)
  have hP : va_P (dC, dI) vwC [(tb, .inr (1, [.ref q1, .null, .int 0])), (q1, .inl (cZ, 64, .inl (fun _ => 0)))] H := hP
  have hD : va_D A [(tb, .inr (1, [.ref q1, .null, .int 0])), (q1, .inl (cZ, 64, .inl (fun _ => 0)))] := hD
  refine lv_aload_n hx hb dT_init_12 rfl (lv_at hl 0 rfl) ?_
  refine lv_bipush (v := 64) hx hb dT_init_13 (by decide) ?_
  refine va_newa (atype := .int) (a0 := (64, .inl (fun _ => 0))) (ty := .int) hx hb (hw _ w83) rfl hK hP hD hS hA (fun _ => rfl) (by decide) (by decide) (by decide) (Nat.le_of_ble_eq_true rfl) (Nat.le_of_ble_eq_true rfl) dT_init_15 (fun q2 cA H hK hP hD hS => ?_)
  obtain rfl := tk_eq hK (i := 0) (j := 4) rfl rfl
  have hK := hK.sub (tys' := tyA cI cZ cJ cT) [0, 1, 2, 3] rfl
  have hP : va_P (dC, dI) vwC [(tb, .inr (1, [.ref q1, .null, .int 0])), (q1, .inl (cZ, 64, .inl (fun _ => 0))), (q2, .inl (cI, 64, .inl (fun _ => 0)))] H := hP
  have hD : va_D A [(tb, .inr (1, [.ref q1, .null, .int 0])), (q1, .inl (cZ, 64, .inl (fun _ => 0))), (q2, .inl (cI, 64, .inl (fun _ => 0)))] := hD
  refine va_putF (D := (dC, dI)) (ci := 1) (v := .ref q2) (ty := .array .int) (C := "LoggedStore$Table") (T := uT) (N := 3) hx hb hw inT tyT tyT_ok nmT hown hK hP hD hS 0 rfl rfl 1 (by decide) (hw _ w92) (fun _ h9 => h9) rfl hin rfl (by decide +kernel) rfl rfl (Nat.le_of_ble_eq_true rfl) dT_init_17 (fun H locs hP hD hS => ?_)
  have hP : va_P (dC, dI) vwC [(tb, .inr (1, [.ref q1, .ref q2, .int 0])), (q1, .inl (cZ, 64, .inl (fun _ => 0))), (q2, .inl (cI, 64, .inl (fun _ => 0)))] H := hP
  have hD : va_D A [(tb, .inr (1, [.ref q1, .ref q2, .int 0])), (q1, .inl (cZ, 64, .inl (fun _ => 0))), (q2, .inl (cI, 64, .inl (fun _ => 0)))] := hD
  refine lv_aload_n hx hb dT_init_20 rfl (lv_at hl 0 rfl) ?_
  refine lv_iconst (v := 0) hx hb dT_init_21 (by decide) ?_
  refine va_put (D := (dC, dI)) (ci := 1) (v := .int 0) (ty := .int) (C := "LoggedStore$Table") (T := uT) (N := 3) hx hb hw inT tyT tyT_ok nmT hown hK hP hD hS 0 rfl rfl 2 (by decide) (hw _ w94) (fun _ h9 => h9) rfl (by decide +kernel) rfl rfl (Nat.le_of_ble_eq_true rfl) dT_init_22 (fun H locs hP hD hS => ?_)
  have hP : va_P (dC, dI) vwC [(tb, .inr (1, [.ref q1, .ref q2, .int 0])), (q1, .inl (cZ, 64, .inl (fun _ => 0))), (q2, .inl (cI, 64, .inl (fun _ => 0)))] H := hP
  have hD : va_D A [(tb, .inr (1, [.ref q1, .ref q2, .int 0])), (q1, .inl (cZ, 64, .inl (fun _ => 0))), (q2, .inl (cI, 64, .inl (fun _ => 0)))] := hD
  have hP9 := hP.sub (ws' := [(tb, .inr (1, [.ref q1, .ref q2, .int 0])), (q1, .inl (cZ, 64, .inl (fun _ => 0))), (q2, .inl (cI, 64, .inl (fun _ => 0)))]) [0, 1, 2] rfl
  have hD9 := hD.sub (ws' := [(tb, .inr (1, [.ref q1, .ref q2, .int 0])), (q1, .inl (cZ, 64, .inl (fun _ => 0))), (q2, .inl (cI, 64, .inl (fun _ => 0)))]) [0, 1, 2] (by decide) rfl
  refine W.widen (k := 2) (n := 128) (by decide) (by decide) ?_
  exact W.vret hx hb hr (fun t ht hW => ⟨⟨fun k => match k with | 0 => q1 | _ => q2, rfl, trivial, by rw [ht]; exact hP9, hD9⟩, hS.F ht⟩) hS.2.2 dT_init_25

set_option maxHeartbeats 4000000 in
set_option maxRecDepth 100000 in
theorem c_R_init (l : Launch) (dC : Nat → ClassId) (dI : Nat → Nat → Nat) (cI cZ cJ cT : ClassId) (tr : Nat) (sz : Nat) : Met l yR_init (Cond.code yR_init cR_init 1 none :: wsA) ({ frames := 2, cells := 4, slots := 195, locals := 32 }) (va_Pc [.ref tr] (fun U => U.heap.size = sz ∧ va_P (dC, dI) vwC [(tr, .inr (2, [.null, .null, .int 0, .int 0, .int 0]))] U.heap ∧ KK dC dI cI cZ cJ cT U ∧ va_D (fun _ => True) [(tr, .inr (2, [.null, .null, .int 0, .int 0, .int 0]))])) (va_Qv (S := Nat → Nat) (fun _ => True) (fun u t => va_P (dC, dI) vwC [(tr, .inr (2, [.ref (u 0), .ref (u 3), .int 0, .int 0, .int 0])), ((u 0), .inr (1, [.ref (u 1), .ref (u 2), .int 0])), ((u 1), .inl (cZ, 64, .inl (fun _ => 0))), ((u 2), .inl (cI, 64, .inl (fun _ => 0))), ((u 3), .inl (cZ, 64, .inl (fun _ => 0)))] t.heap ∧ va_D (va_A [(tr, .inr (2, [.null, .null, .int 0, .int 0, .int 0]))] sz) [(tr, .inr (2, [.ref (u 0), .ref (u 3), .int 0, .int 0, .int 0])), ((u 0), .inr (1, [.ref (u 1), .ref (u 2), .int 0])), ((u 1), .inl (cZ, 64, .inl (fun _ => 0))), ((u 2), .inl (cI, 64, .inl (fun _ => 0))), ((u 3), .inl (cZ, 64, .inl (fun _ => 0)))]) (va_A [(tr, .inr (2, [.null, .null, .int 0, .int 0, .int 0]))] sz)) 4 195 (va_A [(tr, .inr (2, [.null, .null, .int 0, .int 0, .int 0]))] sz) := by
  refine Met.ofW (cc := cR_init) (maxL := 1) (ret := none) (by decide) rfl ?_
  intro p e s m args below meth c s₁ B hml hv
  obtain ⟨rfl, hsz, hP, hKK, hD0⟩ := hv
  have hK := hKK.1
  have hx := B.exec
  have hb := B.bytes
  have hr := B.returns
  have hw : ∀ w ∈ wsA, w.before _ s = true := fun w h => atoms_spec (ws := (Cond.code yR_init cR_init 1 none :: wsA)) B.pre w (List.mem_cons_of_mem _ h)
  have hown : s.vm.findClass "LoggedStore$Transaction" = some m.cls := findClass_of_methodNamed B.named
  have hlocks := B.notSynchronized
  have hin : meth.name = "<init>" := (name_of_methodNamed B.named B.method).1
  subst hsz
  have hD := hD0.self (sz := s.heap.size)
  generalize hAe : va_A [(tr, .inr (2, [.null, .null, .int 0, .int 0, .int 0]))] s.heap.size = A at hD ⊢
  have hA : ∀ q : Nat, s.heap.size ≤ q → A q := fun q h => by rw [← hAe]; exact Or.inr h
  have hS : va_S A s.heap s.heap [] := va_S.rf
  have hl := lv_entry ([.ref tr]) (n := 1) (Nat.le_of_ble_eq_true rfl)
  rw [lg_entry_eq]
  generalize (lg_sl ([.ref tr]) ++ List.replicate (1 - (lg_sl ([.ref tr])).length) Slot.unset).toArray = ls at hl ⊢
  have hl : lv_has ls 1 [(0, .ref tr)] := hl
  refine lv_aload_n hx hb dR_init_0 rfl (lv_at hl 0 rfl) ?_
  refine W.objInit hx hb hown (hw _ w110) (hw _ w61) (hw _ w62) rfl (by rw [hml]; exact hl.1) rfl dR_init_1 (Nat.le_of_ble_eq_true rfl) (Nat.le_of_ble_eq_true rfl) ?_
  refine W.eq (g2 := F0 m 4 ls []) rfl ?_
  refine lv_aload_n hx hb dR_init_4 rfl (lv_at hl 0 rfl) ?_
  refine va_new (ci := 1) (fs := [.null, .null, .int 0]) (C := "LoggedStore$Table") (T := uT) (N := 3) hx hb hw inT tyT tyT_ok hown (hw _ w111) (hw _ w85) (hw _ w42) hK hP hD hS hA rfl (fun j hj => by (have : j = 0 ∨ j = 1 ∨ j = 2 := by omega); rcases this with rfl | rfl | rfl <;> rfl) (Nat.le_of_ble_eq_true rfl) (Nat.le_of_ble_eq_true rfl) dR_init_5 (fun q1 H hP hD hS => ?_)
  have hP : va_P (dC, dI) vwC [(tr, .inr (2, [.null, .null, .int 0, .int 0, .int 0])), (q1, .inr (1, [.null, .null, .int 0]))] H := hP
  have hD : va_D A [(tr, .inr (2, [.null, .null, .int 0, .int 0, .int 0])), (q1, .inr (1, [.null, .null, .int 0]))] := hD
  refine lv_dup hx hb dR_init_8 rfl ?_
  have hPc := hP.sub (ws' := [(q1, .inr (1, [.null, .null, .int 0]))]) [1] rfl
  have hDc := hD.sub (ws' := [(q1, .inr (1, [.null, .null, .int 0]))]) [1] (by decide) rfl
  have hFc := va_free (wc := [(q1, .inr (1, [.null, .null, .int 0]))]) hD hS hA [1] rfl
  refine va_callv (va_runIN (b := q1) (As := []) (rest := [.ref q1, .ref tr]) ⟨hx, hb, hml, hown, hw⟩ (c_T_init l dC dI cI cZ cJ cT q1 H.size) ⟨va_cnB 0 hw (gA0 w88) rfl rfl rfl hKK.2.n4 (hw _ w42) (by decide +kernel) ⟨Nat.le_of_ble_eq_true rfl, Nat.le_of_ble_eq_true rfl⟩, rfl, (hw _ w87)⟩ ⟨kb_Q, fun U hU hW => ⟨rfl, by rw [hU], by rw [hU]; exact hPc, hKK.moved hW, hDc.weaken (fun _ _ _ _ => trivial)⟩⟩ rfl rfl hl.1 rfl (lv_room (Nat.le_of_ble_eq_true rfl)) dR_init_9 ⟨Nat.le_of_ble_eq_true rfl, Nat.le_of_ble_eq_true rfl⟩) hS (fun q _ h => hFc q h) hFc (fun u3 t H1 locs ht hvm he9 hB hz1 hk1 hS => ?_)
  obtain ⟨hP1, hD1⟩ := hB
  rw [ht] at hP1
  obtain ⟨hP, hD⟩ := va_join (wr := [(tr, .inr (2, [.null, .null, .int 0, .int 0, .int 0]))]) (w1 := [(q1, .inr (1, [.ref (u3 0), .ref (u3 1), .int 0])), ((u3 0), .inl (cZ, 64, .inl (fun _ => 0))), ((u3 1), .inl (cI, 64, .inl (fun _ => 0)))]) hP hD [1] [0] rfl rfl (by decide) (by decide) hk1 hFc hP1 hD1
  generalize H1 = H at hP hS ⊢
  have hP : va_P (dC, dI) vwC [(tr, .inr (2, [.null, .null, .int 0, .int 0, .int 0])), (q1, .inr (1, [.ref (u3 0), .ref (u3 1), .int 0])), ((u3 0), .inl (cZ, 64, .inl (fun _ => 0))), ((u3 1), .inl (cI, 64, .inl (fun _ => 0)))] H := hP
  have hD : va_D A [(tr, .inr (2, [.null, .null, .int 0, .int 0, .int 0])), (q1, .inr (1, [.ref (u3 0), .ref (u3 1), .int 0])), ((u3 0), .inl (cZ, 64, .inl (fun _ => 0))), ((u3 1), .inl (cI, 64, .inl (fun _ => 0)))] := hD
  refine va_putF (D := (dC, dI)) (ci := 2) (v := .ref q1) (ty := .object "LoggedStore$Table") (C := "LoggedStore$Transaction") (T := uR) (N := 5) hx hb hw inR tyR tyR_ok nmR hown hK hP hD hS 0 rfl rfl 0 (by decide) (hw _ w113) (fun _ h9 => h9) rfl hin rfl (by decide +kernel) rfl rfl (Nat.le_of_ble_eq_true rfl) dR_init_12 (fun H locs hP hD hS => ?_)
  have hP : va_P (dC, dI) vwC [(tr, .inr (2, [.ref q1, .null, .int 0, .int 0, .int 0])), (q1, .inr (1, [.ref (u3 0), .ref (u3 1), .int 0])), ((u3 0), .inl (cZ, 64, .inl (fun _ => 0))), ((u3 1), .inl (cI, 64, .inl (fun _ => 0)))] H := hP
  have hD : va_D A [(tr, .inr (2, [.ref q1, .null, .int 0, .int 0, .int 0])), (q1, .inr (1, [.ref (u3 0), .ref (u3 1), .int 0])), ((u3 0), .inl (cZ, 64, .inl (fun _ => 0))), ((u3 1), .inl (cI, 64, .inl (fun _ => 0)))] := hD
  refine lv_aload_n hx hb dR_init_15 rfl (lv_at hl 0 rfl) ?_
  refine lv_bipush (v := 64) hx hb dR_init_16 (by decide) ?_
  refine va_newa (atype := .boolean) (a0 := (64, .inl (fun _ => 0))) (ty := .boolean) hx hb (hw _ w103) rfl hK hP hD hS hA (fun _ => rfl) (by decide) (by decide) (by decide) (Nat.le_of_ble_eq_true rfl) (Nat.le_of_ble_eq_true rfl) dR_init_18 (fun q4 cA H hK hP hD hS => ?_)
  obtain rfl := tk_eq hK (i := 1) (j := 4) rfl rfl
  have hK := hK.sub (tys' := tyA cI cZ cJ cT) [0, 1, 2, 3] rfl
  have hP : va_P (dC, dI) vwC [(tr, .inr (2, [.ref q1, .null, .int 0, .int 0, .int 0])), (q1, .inr (1, [.ref (u3 0), .ref (u3 1), .int 0])), ((u3 0), .inl (cZ, 64, .inl (fun _ => 0))), ((u3 1), .inl (cI, 64, .inl (fun _ => 0))), (q4, .inl (cZ, 64, .inl (fun _ => 0)))] H := hP
  have hD : va_D A [(tr, .inr (2, [.ref q1, .null, .int 0, .int 0, .int 0])), (q1, .inr (1, [.ref (u3 0), .ref (u3 1), .int 0])), ((u3 0), .inl (cZ, 64, .inl (fun _ => 0))), ((u3 1), .inl (cI, 64, .inl (fun _ => 0))), (q4, .inl (cZ, 64, .inl (fun _ => 0)))] := hD
  refine va_putF (D := (dC, dI)) (ci := 2) (v := .ref q4) (ty := .array .boolean) (C := "LoggedStore$Transaction") (T := uR) (N := 5) hx hb hw inR tyR tyR_ok nmR hown hK hP hD hS 0 rfl rfl 1 (by decide) (hw _ w115) (fun _ h9 => h9) rfl hin rfl (by decide +kernel) rfl rfl (Nat.le_of_ble_eq_true rfl) dR_init_20 (fun H locs hP hD hS => ?_)
  have hP : va_P (dC, dI) vwC [(tr, .inr (2, [.ref q1, .ref q4, .int 0, .int 0, .int 0])), (q1, .inr (1, [.ref (u3 0), .ref (u3 1), .int 0])), ((u3 0), .inl (cZ, 64, .inl (fun _ => 0))), ((u3 1), .inl (cI, 64, .inl (fun _ => 0))), (q4, .inl (cZ, 64, .inl (fun _ => 0)))] H := hP
  have hD : va_D A [(tr, .inr (2, [.ref q1, .ref q4, .int 0, .int 0, .int 0])), (q1, .inr (1, [.ref (u3 0), .ref (u3 1), .int 0])), ((u3 0), .inl (cZ, 64, .inl (fun _ => 0))), ((u3 1), .inl (cI, 64, .inl (fun _ => 0))), (q4, .inl (cZ, 64, .inl (fun _ => 0)))] := hD
  refine lv_aload_n hx hb dR_init_23 rfl (lv_at hl 0 rfl) ?_
  refine lv_iconst (v := 0) hx hb dR_init_24 (by decide) ?_
  refine va_put (D := (dC, dI)) (ci := 2) (v := .int 0) (ty := .int) (C := "LoggedStore$Transaction") (T := uR) (N := 5) hx hb hw inR tyR tyR_ok nmR hown hK hP hD hS 0 rfl rfl 2 (by decide) (hw _ w117) (fun _ h9 => h9) rfl (by decide +kernel) rfl rfl (Nat.le_of_ble_eq_true rfl) dR_init_25 (fun H locs hP hD hS => ?_)
  have hP : va_P (dC, dI) vwC [(tr, .inr (2, [.ref q1, .ref q4, .int 0, .int 0, .int 0])), (q1, .inr (1, [.ref (u3 0), .ref (u3 1), .int 0])), ((u3 0), .inl (cZ, 64, .inl (fun _ => 0))), ((u3 1), .inl (cI, 64, .inl (fun _ => 0))), (q4, .inl (cZ, 64, .inl (fun _ => 0)))] H := hP
  have hD : va_D A [(tr, .inr (2, [.ref q1, .ref q4, .int 0, .int 0, .int 0])), (q1, .inr (1, [.ref (u3 0), .ref (u3 1), .int 0])), ((u3 0), .inl (cZ, 64, .inl (fun _ => 0))), ((u3 1), .inl (cI, 64, .inl (fun _ => 0))), (q4, .inl (cZ, 64, .inl (fun _ => 0)))] := hD
  refine lv_aload_n hx hb dR_init_28 rfl (lv_at hl 0 rfl) ?_
  refine lv_iconst (v := 0) hx hb dR_init_29 (by decide) ?_
  refine va_put (D := (dC, dI)) (ci := 2) (v := .int 0) (ty := .int) (C := "LoggedStore$Transaction") (T := uR) (N := 5) hx hb hw inR tyR tyR_ok nmR hown hK hP hD hS 0 rfl rfl 3 (by decide) (hw _ w119) (fun _ h9 => h9) rfl (by decide +kernel) rfl rfl (Nat.le_of_ble_eq_true rfl) dR_init_30 (fun H locs hP hD hS => ?_)
  have hP : va_P (dC, dI) vwC [(tr, .inr (2, [.ref q1, .ref q4, .int 0, .int 0, .int 0])), (q1, .inr (1, [.ref (u3 0), .ref (u3 1), .int 0])), ((u3 0), .inl (cZ, 64, .inl (fun _ => 0))), ((u3 1), .inl (cI, 64, .inl (fun _ => 0))), (q4, .inl (cZ, 64, .inl (fun _ => 0)))] H := hP
  have hD : va_D A [(tr, .inr (2, [.ref q1, .ref q4, .int 0, .int 0, .int 0])), (q1, .inr (1, [.ref (u3 0), .ref (u3 1), .int 0])), ((u3 0), .inl (cZ, 64, .inl (fun _ => 0))), ((u3 1), .inl (cI, 64, .inl (fun _ => 0))), (q4, .inl (cZ, 64, .inl (fun _ => 0)))] := hD
  refine lv_aload_n hx hb dR_init_33 rfl (lv_at hl 0 rfl) ?_
  refine lv_iconst (v := 0) hx hb dR_init_34 (by decide) ?_
  refine va_put (D := (dC, dI)) (ci := 2) (v := .int 0) (ty := .boolean) (C := "LoggedStore$Transaction") (T := uR) (N := 5) hx hb hw inR tyR tyR_ok nmR hown hK hP hD hS 0 rfl rfl 4 (by decide) (hw _ w121) (fun _ h9 => h9) rfl (by decide +kernel) rfl rfl (Nat.le_of_ble_eq_true rfl) dR_init_35 (fun H locs hP hD hS => ?_)
  have hP : va_P (dC, dI) vwC [(tr, .inr (2, [.ref q1, .ref q4, .int 0, .int 0, .int 0])), (q1, .inr (1, [.ref (u3 0), .ref (u3 1), .int 0])), ((u3 0), .inl (cZ, 64, .inl (fun _ => 0))), ((u3 1), .inl (cI, 64, .inl (fun _ => 0))), (q4, .inl (cZ, 64, .inl (fun _ => 0)))] H := hP
  have hD : va_D A [(tr, .inr (2, [.ref q1, .ref q4, .int 0, .int 0, .int 0])), (q1, .inr (1, [.ref (u3 0), .ref (u3 1), .int 0])), ((u3 0), .inl (cZ, 64, .inl (fun _ => 0))), ((u3 1), .inl (cI, 64, .inl (fun _ => 0))), (q4, .inl (cZ, 64, .inl (fun _ => 0)))] := hD
  have hP9 := hP.sub (ws' := [(tr, .inr (2, [.ref q1, .ref q4, .int 0, .int 0, .int 0])), (q1, .inr (1, [.ref (u3 0), .ref (u3 1), .int 0])), ((u3 0), .inl (cZ, 64, .inl (fun _ => 0))), ((u3 1), .inl (cI, 64, .inl (fun _ => 0))), (q4, .inl (cZ, 64, .inl (fun _ => 0)))]) [0, 1, 2, 3, 4] rfl
  have hD9 := hD.sub (ws' := [(tr, .inr (2, [.ref q1, .ref q4, .int 0, .int 0, .int 0])), (q1, .inr (1, [.ref (u3 0), .ref (u3 1), .int 0])), ((u3 0), .inl (cZ, 64, .inl (fun _ => 0))), ((u3 1), .inl (cI, 64, .inl (fun _ => 0))), (q4, .inl (cZ, 64, .inl (fun _ => 0)))]) [0, 1, 2, 3, 4] (by decide) rfl
  refine W.widen (k := 4) (n := 195) (by decide) (by decide) ?_
  exact W.vret hx hb hr (fun t ht hW => ⟨⟨fun k => match k with | 0 => q1 | 1 => (u3 0) | 2 => (u3 1) | _ => q4, rfl, trivial, by rw [ht]; exact hP9, hD9⟩, hS.F ht⟩) hS.2.2 dR_init_38
end
section
set_option maxRecDepth 100000 in
theorem w43 : (Cond.initialized "LoggedStore$Transaction") ∈ wsA := List.mem_filter.mpr ⟨List.mem_of_getElem? (i := 43) rfl, rfl⟩
set_option maxRecDepth 100000 in
theorem w59 : (Cond.code yS_init cS_init 2 none) ∈ wsA := List.mem_filter.mpr ⟨List.mem_of_getElem? (i := 59) rfl, rfl⟩
set_option maxRecDepth 100000 in
theorem w60 : (Cond.methodLink "LoggedStore" 1 objectInit) ∈ wsA := List.mem_filter.mpr ⟨List.mem_of_getElem? (i := 60) rfl, rfl⟩
set_option maxRecDepth 100000 in
theorem w63 : (Cond.classLink "LoggedStore" 7 "LoggedStore$Disk") ∈ wsA := List.mem_filter.mpr ⟨List.mem_of_getElem? (i := 63) rfl, rfl⟩
set_option maxRecDepth 100000 in
theorem w64 : (Cond.instantiable "LoggedStore$Disk" 4) ∈ wsA := List.mem_filter.mpr ⟨List.mem_of_getElem? (i := 64) rfl, rfl⟩
set_option maxRecDepth 100000 in
theorem w66 : (Cond.instanceMethod yD_init) ∈ wsA := List.mem_filter.mpr ⟨List.mem_of_getElem? (i := 66) rfl, rfl⟩
set_option maxRecDepth 100000 in
theorem w84 : (Cond.classLink "LoggedStore" 16 "LoggedStore$Table") ∈ wsA := List.mem_filter.mpr ⟨List.mem_of_getElem? (i := 84) rfl, rfl⟩
set_option maxRecDepth 100000 in
theorem w104 : (Cond.classLink "LoggedStore" 27 "LoggedStore$Transaction") ∈ wsA := List.mem_filter.mpr ⟨List.mem_of_getElem? (i := 104) rfl, rfl⟩
set_option maxRecDepth 100000 in
theorem w106 : (Cond.instantiable "LoggedStore$Transaction" 5) ∈ wsA := List.mem_filter.mpr ⟨List.mem_of_getElem? (i := 106) rfl, rfl⟩
set_option maxRecDepth 100000 in
theorem w108 : (Cond.instanceMethod yR_init) ∈ wsA := List.mem_filter.mpr ⟨List.mem_of_getElem? (i := 108) rfl, rfl⟩
set_option maxRecDepth 100000 in
theorem w134 : (Cond.methodLink "LoggedStore" 47 yD_format) ∈ wsA := List.mem_filter.mpr ⟨List.mem_of_getElem? (i := 134) rfl, rfl⟩
set_option maxRecDepth 100000 in
theorem w135 : (Cond.instanceMethod yD_format) ∈ wsA := List.mem_filter.mpr ⟨List.mem_of_getElem? (i := 135) rfl, rfl⟩
set_option maxRecDepth 100000 in
theorem w136 : (Cond.selects "LoggedStore$Disk" yD_format yD_format) ∈ wsA := List.mem_filter.mpr ⟨List.mem_of_getElem? (i := 136) rfl, rfl⟩
set_option maxRecDepth 100000 in
theorem w156 : (Cond.fieldLink "LoggedStore" 23 "LoggedStore" "writtenAt" "[I") ∈ wsA := List.mem_filter.mpr ⟨List.mem_of_getElem? (i := 156) rfl, rfl⟩
set_option maxRecDepth 100000 in
theorem w157 : (Cond.fieldLink "LoggedStore" 29 "LoggedStore" "transactions" "[LLoggedStore$Transaction;") ∈ wsA := List.mem_filter.mpr ⟨List.mem_of_getElem? (i := 157) rfl, rfl⟩
set_option maxRecDepth 100000 in
theorem w159 : (Cond.fieldLink "LoggedStore" 37 "LoggedStore" "epoch" "I") ∈ wsA := List.mem_filter.mpr ⟨List.mem_of_getElem? (i := 159) rfl, rfl⟩
set_option maxRecDepth 100000 in
theorem w160 : (Cond.fieldLink "LoggedStore" 40 "LoggedStore" "area" "I") ∈ wsA := List.mem_filter.mpr ⟨List.mem_of_getElem? (i := 160) rfl, rfl⟩
theorem dS_init_0 : decode cS_init 0 = .ok (.aload_n 0, 1) := by decide +kernel
theorem dS_init_1 : decode cS_init 1 = .ok (.invokespecial 1, 3) := by decide +kernel
theorem dS_init_4 : decode cS_init 4 = .ok (.aload_n 0, 1) := by decide +kernel
theorem dS_init_5 : decode cS_init 5 = .ok (.new 7, 3) := by decide +kernel
theorem dS_init_8 : decode cS_init 8 = .ok (.dup, 1) := by decide +kernel
theorem dS_init_9 : decode cS_init 9 = .ok (.invokespecial 9, 3) := by decide +kernel
theorem dS_init_12 : decode cS_init 12 = .ok (.putfield 10, 3) := by decide +kernel
theorem dS_init_15 : decode cS_init 15 = .ok (.aload_n 0, 1) := by decide +kernel
theorem dS_init_16 : decode cS_init 16 = .ok (.new 16, 3) := by decide +kernel
theorem dS_init_19 : decode cS_init 19 = .ok (.dup, 1) := by decide +kernel
theorem dS_init_20 : decode cS_init 20 = .ok (.invokespecial 18, 3) := by decide +kernel
theorem dS_init_23 : decode cS_init 23 = .ok (.putfield 19, 3) := by decide +kernel
theorem dS_init_26 : decode cS_init 26 = .ok (.aload_n 0, 1) := by decide +kernel
theorem dS_init_27 : decode cS_init 27 = .ok (.bipush 64, 2) := by decide +kernel
theorem dS_init_29 : decode cS_init 29 = .ok (.newarray .int, 2) := by decide +kernel
theorem dS_init_31 : decode cS_init 31 = .ok (.putfield 23, 3) := by decide +kernel
theorem dS_init_34 : decode cS_init 34 = .ok (.aload_n 0, 1) := by decide +kernel
theorem dS_init_35 : decode cS_init 35 = .ok (.iconst 3, 1) := by decide +kernel
theorem dS_init_36 : decode cS_init 36 = .ok (.anewarray 27, 3) := by decide +kernel
theorem dS_init_39 : decode cS_init 39 = .ok (.putfield 29, 3) := by decide +kernel
theorem dS_init_42 : decode cS_init 42 = .ok (.aload_n 0, 1) := by decide +kernel
theorem dS_init_43 : decode cS_init 43 = .ok (.iconst 0, 1) := by decide +kernel
theorem dS_init_44 : decode cS_init 44 = .ok (.putfield 33, 3) := by decide +kernel
theorem dS_init_47 : decode cS_init 47 = .ok (.aload_n 0, 1) := by decide +kernel
theorem dS_init_48 : decode cS_init 48 = .ok (.iconst 1, 1) := by decide +kernel
theorem dS_init_49 : decode cS_init 49 = .ok (.putfield 37, 3) := by decide +kernel
theorem dS_init_52 : decode cS_init 52 = .ok (.aload_n 0, 1) := by decide +kernel
theorem dS_init_53 : decode cS_init 53 = .ok (.iconst 0, 1) := by decide +kernel
theorem dS_init_54 : decode cS_init 54 = .ok (.putfield 40, 3) := by decide +kernel
theorem dS_init_57 : decode cS_init 57 = .ok (.aload_n 0, 1) := by decide +kernel
theorem dS_init_58 : decode cS_init 58 = .ok (.bipush 22, 2) := by decide +kernel
theorem dS_init_60 : decode cS_init 60 = .ok (.putfield 43, 3) := by decide +kernel
theorem dS_init_63 : decode cS_init 63 = .ok (.iconst 0, 1) := by decide +kernel
theorem dS_init_64 : decode cS_init 64 = .ok (.istore_n 1, 1) := by decide +kernel
theorem dS_init_65 : decode cS_init 65 = .ok (.iload_n 1, 1) := by decide +kernel
theorem dS_init_66 : decode cS_init 66 = .ok (.iconst 3, 1) := by decide +kernel
theorem dS_init_67 : decode cS_init 67 = .ok (.if_icmp .ge 22, 3) := by decide +kernel
theorem dS_init_70 : decode cS_init 70 = .ok (.aload_n 0, 1) := by decide +kernel
theorem dS_init_71 : decode cS_init 71 = .ok (.getfield 29, 3) := by decide +kernel
theorem dS_init_74 : decode cS_init 74 = .ok (.iload_n 1, 1) := by decide +kernel
theorem dS_init_75 : decode cS_init 75 = .ok (.new 27, 3) := by decide +kernel
theorem dS_init_78 : decode cS_init 78 = .ok (.dup, 1) := by decide +kernel
theorem dS_init_79 : decode cS_init 79 = .ok (.invokespecial 46, 3) := by decide +kernel
theorem dS_init_82 : decode cS_init 82 = .ok (.aastore, 1) := by decide +kernel
theorem dS_init_83 : decode cS_init 83 = .ok (.iinc 1 1, 3) := by decide +kernel
theorem dS_init_86 : decode cS_init 86 = .ok (.goto (-21), 3) := by decide +kernel
theorem dS_init_89 : decode cS_init 89 = .ok (.aload_n 0, 1) := by decide +kernel
theorem dS_init_90 : decode cS_init 90 = .ok (.getfield 10, 3) := by decide +kernel
theorem dS_init_93 : decode cS_init 93 = .ok (.invokevirtual 47, 3) := by decide +kernel
theorem dS_init_96 : decode cS_init 96 = .ok (.return_, 1) := by decide +kernel
set_option maxHeartbeats 4000000 in
set_option maxRecDepth 100000 in
theorem c_S_init (l : Launch) (dC : Nat → ClassId) (dI : Nat → Nat → Nat) (cI cZ cJ cT : ClassId) (x : Nat) (sz : Nat) : Met l yS_init (Cond.code yS_init cS_init 2 none :: wsA) ({ frames := 3, cells := 22, slots := 1186, locals := 63 }) (va_Pc [.ref x] (fun U => U.heap.size = sz ∧ va_P (dC, dI) vwC [(x, .inr (3, [.null, .null, .null, .null, .int 0, .int 0, .int 0, .int 0]))] U.heap ∧ KK dC dI cI cZ cJ cT U ∧ va_D (fun _ => True) [(x, .inr (3, [.null, .null, .null, .null, .int 0, .int 0, .int 0, .int 0]))])) (va_Qv (S := Nat → Nat) (fun _ => True) (fun u t => va_P (dC, dI) vwC [(x, .inr (3, [.ref (u 0), .ref (u 2), .ref (u 5), .ref (u 6), .int 0, .int 1, .int 0, .int 22])), ((u 0), .inr (0, [.ref (u 1), .int (-1), .int 0, .int 0])), ((u 1), .inl (cI, 384, .inl W0)), ((u 2), .inr (1, [.ref (u 3), .ref (u 4), .int 0])), ((u 3), .inl (cZ, 64, .inl (fun _ => 0))), ((u 4), .inl (cI, 64, .inl (fun _ => 0))), ((u 5), .inl (cI, 64, .inl (fun _ => 0))), ((u 6), .inl (cT, 3, .inr (.inr (.inr (.inr (tF (u 7) (u 12) (u 17))))))), ((u 7), .inr (2, [.ref (u 8), .ref (u 11), .int 0, .int 0, .int 0])), ((u 8), .inr (1, [.ref (u 9), .ref (u 10), .int 0])), ((u 9), .inl (cZ, 64, .inl (fun _ => 0))), ((u 10), .inl (cI, 64, .inl (fun _ => 0))), ((u 11), .inl (cZ, 64, .inl (fun _ => 0))), ((u 12), .inr (2, [.ref (u 13), .ref (u 16), .int 0, .int 0, .int 0])), ((u 13), .inr (1, [.ref (u 14), .ref (u 15), .int 0])), ((u 14), .inl (cZ, 64, .inl (fun _ => 0))), ((u 15), .inl (cI, 64, .inl (fun _ => 0))), ((u 16), .inl (cZ, 64, .inl (fun _ => 0))), ((u 17), .inr (2, [.ref (u 18), .ref (u 21), .int 0, .int 0, .int 0])), ((u 18), .inr (1, [.ref (u 19), .ref (u 20), .int 0])), ((u 19), .inl (cZ, 64, .inl (fun _ => 0))), ((u 20), .inl (cI, 64, .inl (fun _ => 0))), ((u 21), .inl (cZ, 64, .inl (fun _ => 0)))] t.heap ∧ va_D (va_A [(x, .inr (3, [.null, .null, .null, .null, .int 0, .int 0, .int 0, .int 0]))] sz) [(x, .inr (3, [.ref (u 0), .ref (u 2), .ref (u 5), .ref (u 6), .int 0, .int 1, .int 0, .int 22])), ((u 0), .inr (0, [.ref (u 1), .int (-1), .int 0, .int 0])), ((u 1), .inl (cI, 384, .inl W0)), ((u 2), .inr (1, [.ref (u 3), .ref (u 4), .int 0])), ((u 3), .inl (cZ, 64, .inl (fun _ => 0))), ((u 4), .inl (cI, 64, .inl (fun _ => 0))), ((u 5), .inl (cI, 64, .inl (fun _ => 0))), ((u 6), .inl (cT, 3, .inr (.inr (.inr (.inr (tF (u 7) (u 12) (u 17))))))), ((u 7), .inr (2, [.ref (u 8), .ref (u 11), .int 0, .int 0, .int 0])), ((u 8), .inr (1, [.ref (u 9), .ref (u 10), .int 0])), ((u 9), .inl (cZ, 64, .inl (fun _ => 0))), ((u 10), .inl (cI, 64, .inl (fun _ => 0))), ((u 11), .inl (cZ, 64, .inl (fun _ => 0))), ((u 12), .inr (2, [.ref (u 13), .ref (u 16), .int 0, .int 0, .int 0])), ((u 13), .inr (1, [.ref (u 14), .ref (u 15), .int 0])), ((u 14), .inl (cZ, 64, .inl (fun _ => 0))), ((u 15), .inl (cI, 64, .inl (fun _ => 0))), ((u 16), .inl (cZ, 64, .inl (fun _ => 0))), ((u 17), .inr (2, [.ref (u 18), .ref (u 21), .int 0, .int 0, .int 0])), ((u 18), .inr (1, [.ref (u 19), .ref (u 20), .int 0])), ((u 19), .inl (cZ, 64, .inl (fun _ => 0))), ((u 20), .inl (cI, 64, .inl (fun _ => 0))), ((u 21), .inl (cZ, 64, .inl (fun _ => 0)))]) (va_A [(x, .inr (3, [.null, .null, .null, .null, .int 0, .int 0, .int 0, .int 0]))] sz)) 22 1186 (va_A [(x, .inr (3, [.null, .null, .null, .null, .int 0, .int 0, .int 0, .int 0]))] sz) := by
  refine Met.ofW (cc := cS_init) (maxL := 2) (ret := none) (by decide) rfl ?_
  intro p e s m args below meth c s₁ B hml hv
  obtain ⟨rfl, hsz, hP, hKK, hD0⟩ := hv
  have hK := hKK.1
  have hx := B.exec
  have hb := B.bytes
  have hr := B.returns
  have hw : ∀ w ∈ wsA, w.before _ s = true := fun w h => atoms_spec (ws := (Cond.code yS_init cS_init 2 none :: wsA)) B.pre w (List.mem_cons_of_mem _ h)
  have hown : s.vm.findClass "LoggedStore" = some m.cls := findClass_of_methodNamed B.named
  have hlocks := B.notSynchronized
  have hin : meth.name = "<init>" := (name_of_methodNamed B.named B.method).1
  subst hsz
  have hD := hD0.self (sz := s.heap.size)
  generalize hAe : va_A [(x, .inr (3, [.null, .null, .null, .null, .int 0, .int 0, .int 0, .int 0]))] s.heap.size = A at hD ⊢
  have hA : ∀ q : Nat, s.heap.size ≤ q → A q := fun q h => by rw [← hAe]; exact Or.inr h
  have hS : va_S A s.heap s.heap [] := va_S.rf
  have hl := lv_entry ([.ref x]) (n := 2) (Nat.le_of_ble_eq_true rfl)
  rw [lg_entry_eq]
  generalize (lg_sl ([.ref x]) ++ List.replicate (2 - (lg_sl ([.ref x])).length) Slot.unset).toArray = ls at hl ⊢
  have hl : lv_has ls 2 [(0, .ref x)] := hl
  refine lv_aload_n hx hb dS_init_0 rfl (lv_at hl 0 rfl) ?_
  refine W.objInit hx hb hown (hw _ w60) (hw _ w61) (hw _ w62) rfl (by rw [hml]; exact hl.1) rfl dS_init_1 (Nat.le_of_ble_eq_true rfl) (Nat.le_of_ble_eq_true rfl) ?_
  refine W.eq (g2 := F0 m 4 ls []) rfl ?_
  refine lv_aload_n hx hb dS_init_4 rfl (lv_at hl 0 rfl) ?_
  refine va_new (ci := 0) (fs := [.null, .int 0, .int 0, .int 0]) (C := "LoggedStore$Disk") (T := uD) (N := 4) hx hb hw inD tyD tyD_ok hown (hw _ w63) (hw _ w64) (hw _ w41) hK hP hD hS hA rfl (fun j hj => by (have : j = 0 ∨ j = 1 ∨ j = 2 ∨ j = 3 := by omega); rcases this with rfl | rfl | rfl | rfl <;> rfl) (Nat.le_of_ble_eq_true rfl) (Nat.le_of_ble_eq_true rfl) dS_init_5 (fun q1 H hP hD hS => ?_)
  have hP : va_P (dC, dI) vwC [(x, .inr (3, [.null, .null, .null, .null, .int 0, .int 0, .int 0, .int 0])), (q1, .inr (0, [.null, .int 0, .int 0, .int 0]))] H := hP
  have hD : va_D A [(x, .inr (3, [.null, .null, .null, .null, .int 0, .int 0, .int 0, .int 0])), (q1, .inr (0, [.null, .int 0, .int 0, .int 0]))] := hD
  refine lv_dup hx hb dS_init_8 rfl ?_
  have hPc := hP.sub (ws' := [(q1, .inr (0, [.null, .int 0, .int 0, .int 0]))]) [1] rfl
  have hDc := hD.sub (ws' := [(q1, .inr (0, [.null, .int 0, .int 0, .int 0]))]) [1] (by decide) rfl
  have hFc := va_free (wc := [(q1, .inr (0, [.null, .int 0, .int 0, .int 0]))]) hD hS hA [1] rfl
  refine va_callv (va_runIN (b := q1) (As := []) (rest := [.ref q1, .ref x]) ⟨hx, hb, hml, hown, hw⟩ (c_D_init l dC dI cI cZ cJ cT q1 H.size) ⟨va_cnB 0 hw (gA0 w67) rfl rfl rfl hKK.2.n1 (hw _ w41) (by decide +kernel) ⟨Nat.le_of_ble_eq_true rfl, Nat.le_of_ble_eq_true rfl⟩, rfl, (hw _ w66)⟩ ⟨kb_Q, fun U hU hW => ⟨rfl, by rw [hU], by rw [hU]; exact hPc, hKK.moved hW, hDc.weaken (fun _ _ _ _ => trivial)⟩⟩ rfl rfl hl.1 rfl (lv_room (Nat.le_of_ble_eq_true rfl)) dS_init_9 ⟨Nat.le_of_ble_eq_true rfl, Nat.le_of_ble_eq_true rfl⟩) hS (fun q _ h => hFc q h) hFc (fun u3 t H1 locs ht hvm he9 hB hz1 hk1 hS => ?_)
  obtain ⟨hP1, hD1⟩ := hB
  rw [ht] at hP1
  obtain ⟨hP, hD⟩ := va_join (wr := [(x, .inr (3, [.null, .null, .null, .null, .int 0, .int 0, .int 0, .int 0]))]) (w1 := [(q1, .inr (0, [.ref (u3 0), .int (-1), .int 0, .int 0])), ((u3 0), .inl (cI, 384, .inl (fun _ => 0)))]) hP hD [1] [0] rfl rfl (by decide) (by decide) hk1 hFc hP1 hD1
  generalize H1 = H at hP hS ⊢
  have hP : va_P (dC, dI) vwC [(x, .inr (3, [.null, .null, .null, .null, .int 0, .int 0, .int 0, .int 0])), (q1, .inr (0, [.ref (u3 0), .int (-1), .int 0, .int 0])), ((u3 0), .inl (cI, 384, .inl (fun _ => 0)))] H := hP
  have hD : va_D A [(x, .inr (3, [.null, .null, .null, .null, .int 0, .int 0, .int 0, .int 0])), (q1, .inr (0, [.ref (u3 0), .int (-1), .int 0, .int 0])), ((u3 0), .inl (cI, 384, .inl (fun _ => 0)))] := hD
  refine va_putF (D := (dC, dI)) (ci := 3) (v := .ref q1) (ty := .object "LoggedStore$Disk") (C := "LoggedStore") (T := uS) (N := 8) hx hb hw inS tyS tyS_ok nmS hown hK hP hD hS 0 rfl rfl 0 (by decide) (hw _ w154) (fun _ h9 => h9) rfl hin rfl (by decide +kernel) rfl rfl (Nat.le_of_ble_eq_true rfl) dS_init_12 (fun H locs hP hD hS => ?_)
  have hP : va_P (dC, dI) vwC [(x, .inr (3, [.ref q1, .null, .null, .null, .int 0, .int 0, .int 0, .int 0])), (q1, .inr (0, [.ref (u3 0), .int (-1), .int 0, .int 0])), ((u3 0), .inl (cI, 384, .inl (fun _ => 0)))] H := hP
  have hD : va_D A [(x, .inr (3, [.ref q1, .null, .null, .null, .int 0, .int 0, .int 0, .int 0])), (q1, .inr (0, [.ref (u3 0), .int (-1), .int 0, .int 0])), ((u3 0), .inl (cI, 384, .inl (fun _ => 0)))] := hD
  refine lv_aload_n hx hb dS_init_15 rfl (lv_at hl 0 rfl) ?_
  refine va_new (ci := 1) (fs := [.null, .null, .int 0]) (C := "LoggedStore$Table") (T := uT) (N := 3) hx hb hw inT tyT tyT_ok hown (hw _ w84) (hw _ w85) (hw _ w42) hK hP hD hS hA rfl (fun j hj => by (have : j = 0 ∨ j = 1 ∨ j = 2 := by omega); rcases this with rfl | rfl | rfl <;> rfl) (Nat.le_of_ble_eq_true rfl) (Nat.le_of_ble_eq_true rfl) dS_init_16 (fun q4 H hP hD hS => ?_)
  have hP : va_P (dC, dI) vwC [(x, .inr (3, [.ref q1, .null, .null, .null, .int 0, .int 0, .int 0, .int 0])), (q1, .inr (0, [.ref (u3 0), .int (-1), .int 0, .int 0])), ((u3 0), .inl (cI, 384, .inl (fun _ => 0))), (q4, .inr (1, [.null, .null, .int 0]))] H := hP
  have hD : va_D A [(x, .inr (3, [.ref q1, .null, .null, .null, .int 0, .int 0, .int 0, .int 0])), (q1, .inr (0, [.ref (u3 0), .int (-1), .int 0, .int 0])), ((u3 0), .inl (cI, 384, .inl (fun _ => 0))), (q4, .inr (1, [.null, .null, .int 0]))] := hD
  refine lv_dup hx hb dS_init_19 rfl ?_
  have hPc := hP.sub (ws' := [(q4, .inr (1, [.null, .null, .int 0]))]) [3] rfl
  have hDc := hD.sub (ws' := [(q4, .inr (1, [.null, .null, .int 0]))]) [3] (by decide) rfl
  have hFc := va_free (wc := [(q4, .inr (1, [.null, .null, .int 0]))]) hD hS hA [3] rfl
  refine va_callv (va_runIN (b := q4) (As := []) (rest := [.ref q4, .ref x]) ⟨hx, hb, hml, hown, hw⟩ (c_T_init l dC dI cI cZ cJ cT q4 H.size) ⟨va_cnB 0 hw (gA0 w88) rfl rfl rfl hKK.2.n2 (hw _ w42) (by decide +kernel) ⟨Nat.le_of_ble_eq_true rfl, Nat.le_of_ble_eq_true rfl⟩, rfl, (hw _ w87)⟩ ⟨kb_Q, fun U hU hW => ⟨rfl, by rw [hU], by rw [hU]; exact hPc, hKK.moved hW, hDc.weaken (fun _ _ _ _ => trivial)⟩⟩ rfl rfl hl.1 rfl (lv_room (Nat.le_of_ble_eq_true rfl)) dS_init_20 ⟨Nat.le_of_ble_eq_true rfl, Nat.le_of_ble_eq_true rfl⟩) hS (fun q _ h => hFc q h) hFc (fun u6 t H1 locs ht hvm he9 hB hz1 hk1 hS => ?_)
  obtain ⟨hP1, hD1⟩ := hB
  rw [ht] at hP1
  obtain ⟨hP, hD⟩ := va_join (wr := [(x, .inr (3, [.ref q1, .null, .null, .null, .int 0, .int 0, .int 0, .int 0])), (q1, .inr (0, [.ref (u3 0), .int (-1), .int 0, .int 0])), ((u3 0), .inl (cI, 384, .inl (fun _ => 0)))]) (w1 := [(q4, .inr (1, [.ref (u6 0), .ref (u6 1), .int 0])), ((u6 0), .inl (cZ, 64, .inl (fun _ => 0))), ((u6 1), .inl (cI, 64, .inl (fun _ => 0)))]) hP hD [3] [0, 1, 2] rfl rfl (by decide) (by decide) hk1 hFc hP1 hD1
  generalize H1 = H at hP hS ⊢
  have hP : va_P (dC, dI) vwC [(x, .inr (3, [.ref q1, .null, .null, .null, .int 0, .int 0, .int 0, .int 0])), (q1, .inr (0, [.ref (u3 0), .int (-1), .int 0, .int 0])), ((u3 0), .inl (cI, 384, .inl (fun _ => 0))), (q4, .inr (1, [.ref (u6 0), .ref (u6 1), .int 0])), ((u6 0), .inl (cZ, 64, .inl (fun _ => 0))), ((u6 1), .inl (cI, 64, .inl (fun _ => 0)))] H := hP
  have hD : va_D A [(x, .inr (3, [.ref q1, .null, .null, .null, .int 0, .int 0, .int 0, .int 0])), (q1, .inr (0, [.ref (u3 0), .int (-1), .int 0, .int 0])), ((u3 0), .inl (cI, 384, .inl (fun _ => 0))), (q4, .inr (1, [.ref (u6 0), .ref (u6 1), .int 0])), ((u6 0), .inl (cZ, 64, .inl (fun _ => 0))), ((u6 1), .inl (cI, 64, .inl (fun _ => 0)))] := hD
  refine va_putF (D := (dC, dI)) (ci := 3) (v := .ref q4) (ty := .object "LoggedStore$Table") (C := "LoggedStore") (T := uS) (N := 8) hx hb hw inS tyS tyS_ok nmS hown hK hP hD hS 0 rfl rfl 1 (by decide) (hw _ w155) (fun _ h9 => h9) rfl hin rfl (by decide +kernel) rfl rfl (Nat.le_of_ble_eq_true rfl) dS_init_23 (fun H locs hP hD hS => ?_)
  have hP : va_P (dC, dI) vwC [(x, .inr (3, [.ref q1, .ref q4, .null, .null, .int 0, .int 0, .int 0, .int 0])), (q1, .inr (0, [.ref (u3 0), .int (-1), .int 0, .int 0])), ((u3 0), .inl (cI, 384, .inl (fun _ => 0))), (q4, .inr (1, [.ref (u6 0), .ref (u6 1), .int 0])), ((u6 0), .inl (cZ, 64, .inl (fun _ => 0))), ((u6 1), .inl (cI, 64, .inl (fun _ => 0)))] H := hP
  have hD : va_D A [(x, .inr (3, [.ref q1, .ref q4, .null, .null, .int 0, .int 0, .int 0, .int 0])), (q1, .inr (0, [.ref (u3 0), .int (-1), .int 0, .int 0])), ((u3 0), .inl (cI, 384, .inl (fun _ => 0))), (q4, .inr (1, [.ref (u6 0), .ref (u6 1), .int 0])), ((u6 0), .inl (cZ, 64, .inl (fun _ => 0))), ((u6 1), .inl (cI, 64, .inl (fun _ => 0)))] := hD
  refine lv_aload_n hx hb dS_init_26 rfl (lv_at hl 0 rfl) ?_
  refine lv_bipush (v := 64) hx hb dS_init_27 (by decide) ?_
  refine va_newa (atype := .int) (a0 := (64, .inl (fun _ => 0))) (ty := .int) hx hb (hw _ w83) rfl hK hP hD hS hA (fun _ => rfl) (by decide) (by decide) (by decide) (Nat.le_of_ble_eq_true rfl) (Nat.le_of_ble_eq_true rfl) dS_init_29 (fun q7 cA H hK hP hD hS => ?_)
  obtain rfl := tk_eq hK (i := 0) (j := 4) rfl rfl
  have hK := hK.sub (tys' := tyA cI cZ cJ cT) [0, 1, 2, 3] rfl
  have hP : va_P (dC, dI) vwC [(x, .inr (3, [.ref q1, .ref q4, .null, .null, .int 0, .int 0, .int 0, .int 0])), (q1, .inr (0, [.ref (u3 0), .int (-1), .int 0, .int 0])), ((u3 0), .inl (cI, 384, .inl (fun _ => 0))), (q4, .inr (1, [.ref (u6 0), .ref (u6 1), .int 0])), ((u6 0), .inl (cZ, 64, .inl (fun _ => 0))), ((u6 1), .inl (cI, 64, .inl (fun _ => 0))), (q7, .inl (cI, 64, .inl (fun _ => 0)))] H := hP
  have hD : va_D A [(x, .inr (3, [.ref q1, .ref q4, .null, .null, .int 0, .int 0, .int 0, .int 0])), (q1, .inr (0, [.ref (u3 0), .int (-1), .int 0, .int 0])), ((u3 0), .inl (cI, 384, .inl (fun _ => 0))), (q4, .inr (1, [.ref (u6 0), .ref (u6 1), .int 0])), ((u6 0), .inl (cZ, 64, .inl (fun _ => 0))), ((u6 1), .inl (cI, 64, .inl (fun _ => 0))), (q7, .inl (cI, 64, .inl (fun _ => 0)))] := hD
  refine va_putF (D := (dC, dI)) (ci := 3) (v := .ref q7) (ty := .array .int) (C := "LoggedStore") (T := uS) (N := 8) hx hb hw inS tyS tyS_ok nmS hown hK hP hD hS 0 rfl rfl 2 (by decide) (hw _ w156) (fun _ h9 => h9) rfl hin rfl (by decide +kernel) rfl rfl (Nat.le_of_ble_eq_true rfl) dS_init_31 (fun H locs hP hD hS => ?_)
  have hP : va_P (dC, dI) vwC [(x, .inr (3, [.ref q1, .ref q4, .ref q7, .null, .int 0, .int 0, .int 0, .int 0])), (q1, .inr (0, [.ref (u3 0), .int (-1), .int 0, .int 0])), ((u3 0), .inl (cI, 384, .inl (fun _ => 0))), (q4, .inr (1, [.ref (u6 0), .ref (u6 1), .int 0])), ((u6 0), .inl (cZ, 64, .inl (fun _ => 0))), ((u6 1), .inl (cI, 64, .inl (fun _ => 0))), (q7, .inl (cI, 64, .inl (fun _ => 0)))] H := hP
  have hD : va_D A [(x, .inr (3, [.ref q1, .ref q4, .ref q7, .null, .int 0, .int 0, .int 0, .int 0])), (q1, .inr (0, [.ref (u3 0), .int (-1), .int 0, .int 0])), ((u3 0), .inl (cI, 384, .inl (fun _ => 0))), (q4, .inr (1, [.ref (u6 0), .ref (u6 1), .int 0])), ((u6 0), .inl (cZ, 64, .inl (fun _ => 0))), ((u6 1), .inl (cI, 64, .inl (fun _ => 0))), (q7, .inl (cI, 64, .inl (fun _ => 0)))] := hD
  refine lv_aload_n hx hb dS_init_34 rfl (lv_at hl 0 rfl) ?_
  refine lv_iconst (v := 3) hx hb dS_init_35 (by decide) ?_
  refine va_newq (N' := 3) hx hb hown (hw _ w104) hKK.2.ao hK hP hD hS hA (by decide) (by decide) (by decide) (Nat.le_of_ble_eq_true rfl) (Nat.le_of_ble_eq_true rfl) dS_init_36 (fun q8 cA H hK hP hD hS => ?_)
  obtain rfl := tk_eq hK (i := 3) (j := 4) rfl rfl
  have hK := hK.sub (tys' := tyA cI cZ cJ cT) [0, 1, 2, 3] rfl
  have hP : va_P (dC, dI) vwC [(x, .inr (3, [.ref q1, .ref q4, .ref q7, .null, .int 0, .int 0, .int 0, .int 0])), (q1, .inr (0, [.ref (u3 0), .int (-1), .int 0, .int 0])), ((u3 0), .inl (cI, 384, .inl (fun _ => 0))), (q4, .inr (1, [.ref (u6 0), .ref (u6 1), .int 0])), ((u6 0), .inl (cZ, 64, .inl (fun _ => 0))), ((u6 1), .inl (cI, 64, .inl (fun _ => 0))), (q7, .inl (cI, 64, .inl (fun _ => 0))), (q8, .inl (cT, 3, .inr (.inr (.inr (.inr (fun _ => none))))))] H := hP
  have hD : va_D A [(x, .inr (3, [.ref q1, .ref q4, .ref q7, .null, .int 0, .int 0, .int 0, .int 0])), (q1, .inr (0, [.ref (u3 0), .int (-1), .int 0, .int 0])), ((u3 0), .inl (cI, 384, .inl (fun _ => 0))), (q4, .inr (1, [.ref (u6 0), .ref (u6 1), .int 0])), ((u6 0), .inl (cZ, 64, .inl (fun _ => 0))), ((u6 1), .inl (cI, 64, .inl (fun _ => 0))), (q7, .inl (cI, 64, .inl (fun _ => 0))), (q8, .inl (cT, 3, .inr (.inr (.inr (.inr (fun _ => none))))))] := hD
  refine va_putF (D := (dC, dI)) (ci := 3) (v := .ref q8) (ty := .array (.object "LoggedStore$Transaction")) (C := "LoggedStore") (T := uS) (N := 8) hx hb hw inS tyS tyS_ok nmS hown hK hP hD hS 0 rfl rfl 3 (by decide) (hw _ w157) (fun _ h9 => h9) rfl hin rfl (by decide +kernel) rfl rfl (Nat.le_of_ble_eq_true rfl) dS_init_39 (fun H locs hP hD hS => ?_)
  have hP : va_P (dC, dI) vwC [(x, .inr (3, [.ref q1, .ref q4, .ref q7, .ref q8, .int 0, .int 0, .int 0, .int 0])), (q1, .inr (0, [.ref (u3 0), .int (-1), .int 0, .int 0])), ((u3 0), .inl (cI, 384, .inl (fun _ => 0))), (q4, .inr (1, [.ref (u6 0), .ref (u6 1), .int 0])), ((u6 0), .inl (cZ, 64, .inl (fun _ => 0))), ((u6 1), .inl (cI, 64, .inl (fun _ => 0))), (q7, .inl (cI, 64, .inl (fun _ => 0))), (q8, .inl (cT, 3, .inr (.inr (.inr (.inr (fun _ => none))))))] H := hP
  have hD : va_D A [(x, .inr (3, [.ref q1, .ref q4, .ref q7, .ref q8, .int 0, .int 0, .int 0, .int 0])), (q1, .inr (0, [.ref (u3 0), .int (-1), .int 0, .int 0])), ((u3 0), .inl (cI, 384, .inl (fun _ => 0))), (q4, .inr (1, [.ref (u6 0), .ref (u6 1), .int 0])), ((u6 0), .inl (cZ, 64, .inl (fun _ => 0))), ((u6 1), .inl (cI, 64, .inl (fun _ => 0))), (q7, .inl (cI, 64, .inl (fun _ => 0))), (q8, .inl (cT, 3, .inr (.inr (.inr (.inr (fun _ => none))))))] := hD
  refine lv_aload_n hx hb dS_init_42 rfl (lv_at hl 0 rfl) ?_
  refine lv_iconst (v := 0) hx hb dS_init_43 (by decide) ?_
  refine va_put (D := (dC, dI)) (ci := 3) (v := .int 0) (ty := .int) (C := "LoggedStore") (T := uS) (N := 8) hx hb hw inS tyS tyS_ok nmS hown hK hP hD hS 0 rfl rfl 4 (by decide) (hw _ w158) (fun _ h9 => h9) rfl (by decide +kernel) rfl rfl (Nat.le_of_ble_eq_true rfl) dS_init_44 (fun H locs hP hD hS => ?_)
  have hP : va_P (dC, dI) vwC [(x, .inr (3, [.ref q1, .ref q4, .ref q7, .ref q8, .int 0, .int 0, .int 0, .int 0])), (q1, .inr (0, [.ref (u3 0), .int (-1), .int 0, .int 0])), ((u3 0), .inl (cI, 384, .inl (fun _ => 0))), (q4, .inr (1, [.ref (u6 0), .ref (u6 1), .int 0])), ((u6 0), .inl (cZ, 64, .inl (fun _ => 0))), ((u6 1), .inl (cI, 64, .inl (fun _ => 0))), (q7, .inl (cI, 64, .inl (fun _ => 0))), (q8, .inl (cT, 3, .inr (.inr (.inr (.inr (fun _ => none))))))] H := hP
  have hD : va_D A [(x, .inr (3, [.ref q1, .ref q4, .ref q7, .ref q8, .int 0, .int 0, .int 0, .int 0])), (q1, .inr (0, [.ref (u3 0), .int (-1), .int 0, .int 0])), ((u3 0), .inl (cI, 384, .inl (fun _ => 0))), (q4, .inr (1, [.ref (u6 0), .ref (u6 1), .int 0])), ((u6 0), .inl (cZ, 64, .inl (fun _ => 0))), ((u6 1), .inl (cI, 64, .inl (fun _ => 0))), (q7, .inl (cI, 64, .inl (fun _ => 0))), (q8, .inl (cT, 3, .inr (.inr (.inr (.inr (fun _ => none))))))] := hD
  refine lv_aload_n hx hb dS_init_47 rfl (lv_at hl 0 rfl) ?_
  refine lv_iconst (v := 1) hx hb dS_init_48 (by decide) ?_
  refine va_put (D := (dC, dI)) (ci := 3) (v := .int 1) (ty := .int) (C := "LoggedStore") (T := uS) (N := 8) hx hb hw inS tyS tyS_ok nmS hown hK hP hD hS 0 rfl rfl 5 (by decide) (hw _ w159) (fun _ h9 => h9) rfl (by decide +kernel) rfl rfl (Nat.le_of_ble_eq_true rfl) dS_init_49 (fun H locs hP hD hS => ?_)
  have hP : va_P (dC, dI) vwC [(x, .inr (3, [.ref q1, .ref q4, .ref q7, .ref q8, .int 0, .int 1, .int 0, .int 0])), (q1, .inr (0, [.ref (u3 0), .int (-1), .int 0, .int 0])), ((u3 0), .inl (cI, 384, .inl (fun _ => 0))), (q4, .inr (1, [.ref (u6 0), .ref (u6 1), .int 0])), ((u6 0), .inl (cZ, 64, .inl (fun _ => 0))), ((u6 1), .inl (cI, 64, .inl (fun _ => 0))), (q7, .inl (cI, 64, .inl (fun _ => 0))), (q8, .inl (cT, 3, .inr (.inr (.inr (.inr (fun _ => none))))))] H := hP
  have hD : va_D A [(x, .inr (3, [.ref q1, .ref q4, .ref q7, .ref q8, .int 0, .int 1, .int 0, .int 0])), (q1, .inr (0, [.ref (u3 0), .int (-1), .int 0, .int 0])), ((u3 0), .inl (cI, 384, .inl (fun _ => 0))), (q4, .inr (1, [.ref (u6 0), .ref (u6 1), .int 0])), ((u6 0), .inl (cZ, 64, .inl (fun _ => 0))), ((u6 1), .inl (cI, 64, .inl (fun _ => 0))), (q7, .inl (cI, 64, .inl (fun _ => 0))), (q8, .inl (cT, 3, .inr (.inr (.inr (.inr (fun _ => none))))))] := hD
  refine lv_aload_n hx hb dS_init_52 rfl (lv_at hl 0 rfl) ?_
  refine lv_iconst (v := 0) hx hb dS_init_53 (by decide) ?_
  refine va_put (D := (dC, dI)) (ci := 3) (v := .int 0) (ty := .int) (C := "LoggedStore") (T := uS) (N := 8) hx hb hw inS tyS tyS_ok nmS hown hK hP hD hS 0 rfl rfl 6 (by decide) (hw _ w160) (fun _ h9 => h9) rfl (by decide +kernel) rfl rfl (Nat.le_of_ble_eq_true rfl) dS_init_54 (fun H locs hP hD hS => ?_)
  have hP : va_P (dC, dI) vwC [(x, .inr (3, [.ref q1, .ref q4, .ref q7, .ref q8, .int 0, .int 1, .int 0, .int 0])), (q1, .inr (0, [.ref (u3 0), .int (-1), .int 0, .int 0])), ((u3 0), .inl (cI, 384, .inl (fun _ => 0))), (q4, .inr (1, [.ref (u6 0), .ref (u6 1), .int 0])), ((u6 0), .inl (cZ, 64, .inl (fun _ => 0))), ((u6 1), .inl (cI, 64, .inl (fun _ => 0))), (q7, .inl (cI, 64, .inl (fun _ => 0))), (q8, .inl (cT, 3, .inr (.inr (.inr (.inr (fun _ => none))))))] H := hP
  have hD : va_D A [(x, .inr (3, [.ref q1, .ref q4, .ref q7, .ref q8, .int 0, .int 1, .int 0, .int 0])), (q1, .inr (0, [.ref (u3 0), .int (-1), .int 0, .int 0])), ((u3 0), .inl (cI, 384, .inl (fun _ => 0))), (q4, .inr (1, [.ref (u6 0), .ref (u6 1), .int 0])), ((u6 0), .inl (cZ, 64, .inl (fun _ => 0))), ((u6 1), .inl (cI, 64, .inl (fun _ => 0))), (q7, .inl (cI, 64, .inl (fun _ => 0))), (q8, .inl (cT, 3, .inr (.inr (.inr (.inr (fun _ => none))))))] := hD
  refine lv_aload_n hx hb dS_init_57 rfl (lv_at hl 0 rfl) ?_
  refine lv_bipush (v := 22) hx hb dS_init_58 (by decide) ?_
  refine va_put (D := (dC, dI)) (ci := 3) (v := .int 22) (ty := .int) (C := "LoggedStore") (T := uS) (N := 8) hx hb hw inS tyS tyS_ok nmS hown hK hP hD hS 0 rfl rfl 7 (by decide) (hw _ w161) (fun _ h9 => h9) rfl (by decide +kernel) rfl rfl (Nat.le_of_ble_eq_true rfl) dS_init_60 (fun H locs hP hD hS => ?_)
  have hP : va_P (dC, dI) vwC [(x, .inr (3, [.ref q1, .ref q4, .ref q7, .ref q8, .int 0, .int 1, .int 0, .int 22])), (q1, .inr (0, [.ref (u3 0), .int (-1), .int 0, .int 0])), ((u3 0), .inl (cI, 384, .inl (fun _ => 0))), (q4, .inr (1, [.ref (u6 0), .ref (u6 1), .int 0])), ((u6 0), .inl (cZ, 64, .inl (fun _ => 0))), ((u6 1), .inl (cI, 64, .inl (fun _ => 0))), (q7, .inl (cI, 64, .inl (fun _ => 0))), (q8, .inl (cT, 3, .inr (.inr (.inr (.inr (fun _ => none))))))] H := hP
  have hD : va_D A [(x, .inr (3, [.ref q1, .ref q4, .ref q7, .ref q8, .int 0, .int 1, .int 0, .int 22])), (q1, .inr (0, [.ref (u3 0), .int (-1), .int 0, .int 0])), ((u3 0), .inl (cI, 384, .inl (fun _ => 0))), (q4, .inr (1, [.ref (u6 0), .ref (u6 1), .int 0])), ((u6 0), .inl (cZ, 64, .inl (fun _ => 0))), ((u6 1), .inl (cI, 64, .inl (fun _ => 0))), (q7, .inl (cI, 64, .inl (fun _ => 0))), (q8, .inl (cT, 3, .inr (.inr (.inr (.inr (fun _ => none))))))] := hD
  refine lv_iconst (v := 0) hx hb dS_init_63 (by decide) ?_
  refine lv_istore_n hx hb dS_init_64 rfl hl (by decide) rfl (fun ls hl => ?_)
  have hl : lv_has ls 2 [(1, .int 0), (0, .ref x)] := hl
  refine lv_iload_n hx hb dS_init_65 rfl (lv_at hl 0 rfl) ?_
  refine lv_iconst (v := 3) hx hb dS_init_66 (by decide) ?_
  refine lv_icmp_ge (tgt := 89) hx hb dS_init_67 (by decide) (fun h9 => absurd h9 (by decide)) (fun _ => ?_)
  refine lv_aload_n hx hb dS_init_70 rfl (lv_at hl 1 rfl) ?_
  refine va_get (D := (dC, dI)) (ci := 3) (v := .ref q8) (C := "LoggedStore") (T := uS) (N := 8) hx hb hw inS hown hK hP 0 rfl rfl 3 (by decide) (hw _ w157) (fun _ h9 => h9) rfl dS_init_71 ?_
  refine lv_iload_n hx hb dS_init_74 rfl (lv_at hl 0 rfl) ?_
  refine va_new (ci := 2) (fs := [.null, .null, .int 0, .int 0, .int 0]) (C := "LoggedStore$Transaction") (T := uR) (N := 5) hx hb hw inR tyR tyR_ok hown (hw _ w104) (hw _ w106) (hw _ w43) hK hP hD hS hA rfl (fun j hj => by (have : j = 0 ∨ j = 1 ∨ j = 2 ∨ j = 3 ∨ j = 4 := by omega); rcases this with rfl | rfl | rfl | rfl | rfl <;> rfl) (Nat.le_of_ble_eq_true rfl) (Nat.le_of_ble_eq_true rfl) dS_init_75 (fun q9 H hP hD hS => ?_)
  have hP : va_P (dC, dI) vwC [(x, .inr (3, [.ref q1, .ref q4, .ref q7, .ref q8, .int 0, .int 1, .int 0, .int 22])), (q1, .inr (0, [.ref (u3 0), .int (-1), .int 0, .int 0])), ((u3 0), .inl (cI, 384, .inl (fun _ => 0))), (q4, .inr (1, [.ref (u6 0), .ref (u6 1), .int 0])), ((u6 0), .inl (cZ, 64, .inl (fun _ => 0))), ((u6 1), .inl (cI, 64, .inl (fun _ => 0))), (q7, .inl (cI, 64, .inl (fun _ => 0))), (q8, .inl (cT, 3, .inr (.inr (.inr (.inr (fun _ => none)))))), (q9, .inr (2, [.null, .null, .int 0, .int 0, .int 0]))] H := hP
  have hD : va_D A [(x, .inr (3, [.ref q1, .ref q4, .ref q7, .ref q8, .int 0, .int 1, .int 0, .int 22])), (q1, .inr (0, [.ref (u3 0), .int (-1), .int 0, .int 0])), ((u3 0), .inl (cI, 384, .inl (fun _ => 0))), (q4, .inr (1, [.ref (u6 0), .ref (u6 1), .int 0])), ((u6 0), .inl (cZ, 64, .inl (fun _ => 0))), ((u6 1), .inl (cI, 64, .inl (fun _ => 0))), (q7, .inl (cI, 64, .inl (fun _ => 0))), (q8, .inl (cT, 3, .inr (.inr (.inr (.inr (fun _ => none)))))), (q9, .inr (2, [.null, .null, .int 0, .int 0, .int 0]))] := hD
  refine lv_dup hx hb dS_init_78 rfl ?_
  have hPc := hP.sub (ws' := [(q9, .inr (2, [.null, .null, .int 0, .int 0, .int 0]))]) [8] rfl
  have hDc := hD.sub (ws' := [(q9, .inr (2, [.null, .null, .int 0, .int 0, .int 0]))]) [8] (by decide) rfl
  have hFc := va_free (wc := [(q9, .inr (2, [.null, .null, .int 0, .int 0, .int 0]))]) hD hS hA [8] rfl
  refine va_callv (va_runIN (b := q9) (As := []) (rest := [.ref q9, .int 0, .ref q8]) ⟨hx, hb, hml, hown, hw⟩ (c_R_init l dC dI cI cZ cJ cT q9 H.size) ⟨va_cnB 0 hw (gA0 w109) rfl rfl rfl hKK.2.n3 (hw _ w43) (by decide +kernel) ⟨Nat.le_of_ble_eq_true rfl, Nat.le_of_ble_eq_true rfl⟩, rfl, (hw _ w108)⟩ ⟨kb_Q, fun U hU hW => ⟨rfl, by rw [hU], by rw [hU]; exact hPc, hKK.moved hW, hDc.weaken (fun _ _ _ _ => trivial)⟩⟩ rfl rfl hl.1 rfl (lv_room (Nat.le_of_ble_eq_true rfl)) dS_init_79 ⟨Nat.le_of_ble_eq_true rfl, Nat.le_of_ble_eq_true rfl⟩) hS (fun q _ h => hFc q h) hFc (fun u11 t H1 locs ht hvm he9 hB hz1 hk1 hS => ?_)
  obtain ⟨hP1, hD1⟩ := hB
  rw [ht] at hP1
  obtain ⟨hP, hD⟩ := va_join (wr := [(x, .inr (3, [.ref q1, .ref q4, .ref q7, .ref q8, .int 0, .int 1, .int 0, .int 22])), (q1, .inr (0, [.ref (u3 0), .int (-1), .int 0, .int 0])), ((u3 0), .inl (cI, 384, .inl (fun _ => 0))), (q4, .inr (1, [.ref (u6 0), .ref (u6 1), .int 0])), ((u6 0), .inl (cZ, 64, .inl (fun _ => 0))), ((u6 1), .inl (cI, 64, .inl (fun _ => 0))), (q7, .inl (cI, 64, .inl (fun _ => 0))), (q8, .inl (cT, 3, .inr (.inr (.inr (.inr (fun _ => none))))))]) (w1 := [(q9, .inr (2, [.ref (u11 0), .ref (u11 3), .int 0, .int 0, .int 0])), ((u11 0), .inr (1, [.ref (u11 1), .ref (u11 2), .int 0])), ((u11 1), .inl (cZ, 64, .inl (fun _ => 0))), ((u11 2), .inl (cI, 64, .inl (fun _ => 0))), ((u11 3), .inl (cZ, 64, .inl (fun _ => 0)))]) hP hD [8] [0, 1, 2, 3, 4, 5, 6, 7] rfl rfl (by decide) (by decide) hk1 hFc hP1 hD1
  generalize H1 = H at hP hS ⊢
  have hP : va_P (dC, dI) vwC [(x, .inr (3, [.ref q1, .ref q4, .ref q7, .ref q8, .int 0, .int 1, .int 0, .int 22])), (q1, .inr (0, [.ref (u3 0), .int (-1), .int 0, .int 0])), ((u3 0), .inl (cI, 384, .inl (fun _ => 0))), (q4, .inr (1, [.ref (u6 0), .ref (u6 1), .int 0])), ((u6 0), .inl (cZ, 64, .inl (fun _ => 0))), ((u6 1), .inl (cI, 64, .inl (fun _ => 0))), (q7, .inl (cI, 64, .inl (fun _ => 0))), (q8, .inl (cT, 3, .inr (.inr (.inr (.inr (fun _ => none)))))), (q9, .inr (2, [.ref (u11 0), .ref (u11 3), .int 0, .int 0, .int 0])), ((u11 0), .inr (1, [.ref (u11 1), .ref (u11 2), .int 0])), ((u11 1), .inl (cZ, 64, .inl (fun _ => 0))), ((u11 2), .inl (cI, 64, .inl (fun _ => 0))), ((u11 3), .inl (cZ, 64, .inl (fun _ => 0)))] H := hP
  have hD : va_D A [(x, .inr (3, [.ref q1, .ref q4, .ref q7, .ref q8, .int 0, .int 1, .int 0, .int 22])), (q1, .inr (0, [.ref (u3 0), .int (-1), .int 0, .int 0])), ((u3 0), .inl (cI, 384, .inl (fun _ => 0))), (q4, .inr (1, [.ref (u6 0), .ref (u6 1), .int 0])), ((u6 0), .inl (cZ, 64, .inl (fun _ => 0))), ((u6 1), .inl (cI, 64, .inl (fun _ => 0))), (q7, .inl (cI, 64, .inl (fun _ => 0))), (q8, .inl (cT, 3, .inr (.inr (.inr (.inr (fun _ => none)))))), (q9, .inr (2, [.ref (u11 0), .ref (u11 3), .int 0, .int 0, .int 0])), ((u11 0), .inr (1, [.ref (u11 1), .ref (u11 2), .int 0])), ((u11 1), .inl (cZ, 64, .inl (fun _ => 0))), ((u11 2), .inl (cI, 64, .inl (fun _ => 0))), ((u11 3), .inl (cZ, 64, .inl (fun _ => 0)))] := hD
  refine va_astq hx hb hK hP hD hS 7 3 8 2 rfl rfl rfl rfl (tv_in (by decide +kernel)) dS_init_82 (fun H locs hP hD hS => ?_)
  have hP : va_P (dC, dI) vwC [(x, .inr (3, [.ref q1, .ref q4, .ref q7, .ref q8, .int 0, .int 1, .int 0, .int 22])), (q1, .inr (0, [.ref (u3 0), .int (-1), .int 0, .int 0])), ((u3 0), .inl (cI, 384, .inl (fun _ => 0))), (q4, .inr (1, [.ref (u6 0), .ref (u6 1), .int 0])), ((u6 0), .inl (cZ, 64, .inl (fun _ => 0))), ((u6 1), .inl (cI, 64, .inl (fun _ => 0))), (q7, .inl (cI, 64, .inl (fun _ => 0))), (q8, .inl (cT, 3, .inr (.inr (.inr (.inr (va_up (fun _ => none) (0 : Int32).toNatClampNeg (some q9))))))), (q9, .inr (2, [.ref (u11 0), .ref (u11 3), .int 0, .int 0, .int 0])), ((u11 0), .inr (1, [.ref (u11 1), .ref (u11 2), .int 0])), ((u11 1), .inl (cZ, 64, .inl (fun _ => 0))), ((u11 2), .inl (cI, 64, .inl (fun _ => 0))), ((u11 3), .inl (cZ, 64, .inl (fun _ => 0)))] H := hP
  have hD : va_D A [(x, .inr (3, [.ref q1, .ref q4, .ref q7, .ref q8, .int 0, .int 1, .int 0, .int 22])), (q1, .inr (0, [.ref (u3 0), .int (-1), .int 0, .int 0])), ((u3 0), .inl (cI, 384, .inl (fun _ => 0))), (q4, .inr (1, [.ref (u6 0), .ref (u6 1), .int 0])), ((u6 0), .inl (cZ, 64, .inl (fun _ => 0))), ((u6 1), .inl (cI, 64, .inl (fun _ => 0))), (q7, .inl (cI, 64, .inl (fun _ => 0))), (q8, .inl (cT, 3, .inr (.inr (.inr (.inr (va_up (fun _ => none) (0 : Int32).toNatClampNeg (some q9))))))), (q9, .inr (2, [.ref (u11 0), .ref (u11 3), .int 0, .int 0, .int 0])), ((u11 0), .inr (1, [.ref (u11 1), .ref (u11 2), .int 0])), ((u11 1), .inl (cZ, 64, .inl (fun _ => 0))), ((u11 2), .inl (cI, 64, .inl (fun _ => 0))), ((u11 3), .inl (cZ, 64, .inl (fun _ => 0)))] := hD
  refine lv_iinc (k := 0) (v := 1) hx hb dS_init_83 hl rfl (by decide +kernel) (by decide) rfl (fun ls hl => ?_)
  have hl : lv_has ls 2 [(1, .int 1), (0, .ref x)] := hl
  refine lv_goto (tgt := 65) hx hb dS_init_86 (by decide) ?_
  refine lv_iload_n hx hb dS_init_65 rfl (lv_at hl 0 rfl) ?_
  refine lv_iconst (v := 3) hx hb dS_init_66 (by decide) ?_
  refine lv_icmp_ge (tgt := 89) hx hb dS_init_67 (by decide) (fun h9 => absurd h9 (by decide)) (fun _ => ?_)
  refine lv_aload_n hx hb dS_init_70 rfl (lv_at hl 1 rfl) ?_
  refine va_get (D := (dC, dI)) (ci := 3) (v := .ref q8) (C := "LoggedStore") (T := uS) (N := 8) hx hb hw inS hown hK hP 0 rfl rfl 3 (by decide) (hw _ w157) (fun _ h9 => h9) rfl dS_init_71 ?_
  refine lv_iload_n hx hb dS_init_74 rfl (lv_at hl 0 rfl) ?_
  refine va_new (ci := 2) (fs := [.null, .null, .int 0, .int 0, .int 0]) (C := "LoggedStore$Transaction") (T := uR) (N := 5) hx hb hw inR tyR tyR_ok hown (hw _ w104) (hw _ w106) (hw _ w43) hK hP hD hS hA rfl (fun j hj => by (have : j = 0 ∨ j = 1 ∨ j = 2 ∨ j = 3 ∨ j = 4 := by omega); rcases this with rfl | rfl | rfl | rfl | rfl <;> rfl) (Nat.le_of_ble_eq_true rfl) (Nat.le_of_ble_eq_true rfl) dS_init_75 (fun q12 H hP hD hS => ?_)
  have hP : va_P (dC, dI) vwC [(x, .inr (3, [.ref q1, .ref q4, .ref q7, .ref q8, .int 0, .int 1, .int 0, .int 22])), (q1, .inr (0, [.ref (u3 0), .int (-1), .int 0, .int 0])), ((u3 0), .inl (cI, 384, .inl (fun _ => 0))), (q4, .inr (1, [.ref (u6 0), .ref (u6 1), .int 0])), ((u6 0), .inl (cZ, 64, .inl (fun _ => 0))), ((u6 1), .inl (cI, 64, .inl (fun _ => 0))), (q7, .inl (cI, 64, .inl (fun _ => 0))), (q8, .inl (cT, 3, .inr (.inr (.inr (.inr (va_up (fun _ => none) (0 : Int32).toNatClampNeg (some q9))))))), (q9, .inr (2, [.ref (u11 0), .ref (u11 3), .int 0, .int 0, .int 0])), ((u11 0), .inr (1, [.ref (u11 1), .ref (u11 2), .int 0])), ((u11 1), .inl (cZ, 64, .inl (fun _ => 0))), ((u11 2), .inl (cI, 64, .inl (fun _ => 0))), ((u11 3), .inl (cZ, 64, .inl (fun _ => 0))), (q12, .inr (2, [.null, .null, .int 0, .int 0, .int 0]))] H := hP
  have hD : va_D A [(x, .inr (3, [.ref q1, .ref q4, .ref q7, .ref q8, .int 0, .int 1, .int 0, .int 22])), (q1, .inr (0, [.ref (u3 0), .int (-1), .int 0, .int 0])), ((u3 0), .inl (cI, 384, .inl (fun _ => 0))), (q4, .inr (1, [.ref (u6 0), .ref (u6 1), .int 0])), ((u6 0), .inl (cZ, 64, .inl (fun _ => 0))), ((u6 1), .inl (cI, 64, .inl (fun _ => 0))), (q7, .inl (cI, 64, .inl (fun _ => 0))), (q8, .inl (cT, 3, .inr (.inr (.inr (.inr (va_up (fun _ => none) (0 : Int32).toNatClampNeg (some q9))))))), (q9, .inr (2, [.ref (u11 0), .ref (u11 3), .int 0, .int 0, .int 0])), ((u11 0), .inr (1, [.ref (u11 1), .ref (u11 2), .int 0])), ((u11 1), .inl (cZ, 64, .inl (fun _ => 0))), ((u11 2), .inl (cI, 64, .inl (fun _ => 0))), ((u11 3), .inl (cZ, 64, .inl (fun _ => 0))), (q12, .inr (2, [.null, .null, .int 0, .int 0, .int 0]))] := hD
  refine lv_dup hx hb dS_init_78 rfl ?_
  have hPc := hP.sub (ws' := [(q12, .inr (2, [.null, .null, .int 0, .int 0, .int 0]))]) [13] rfl
  have hDc := hD.sub (ws' := [(q12, .inr (2, [.null, .null, .int 0, .int 0, .int 0]))]) [13] (by decide) rfl
  have hFc := va_free (wc := [(q12, .inr (2, [.null, .null, .int 0, .int 0, .int 0]))]) hD hS hA [13] rfl
  refine va_callv (va_runIN (b := q12) (As := []) (rest := [.ref q12, .int 1, .ref q8]) ⟨hx, hb, hml, hown, hw⟩ (c_R_init l dC dI cI cZ cJ cT q12 H.size) ⟨va_cnB 0 hw (gA0 w109) rfl rfl rfl hKK.2.n3 (hw _ w43) (by decide +kernel) ⟨Nat.le_of_ble_eq_true rfl, Nat.le_of_ble_eq_true rfl⟩, rfl, (hw _ w108)⟩ ⟨kb_Q, fun U hU hW => ⟨rfl, by rw [hU], by rw [hU]; exact hPc, hKK.moved hW, hDc.weaken (fun _ _ _ _ => trivial)⟩⟩ rfl rfl hl.1 rfl (lv_room (Nat.le_of_ble_eq_true rfl)) dS_init_79 ⟨Nat.le_of_ble_eq_true rfl, Nat.le_of_ble_eq_true rfl⟩) hS (fun q _ h => hFc q h) hFc (fun u14 t H1 locs ht hvm he9 hB hz1 hk1 hS => ?_)
  obtain ⟨hP1, hD1⟩ := hB
  rw [ht] at hP1
  obtain ⟨hP, hD⟩ := va_join (wr := [(x, .inr (3, [.ref q1, .ref q4, .ref q7, .ref q8, .int 0, .int 1, .int 0, .int 22])), (q1, .inr (0, [.ref (u3 0), .int (-1), .int 0, .int 0])), ((u3 0), .inl (cI, 384, .inl (fun _ => 0))), (q4, .inr (1, [.ref (u6 0), .ref (u6 1), .int 0])), ((u6 0), .inl (cZ, 64, .inl (fun _ => 0))), ((u6 1), .inl (cI, 64, .inl (fun _ => 0))), (q7, .inl (cI, 64, .inl (fun _ => 0))), (q8, .inl (cT, 3, .inr (.inr (.inr (.inr (va_up (fun _ => none) (0 : Int32).toNatClampNeg (some q9))))))), (q9, .inr (2, [.ref (u11 0), .ref (u11 3), .int 0, .int 0, .int 0])), ((u11 0), .inr (1, [.ref (u11 1), .ref (u11 2), .int 0])), ((u11 1), .inl (cZ, 64, .inl (fun _ => 0))), ((u11 2), .inl (cI, 64, .inl (fun _ => 0))), ((u11 3), .inl (cZ, 64, .inl (fun _ => 0)))]) (w1 := [(q12, .inr (2, [.ref (u14 0), .ref (u14 3), .int 0, .int 0, .int 0])), ((u14 0), .inr (1, [.ref (u14 1), .ref (u14 2), .int 0])), ((u14 1), .inl (cZ, 64, .inl (fun _ => 0))), ((u14 2), .inl (cI, 64, .inl (fun _ => 0))), ((u14 3), .inl (cZ, 64, .inl (fun _ => 0)))]) hP hD [13] [0, 1, 2, 3, 4, 5, 6, 7, 8, 9, 10, 11, 12] rfl rfl (by decide) (by decide) hk1 hFc hP1 hD1
  generalize H1 = H at hP hS ⊢
  have hP : va_P (dC, dI) vwC [(x, .inr (3, [.ref q1, .ref q4, .ref q7, .ref q8, .int 0, .int 1, .int 0, .int 22])), (q1, .inr (0, [.ref (u3 0), .int (-1), .int 0, .int 0])), ((u3 0), .inl (cI, 384, .inl (fun _ => 0))), (q4, .inr (1, [.ref (u6 0), .ref (u6 1), .int 0])), ((u6 0), .inl (cZ, 64, .inl (fun _ => 0))), ((u6 1), .inl (cI, 64, .inl (fun _ => 0))), (q7, .inl (cI, 64, .inl (fun _ => 0))), (q8, .inl (cT, 3, .inr (.inr (.inr (.inr (va_up (fun _ => none) (0 : Int32).toNatClampNeg (some q9))))))), (q9, .inr (2, [.ref (u11 0), .ref (u11 3), .int 0, .int 0, .int 0])), ((u11 0), .inr (1, [.ref (u11 1), .ref (u11 2), .int 0])), ((u11 1), .inl (cZ, 64, .inl (fun _ => 0))), ((u11 2), .inl (cI, 64, .inl (fun _ => 0))), ((u11 3), .inl (cZ, 64, .inl (fun _ => 0))), (q12, .inr (2, [.ref (u14 0), .ref (u14 3), .int 0, .int 0, .int 0])), ((u14 0), .inr (1, [.ref (u14 1), .ref (u14 2), .int 0])), ((u14 1), .inl (cZ, 64, .inl (fun _ => 0))), ((u14 2), .inl (cI, 64, .inl (fun _ => 0))), ((u14 3), .inl (cZ, 64, .inl (fun _ => 0)))] H := hP
  have hD : va_D A [(x, .inr (3, [.ref q1, .ref q4, .ref q7, .ref q8, .int 0, .int 1, .int 0, .int 22])), (q1, .inr (0, [.ref (u3 0), .int (-1), .int 0, .int 0])), ((u3 0), .inl (cI, 384, .inl (fun _ => 0))), (q4, .inr (1, [.ref (u6 0), .ref (u6 1), .int 0])), ((u6 0), .inl (cZ, 64, .inl (fun _ => 0))), ((u6 1), .inl (cI, 64, .inl (fun _ => 0))), (q7, .inl (cI, 64, .inl (fun _ => 0))), (q8, .inl (cT, 3, .inr (.inr (.inr (.inr (va_up (fun _ => none) (0 : Int32).toNatClampNeg (some q9))))))), (q9, .inr (2, [.ref (u11 0), .ref (u11 3), .int 0, .int 0, .int 0])), ((u11 0), .inr (1, [.ref (u11 1), .ref (u11 2), .int 0])), ((u11 1), .inl (cZ, 64, .inl (fun _ => 0))), ((u11 2), .inl (cI, 64, .inl (fun _ => 0))), ((u11 3), .inl (cZ, 64, .inl (fun _ => 0))), (q12, .inr (2, [.ref (u14 0), .ref (u14 3), .int 0, .int 0, .int 0])), ((u14 0), .inr (1, [.ref (u14 1), .ref (u14 2), .int 0])), ((u14 1), .inl (cZ, 64, .inl (fun _ => 0))), ((u14 2), .inl (cI, 64, .inl (fun _ => 0))), ((u14 3), .inl (cZ, 64, .inl (fun _ => 0)))] := hD
  refine va_astq hx hb hK hP hD hS 7 3 13 2 rfl rfl rfl rfl (tv_in (by decide +kernel)) dS_init_82 (fun H locs hP hD hS => ?_)
  have hP : va_P (dC, dI) vwC [(x, .inr (3, [.ref q1, .ref q4, .ref q7, .ref q8, .int 0, .int 1, .int 0, .int 22])), (q1, .inr (0, [.ref (u3 0), .int (-1), .int 0, .int 0])), ((u3 0), .inl (cI, 384, .inl (fun _ => 0))), (q4, .inr (1, [.ref (u6 0), .ref (u6 1), .int 0])), ((u6 0), .inl (cZ, 64, .inl (fun _ => 0))), ((u6 1), .inl (cI, 64, .inl (fun _ => 0))), (q7, .inl (cI, 64, .inl (fun _ => 0))), (q8, .inl (cT, 3, .inr (.inr (.inr (.inr (va_up (va_up (fun _ => none) (0 : Int32).toNatClampNeg (some q9)) (1 : Int32).toNatClampNeg (some q12))))))), (q9, .inr (2, [.ref (u11 0), .ref (u11 3), .int 0, .int 0, .int 0])), ((u11 0), .inr (1, [.ref (u11 1), .ref (u11 2), .int 0])), ((u11 1), .inl (cZ, 64, .inl (fun _ => 0))), ((u11 2), .inl (cI, 64, .inl (fun _ => 0))), ((u11 3), .inl (cZ, 64, .inl (fun _ => 0))), (q12, .inr (2, [.ref (u14 0), .ref (u14 3), .int 0, .int 0, .int 0])), ((u14 0), .inr (1, [.ref (u14 1), .ref (u14 2), .int 0])), ((u14 1), .inl (cZ, 64, .inl (fun _ => 0))), ((u14 2), .inl (cI, 64, .inl (fun _ => 0))), ((u14 3), .inl (cZ, 64, .inl (fun _ => 0)))] H := hP
  have hD : va_D A [(x, .inr (3, [.ref q1, .ref q4, .ref q7, .ref q8, .int 0, .int 1, .int 0, .int 22])), (q1, .inr (0, [.ref (u3 0), .int (-1), .int 0, .int 0])), ((u3 0), .inl (cI, 384, .inl (fun _ => 0))), (q4, .inr (1, [.ref (u6 0), .ref (u6 1), .int 0])), ((u6 0), .inl (cZ, 64, .inl (fun _ => 0))), ((u6 1), .inl (cI, 64, .inl (fun _ => 0))), (q7, .inl (cI, 64, .inl (fun _ => 0))), (q8, .inl (cT, 3, .inr (.inr (.inr (.inr (va_up (va_up (fun _ => none) (0 : Int32).toNatClampNeg (some q9)) (1 : Int32).toNatClampNeg (some q12))))))), (q9, .inr (2, [.ref (u11 0), .ref (u11 3), .int 0, .int 0, .int 0])), ((u11 0), .inr (1, [.ref (u11 1), .ref (u11 2), .int 0])), ((u11 1), .inl (cZ, 64, .inl (fun _ => 0))), ((u11 2), .inl (cI, 64, .inl (fun _ => 0))), ((u11 3), .inl (cZ, 64, .inl (fun _ => 0))), (q12, .inr (2, [.ref (u14 0), .ref (u14 3), .int 0, .int 0, .int 0])), ((u14 0), .inr (1, [.ref (u14 1), .ref (u14 2), .int 0])), ((u14 1), .inl (cZ, 64, .inl (fun _ => 0))), ((u14 2), .inl (cI, 64, .inl (fun _ => 0))), ((u14 3), .inl (cZ, 64, .inl (fun _ => 0)))] := hD
  refine lv_iinc (k := 0) (v := 2) hx hb dS_init_83 hl rfl (by decide +kernel) (by decide) rfl (fun ls hl => ?_)
  have hl : lv_has ls 2 [(1, .int 2), (0, .ref x)] := hl
  refine lv_goto (tgt := 65) hx hb dS_init_86 (by decide) ?_
  refine lv_iload_n hx hb dS_init_65 rfl (lv_at hl 0 rfl) ?_
  refine lv_iconst (v := 3) hx hb dS_init_66 (by decide) ?_
  refine lv_icmp_ge (tgt := 89) hx hb dS_init_67 (by decide) (fun h9 => absurd h9 (by decide)) (fun _ => ?_)
  refine lv_aload_n hx hb dS_init_70 rfl (lv_at hl 1 rfl) ?_
  refine va_get (D := (dC, dI)) (ci := 3) (v := .ref q8) (C := "LoggedStore") (T := uS) (N := 8) hx hb hw inS hown hK hP 0 rfl rfl 3 (by decide) (hw _ w157) (fun _ h9 => h9) rfl dS_init_71 ?_
  refine lv_iload_n hx hb dS_init_74 rfl (lv_at hl 0 rfl) ?_
  refine va_new (ci := 2) (fs := [.null, .null, .int 0, .int 0, .int 0]) (C := "LoggedStore$Transaction") (T := uR) (N := 5) hx hb hw inR tyR tyR_ok hown (hw _ w104) (hw _ w106) (hw _ w43) hK hP hD hS hA rfl (fun j hj => by (have : j = 0 ∨ j = 1 ∨ j = 2 ∨ j = 3 ∨ j = 4 := by omega); rcases this with rfl | rfl | rfl | rfl | rfl <;> rfl) (Nat.le_of_ble_eq_true rfl) (Nat.le_of_ble_eq_true rfl) dS_init_75 (fun q15 H hP hD hS => ?_)
  have hP : va_P (dC, dI) vwC [(x, .inr (3, [.ref q1, .ref q4, .ref q7, .ref q8, .int 0, .int 1, .int 0, .int 22])), (q1, .inr (0, [.ref (u3 0), .int (-1), .int 0, .int 0])), ((u3 0), .inl (cI, 384, .inl (fun _ => 0))), (q4, .inr (1, [.ref (u6 0), .ref (u6 1), .int 0])), ((u6 0), .inl (cZ, 64, .inl (fun _ => 0))), ((u6 1), .inl (cI, 64, .inl (fun _ => 0))), (q7, .inl (cI, 64, .inl (fun _ => 0))), (q8, .inl (cT, 3, .inr (.inr (.inr (.inr (va_up (va_up (fun _ => none) (0 : Int32).toNatClampNeg (some q9)) (1 : Int32).toNatClampNeg (some q12))))))), (q9, .inr (2, [.ref (u11 0), .ref (u11 3), .int 0, .int 0, .int 0])), ((u11 0), .inr (1, [.ref (u11 1), .ref (u11 2), .int 0])), ((u11 1), .inl (cZ, 64, .inl (fun _ => 0))), ((u11 2), .inl (cI, 64, .inl (fun _ => 0))), ((u11 3), .inl (cZ, 64, .inl (fun _ => 0))), (q12, .inr (2, [.ref (u14 0), .ref (u14 3), .int 0, .int 0, .int 0])), ((u14 0), .inr (1, [.ref (u14 1), .ref (u14 2), .int 0])), ((u14 1), .inl (cZ, 64, .inl (fun _ => 0))), ((u14 2), .inl (cI, 64, .inl (fun _ => 0))), ((u14 3), .inl (cZ, 64, .inl (fun _ => 0))), (q15, .inr (2, [.null, .null, .int 0, .int 0, .int 0]))] H := hP
  have hD : va_D A [(x, .inr (3, [.ref q1, .ref q4, .ref q7, .ref q8, .int 0, .int 1, .int 0, .int 22])), (q1, .inr (0, [.ref (u3 0), .int (-1), .int 0, .int 0])), ((u3 0), .inl (cI, 384, .inl (fun _ => 0))), (q4, .inr (1, [.ref (u6 0), .ref (u6 1), .int 0])), ((u6 0), .inl (cZ, 64, .inl (fun _ => 0))), ((u6 1), .inl (cI, 64, .inl (fun _ => 0))), (q7, .inl (cI, 64, .inl (fun _ => 0))), (q8, .inl (cT, 3, .inr (.inr (.inr (.inr (va_up (va_up (fun _ => none) (0 : Int32).toNatClampNeg (some q9)) (1 : Int32).toNatClampNeg (some q12))))))), (q9, .inr (2, [.ref (u11 0), .ref (u11 3), .int 0, .int 0, .int 0])), ((u11 0), .inr (1, [.ref (u11 1), .ref (u11 2), .int 0])), ((u11 1), .inl (cZ, 64, .inl (fun _ => 0))), ((u11 2), .inl (cI, 64, .inl (fun _ => 0))), ((u11 3), .inl (cZ, 64, .inl (fun _ => 0))), (q12, .inr (2, [.ref (u14 0), .ref (u14 3), .int 0, .int 0, .int 0])), ((u14 0), .inr (1, [.ref (u14 1), .ref (u14 2), .int 0])), ((u14 1), .inl (cZ, 64, .inl (fun _ => 0))), ((u14 2), .inl (cI, 64, .inl (fun _ => 0))), ((u14 3), .inl (cZ, 64, .inl (fun _ => 0))), (q15, .inr (2, [.null, .null, .int 0, .int 0, .int 0]))] := hD
  refine lv_dup hx hb dS_init_78 rfl ?_
  have hPc := hP.sub (ws' := [(q15, .inr (2, [.null, .null, .int 0, .int 0, .int 0]))]) [18] rfl
  have hDc := hD.sub (ws' := [(q15, .inr (2, [.null, .null, .int 0, .int 0, .int 0]))]) [18] (by decide) rfl
  have hFc := va_free (wc := [(q15, .inr (2, [.null, .null, .int 0, .int 0, .int 0]))]) hD hS hA [18] rfl
  refine va_callv (va_runIN (b := q15) (As := []) (rest := [.ref q15, .int 2, .ref q8]) ⟨hx, hb, hml, hown, hw⟩ (c_R_init l dC dI cI cZ cJ cT q15 H.size) ⟨va_cnB 0 hw (gA0 w109) rfl rfl rfl hKK.2.n3 (hw _ w43) (by decide +kernel) ⟨Nat.le_of_ble_eq_true rfl, Nat.le_of_ble_eq_true rfl⟩, rfl, (hw _ w108)⟩ ⟨kb_Q, fun U hU hW => ⟨rfl, by rw [hU], by rw [hU]; exact hPc, hKK.moved hW, hDc.weaken (fun _ _ _ _ => trivial)⟩⟩ rfl rfl hl.1 rfl (lv_room (Nat.le_of_ble_eq_true rfl)) dS_init_79 ⟨Nat.le_of_ble_eq_true rfl, Nat.le_of_ble_eq_true rfl⟩) hS (fun q _ h => hFc q h) hFc (fun u17 t H1 locs ht hvm he9 hB hz1 hk1 hS => ?_)
  obtain ⟨hP1, hD1⟩ := hB
  rw [ht] at hP1
  obtain ⟨hP, hD⟩ := va_join (wr := [(x, .inr (3, [.ref q1, .ref q4, .ref q7, .ref q8, .int 0, .int 1, .int 0, .int 22])), (q1, .inr (0, [.ref (u3 0), .int (-1), .int 0, .int 0])), ((u3 0), .inl (cI, 384, .inl (fun _ => 0))), (q4, .inr (1, [.ref (u6 0), .ref (u6 1), .int 0])), ((u6 0), .inl (cZ, 64, .inl (fun _ => 0))), ((u6 1), .inl (cI, 64, .inl (fun _ => 0))), (q7, .inl (cI, 64, .inl (fun _ => 0))), (q8, .inl (cT, 3, .inr (.inr (.inr (.inr (va_up (va_up (fun _ => none) (0 : Int32).toNatClampNeg (some q9)) (1 : Int32).toNatClampNeg (some q12))))))), (q9, .inr (2, [.ref (u11 0), .ref (u11 3), .int 0, .int 0, .int 0])), ((u11 0), .inr (1, [.ref (u11 1), .ref (u11 2), .int 0])), ((u11 1), .inl (cZ, 64, .inl (fun _ => 0))), ((u11 2), .inl (cI, 64, .inl (fun _ => 0))), ((u11 3), .inl (cZ, 64, .inl (fun _ => 0))), (q12, .inr (2, [.ref (u14 0), .ref (u14 3), .int 0, .int 0, .int 0])), ((u14 0), .inr (1, [.ref (u14 1), .ref (u14 2), .int 0])), ((u14 1), .inl (cZ, 64, .inl (fun _ => 0))), ((u14 2), .inl (cI, 64, .inl (fun _ => 0))), ((u14 3), .inl (cZ, 64, .inl (fun _ => 0)))]) (w1 := [(q15, .inr (2, [.ref (u17 0), .ref (u17 3), .int 0, .int 0, .int 0])), ((u17 0), .inr (1, [.ref (u17 1), .ref (u17 2), .int 0])), ((u17 1), .inl (cZ, 64, .inl (fun _ => 0))), ((u17 2), .inl (cI, 64, .inl (fun _ => 0))), ((u17 3), .inl (cZ, 64, .inl (fun _ => 0)))]) hP hD [18] [0, 1, 2, 3, 4, 5, 6, 7, 8, 9, 10, 11, 12, 13, 14, 15, 16, 17] rfl rfl (by decide) (by decide) hk1 hFc hP1 hD1
  generalize H1 = H at hP hS ⊢
  have hP : va_P (dC, dI) vwC [(x, .inr (3, [.ref q1, .ref q4, .ref q7, .ref q8, .int 0, .int 1, .int 0, .int 22])), (q1, .inr (0, [.ref (u3 0), .int (-1), .int 0, .int 0])), ((u3 0), .inl (cI, 384, .inl (fun _ => 0))), (q4, .inr (1, [.ref (u6 0), .ref (u6 1), .int 0])), ((u6 0), .inl (cZ, 64, .inl (fun _ => 0))), ((u6 1), .inl (cI, 64, .inl (fun _ => 0))), (q7, .inl (cI, 64, .inl (fun _ => 0))), (q8, .inl (cT, 3, .inr (.inr (.inr (.inr (va_up (va_up (fun _ => none) (0 : Int32).toNatClampNeg (some q9)) (1 : Int32).toNatClampNeg (some q12))))))), (q9, .inr (2, [.ref (u11 0), .ref (u11 3), .int 0, .int 0, .int 0])), ((u11 0), .inr (1, [.ref (u11 1), .ref (u11 2), .int 0])), ((u11 1), .inl (cZ, 64, .inl (fun _ => 0))), ((u11 2), .inl (cI, 64, .inl (fun _ => 0))), ((u11 3), .inl (cZ, 64, .inl (fun _ => 0))), (q12, .inr (2, [.ref (u14 0), .ref (u14 3), .int 0, .int 0, .int 0])), ((u14 0), .inr (1, [.ref (u14 1), .ref (u14 2), .int 0])), ((u14 1), .inl (cZ, 64, .inl (fun _ => 0))), ((u14 2), .inl (cI, 64, .inl (fun _ => 0))), ((u14 3), .inl (cZ, 64, .inl (fun _ => 0))), (q15, .inr (2, [.ref (u17 0), .ref (u17 3), .int 0, .int 0, .int 0])), ((u17 0), .inr (1, [.ref (u17 1), .ref (u17 2), .int 0])), ((u17 1), .inl (cZ, 64, .inl (fun _ => 0))), ((u17 2), .inl (cI, 64, .inl (fun _ => 0))), ((u17 3), .inl (cZ, 64, .inl (fun _ => 0)))] H := hP
  have hD : va_D A [(x, .inr (3, [.ref q1, .ref q4, .ref q7, .ref q8, .int 0, .int 1, .int 0, .int 22])), (q1, .inr (0, [.ref (u3 0), .int (-1), .int 0, .int 0])), ((u3 0), .inl (cI, 384, .inl (fun _ => 0))), (q4, .inr (1, [.ref (u6 0), .ref (u6 1), .int 0])), ((u6 0), .inl (cZ, 64, .inl (fun _ => 0))), ((u6 1), .inl (cI, 64, .inl (fun _ => 0))), (q7, .inl (cI, 64, .inl (fun _ => 0))), (q8, .inl (cT, 3, .inr (.inr (.inr (.inr (va_up (va_up (fun _ => none) (0 : Int32).toNatClampNeg (some q9)) (1 : Int32).toNatClampNeg (some q12))))))), (q9, .inr (2, [.ref (u11 0), .ref (u11 3), .int 0, .int 0, .int 0])), ((u11 0), .inr (1, [.ref (u11 1), .ref (u11 2), .int 0])), ((u11 1), .inl (cZ, 64, .inl (fun _ => 0))), ((u11 2), .inl (cI, 64, .inl (fun _ => 0))), ((u11 3), .inl (cZ, 64, .inl (fun _ => 0))), (q12, .inr (2, [.ref (u14 0), .ref (u14 3), .int 0, .int 0, .int 0])), ((u14 0), .inr (1, [.ref (u14 1), .ref (u14 2), .int 0])), ((u14 1), .inl (cZ, 64, .inl (fun _ => 0))), ((u14 2), .inl (cI, 64, .inl (fun _ => 0))), ((u14 3), .inl (cZ, 64, .inl (fun _ => 0))), (q15, .inr (2, [.ref (u17 0), .ref (u17 3), .int 0, .int 0, .int 0])), ((u17 0), .inr (1, [.ref (u17 1), .ref (u17 2), .int 0])), ((u17 1), .inl (cZ, 64, .inl (fun _ => 0))), ((u17 2), .inl (cI, 64, .inl (fun _ => 0))), ((u17 3), .inl (cZ, 64, .inl (fun _ => 0)))] := hD
  refine va_astq hx hb hK hP hD hS 7 3 18 2 rfl rfl rfl rfl (tv_in (by decide +kernel)) dS_init_82 (fun H locs hP hD hS => ?_)
  have hP : va_P (dC, dI) vwC [(x, .inr (3, [.ref q1, .ref q4, .ref q7, .ref q8, .int 0, .int 1, .int 0, .int 22])), (q1, .inr (0, [.ref (u3 0), .int (-1), .int 0, .int 0])), ((u3 0), .inl (cI, 384, .inl (fun _ => 0))), (q4, .inr (1, [.ref (u6 0), .ref (u6 1), .int 0])), ((u6 0), .inl (cZ, 64, .inl (fun _ => 0))), ((u6 1), .inl (cI, 64, .inl (fun _ => 0))), (q7, .inl (cI, 64, .inl (fun _ => 0))), (q8, .inl (cT, 3, .inr (.inr (.inr (.inr (va_up (va_up (va_up (fun _ => none) (0 : Int32).toNatClampNeg (some q9)) (1 : Int32).toNatClampNeg (some q12)) (2 : Int32).toNatClampNeg (some q15))))))), (q9, .inr (2, [.ref (u11 0), .ref (u11 3), .int 0, .int 0, .int 0])), ((u11 0), .inr (1, [.ref (u11 1), .ref (u11 2), .int 0])), ((u11 1), .inl (cZ, 64, .inl (fun _ => 0))), ((u11 2), .inl (cI, 64, .inl (fun _ => 0))), ((u11 3), .inl (cZ, 64, .inl (fun _ => 0))), (q12, .inr (2, [.ref (u14 0), .ref (u14 3), .int 0, .int 0, .int 0])), ((u14 0), .inr (1, [.ref (u14 1), .ref (u14 2), .int 0])), ((u14 1), .inl (cZ, 64, .inl (fun _ => 0))), ((u14 2), .inl (cI, 64, .inl (fun _ => 0))), ((u14 3), .inl (cZ, 64, .inl (fun _ => 0))), (q15, .inr (2, [.ref (u17 0), .ref (u17 3), .int 0, .int 0, .int 0])), ((u17 0), .inr (1, [.ref (u17 1), .ref (u17 2), .int 0])), ((u17 1), .inl (cZ, 64, .inl (fun _ => 0))), ((u17 2), .inl (cI, 64, .inl (fun _ => 0))), ((u17 3), .inl (cZ, 64, .inl (fun _ => 0)))] H := hP
  have hD : va_D A [(x, .inr (3, [.ref q1, .ref q4, .ref q7, .ref q8, .int 0, .int 1, .int 0, .int 22])), (q1, .inr (0, [.ref (u3 0), .int (-1), .int 0, .int 0])), ((u3 0), .inl (cI, 384, .inl (fun _ => 0))), (q4, .inr (1, [.ref (u6 0), .ref (u6 1), .int 0])), ((u6 0), .inl (cZ, 64, .inl (fun _ => 0))), ((u6 1), .inl (cI, 64, .inl (fun _ => 0))), (q7, .inl (cI, 64, .inl (fun _ => 0))), (q8, .inl (cT, 3, .inr (.inr (.inr (.inr (va_up (va_up (va_up (fun _ => none) (0 : Int32).toNatClampNeg (some q9)) (1 : Int32).toNatClampNeg (some q12)) (2 : Int32).toNatClampNeg (some q15))))))), (q9, .inr (2, [.ref (u11 0), .ref (u11 3), .int 0, .int 0, .int 0])), ((u11 0), .inr (1, [.ref (u11 1), .ref (u11 2), .int 0])), ((u11 1), .inl (cZ, 64, .inl (fun _ => 0))), ((u11 2), .inl (cI, 64, .inl (fun _ => 0))), ((u11 3), .inl (cZ, 64, .inl (fun _ => 0))), (q12, .inr (2, [.ref (u14 0), .ref (u14 3), .int 0, .int 0, .int 0])), ((u14 0), .inr (1, [.ref (u14 1), .ref (u14 2), .int 0])), ((u14 1), .inl (cZ, 64, .inl (fun _ => 0))), ((u14 2), .inl (cI, 64, .inl (fun _ => 0))), ((u14 3), .inl (cZ, 64, .inl (fun _ => 0))), (q15, .inr (2, [.ref (u17 0), .ref (u17 3), .int 0, .int 0, .int 0])), ((u17 0), .inr (1, [.ref (u17 1), .ref (u17 2), .int 0])), ((u17 1), .inl (cZ, 64, .inl (fun _ => 0))), ((u17 2), .inl (cI, 64, .inl (fun _ => 0))), ((u17 3), .inl (cZ, 64, .inl (fun _ => 0)))] := hD
  refine lv_iinc (k := 0) (v := 3) hx hb dS_init_83 hl rfl (by decide +kernel) (by decide) rfl (fun ls hl => ?_)
  have hl : lv_has ls 2 [(1, .int 3), (0, .ref x)] := hl
  refine lv_goto (tgt := 65) hx hb dS_init_86 (by decide) ?_
  refine lv_iload_n hx hb dS_init_65 rfl (lv_at hl 0 rfl) ?_
  refine lv_iconst (v := 3) hx hb dS_init_66 (by decide) ?_
  refine lv_icmp_ge (tgt := 89) hx hb dS_init_67 (by decide) (fun _ => ?_) (fun h9 => absurd (by decide) h9)
  refine lv_aload_n hx hb dS_init_89 rfl (lv_at hl 1 rfl) ?_
  refine va_get (D := (dC, dI)) (ci := 3) (v := .ref q1) (C := "LoggedStore") (T := uS) (N := 8) hx hb hw inS hown hK hP 0 rfl rfl 0 (by decide) (hw _ w154) (fun _ h9 => h9) rfl dS_init_90 ?_
  have hPc := hP.sub (ws' := [(q1, .inr (0, [.ref (u3 0), .int (-1), .int 0, .int 0])), ((u3 0), .inl (cI, 384, .inl (fun _ => 0)))]) [1, 2] rfl
  have hDc := hD.sub (ws' := [(q1, .inr (0, [.ref (u3 0), .int (-1), .int 0, .int 0])), ((u3 0), .inl (cI, 384, .inl (fun _ => 0)))]) [1, 2] (by decide) rfl
  have hFc := va_free (wc := [(q1, .inr (0, [.ref (u3 0), .int (-1), .int 0, .int 0])), ((u3 0), .inl (cI, 384, .inl (fun _ => 0)))]) hD hS hA [1, 2] rfl
  refine va_callv (va_runV (C := "LoggedStore$Disk") (b := q1) (As := []) (rest := []) ⟨hx, hb, hml, hown, hw⟩ (c_format l dC dI cI cZ cJ cT q1 (u3 0) H.size) ⟨callB_of 0 hw (gA0 w137) rfl rfl rfl (hw _ w41) (hw _ w134) (by decide +kernel) ⟨Nat.le_of_ble_eq_true rfl, Nat.le_of_ble_eq_true rfl⟩, (hw _ w135), (hw _ w136)⟩ ⟨kb_Q, va_recv (ci := 0) (q0 := 1) hK hP rfl rfl, fun U hU hW => ⟨rfl, by rw [hU], by rw [hU]; exact hPc, hKK.moved hW, hDc.weaken (fun _ _ _ _ => trivial)⟩⟩ rfl rfl hl.1 rfl (lv_room (Nat.le_of_ble_eq_true rfl)) dS_init_93 ⟨Nat.le_of_ble_eq_true rfl, Nat.le_of_ble_eq_true rfl⟩) hS (fun q _ h => hFc q h) hFc (fun u19 t H1 locs ht hvm he9 hB hz1 hk1 hS => ?_)
  obtain ⟨hP1, hD1⟩ := hB
  rw [ht] at hP1
  obtain ⟨hP, hD⟩ := va_join (wr := [(x, .inr (3, [.ref q1, .ref q4, .ref q7, .ref q8, .int 0, .int 1, .int 0, .int 22])), (q4, .inr (1, [.ref (u6 0), .ref (u6 1), .int 0])), ((u6 0), .inl (cZ, 64, .inl (fun _ => 0))), ((u6 1), .inl (cI, 64, .inl (fun _ => 0))), (q7, .inl (cI, 64, .inl (fun _ => 0))), (q8, .inl (cT, 3, .inr (.inr (.inr (.inr (va_up (va_up (va_up (fun _ => none) (0 : Int32).toNatClampNeg (some q9)) (1 : Int32).toNatClampNeg (some q12)) (2 : Int32).toNatClampNeg (some q15))))))), (q9, .inr (2, [.ref (u11 0), .ref (u11 3), .int 0, .int 0, .int 0])), ((u11 0), .inr (1, [.ref (u11 1), .ref (u11 2), .int 0])), ((u11 1), .inl (cZ, 64, .inl (fun _ => 0))), ((u11 2), .inl (cI, 64, .inl (fun _ => 0))), ((u11 3), .inl (cZ, 64, .inl (fun _ => 0))), (q12, .inr (2, [.ref (u14 0), .ref (u14 3), .int 0, .int 0, .int 0])), ((u14 0), .inr (1, [.ref (u14 1), .ref (u14 2), .int 0])), ((u14 1), .inl (cZ, 64, .inl (fun _ => 0))), ((u14 2), .inl (cI, 64, .inl (fun _ => 0))), ((u14 3), .inl (cZ, 64, .inl (fun _ => 0))), (q15, .inr (2, [.ref (u17 0), .ref (u17 3), .int 0, .int 0, .int 0])), ((u17 0), .inr (1, [.ref (u17 1), .ref (u17 2), .int 0])), ((u17 1), .inl (cZ, 64, .inl (fun _ => 0))), ((u17 2), .inl (cI, 64, .inl (fun _ => 0))), ((u17 3), .inl (cZ, 64, .inl (fun _ => 0)))]) (w1 := [(q1, .inr (0, [.ref (u3 0), .int (-1), .int 0, .int 0])), ((u3 0), .inl (cI, 384, .inl W0))]) hP hD [1, 2] [0, 3, 4, 5, 6, 7, 8, 9, 10, 11, 12, 13, 14, 15, 16, 17, 18, 19, 20, 21, 22] rfl rfl (by decide) (by decide) hk1 hFc hP1 hD1
  generalize H1 = H at hP hS ⊢
  have hP : va_P (dC, dI) vwC [(x, .inr (3, [.ref q1, .ref q4, .ref q7, .ref q8, .int 0, .int 1, .int 0, .int 22])), (q4, .inr (1, [.ref (u6 0), .ref (u6 1), .int 0])), ((u6 0), .inl (cZ, 64, .inl (fun _ => 0))), ((u6 1), .inl (cI, 64, .inl (fun _ => 0))), (q7, .inl (cI, 64, .inl (fun _ => 0))), (q8, .inl (cT, 3, .inr (.inr (.inr (.inr (va_up (va_up (va_up (fun _ => none) (0 : Int32).toNatClampNeg (some q9)) (1 : Int32).toNatClampNeg (some q12)) (2 : Int32).toNatClampNeg (some q15))))))), (q9, .inr (2, [.ref (u11 0), .ref (u11 3), .int 0, .int 0, .int 0])), ((u11 0), .inr (1, [.ref (u11 1), .ref (u11 2), .int 0])), ((u11 1), .inl (cZ, 64, .inl (fun _ => 0))), ((u11 2), .inl (cI, 64, .inl (fun _ => 0))), ((u11 3), .inl (cZ, 64, .inl (fun _ => 0))), (q12, .inr (2, [.ref (u14 0), .ref (u14 3), .int 0, .int 0, .int 0])), ((u14 0), .inr (1, [.ref (u14 1), .ref (u14 2), .int 0])), ((u14 1), .inl (cZ, 64, .inl (fun _ => 0))), ((u14 2), .inl (cI, 64, .inl (fun _ => 0))), ((u14 3), .inl (cZ, 64, .inl (fun _ => 0))), (q15, .inr (2, [.ref (u17 0), .ref (u17 3), .int 0, .int 0, .int 0])), ((u17 0), .inr (1, [.ref (u17 1), .ref (u17 2), .int 0])), ((u17 1), .inl (cZ, 64, .inl (fun _ => 0))), ((u17 2), .inl (cI, 64, .inl (fun _ => 0))), ((u17 3), .inl (cZ, 64, .inl (fun _ => 0))), (q1, .inr (0, [.ref (u3 0), .int (-1), .int 0, .int 0])), ((u3 0), .inl (cI, 384, .inl W0))] H := hP
  have hD : va_D A [(x, .inr (3, [.ref q1, .ref q4, .ref q7, .ref q8, .int 0, .int 1, .int 0, .int 22])), (q4, .inr (1, [.ref (u6 0), .ref (u6 1), .int 0])), ((u6 0), .inl (cZ, 64, .inl (fun _ => 0))), ((u6 1), .inl (cI, 64, .inl (fun _ => 0))), (q7, .inl (cI, 64, .inl (fun _ => 0))), (q8, .inl (cT, 3, .inr (.inr (.inr (.inr (va_up (va_up (va_up (fun _ => none) (0 : Int32).toNatClampNeg (some q9)) (1 : Int32).toNatClampNeg (some q12)) (2 : Int32).toNatClampNeg (some q15))))))), (q9, .inr (2, [.ref (u11 0), .ref (u11 3), .int 0, .int 0, .int 0])), ((u11 0), .inr (1, [.ref (u11 1), .ref (u11 2), .int 0])), ((u11 1), .inl (cZ, 64, .inl (fun _ => 0))), ((u11 2), .inl (cI, 64, .inl (fun _ => 0))), ((u11 3), .inl (cZ, 64, .inl (fun _ => 0))), (q12, .inr (2, [.ref (u14 0), .ref (u14 3), .int 0, .int 0, .int 0])), ((u14 0), .inr (1, [.ref (u14 1), .ref (u14 2), .int 0])), ((u14 1), .inl (cZ, 64, .inl (fun _ => 0))), ((u14 2), .inl (cI, 64, .inl (fun _ => 0))), ((u14 3), .inl (cZ, 64, .inl (fun _ => 0))), (q15, .inr (2, [.ref (u17 0), .ref (u17 3), .int 0, .int 0, .int 0])), ((u17 0), .inr (1, [.ref (u17 1), .ref (u17 2), .int 0])), ((u17 1), .inl (cZ, 64, .inl (fun _ => 0))), ((u17 2), .inl (cI, 64, .inl (fun _ => 0))), ((u17 3), .inl (cZ, 64, .inl (fun _ => 0))), (q1, .inr (0, [.ref (u3 0), .int (-1), .int 0, .int 0])), ((u3 0), .inl (cI, 384, .inl W0))] := hD
  have hP9 := hP.sub (ws' := [(x, .inr (3, [.ref q1, .ref q4, .ref q7, .ref q8, .int 0, .int 1, .int 0, .int 22])), (q1, .inr (0, [.ref (u3 0), .int (-1), .int 0, .int 0])), ((u3 0), .inl (cI, 384, .inl W0)), (q4, .inr (1, [.ref (u6 0), .ref (u6 1), .int 0])), ((u6 0), .inl (cZ, 64, .inl (fun _ => 0))), ((u6 1), .inl (cI, 64, .inl (fun _ => 0))), (q7, .inl (cI, 64, .inl (fun _ => 0))), (q8, .inl (cT, 3, .inr (.inr (.inr (.inr (va_up (va_up (va_up (fun _ => none) (0 : Int32).toNatClampNeg (some q9)) (1 : Int32).toNatClampNeg (some q12)) (2 : Int32).toNatClampNeg (some q15))))))), (q9, .inr (2, [.ref (u11 0), .ref (u11 3), .int 0, .int 0, .int 0])), ((u11 0), .inr (1, [.ref (u11 1), .ref (u11 2), .int 0])), ((u11 1), .inl (cZ, 64, .inl (fun _ => 0))), ((u11 2), .inl (cI, 64, .inl (fun _ => 0))), ((u11 3), .inl (cZ, 64, .inl (fun _ => 0))), (q12, .inr (2, [.ref (u14 0), .ref (u14 3), .int 0, .int 0, .int 0])), ((u14 0), .inr (1, [.ref (u14 1), .ref (u14 2), .int 0])), ((u14 1), .inl (cZ, 64, .inl (fun _ => 0))), ((u14 2), .inl (cI, 64, .inl (fun _ => 0))), ((u14 3), .inl (cZ, 64, .inl (fun _ => 0))), (q15, .inr (2, [.ref (u17 0), .ref (u17 3), .int 0, .int 0, .int 0])), ((u17 0), .inr (1, [.ref (u17 1), .ref (u17 2), .int 0])), ((u17 1), .inl (cZ, 64, .inl (fun _ => 0))), ((u17 2), .inl (cI, 64, .inl (fun _ => 0))), ((u17 3), .inl (cZ, 64, .inl (fun _ => 0)))]) [0, 21, 22, 1, 2, 3, 4, 5, 6, 7, 8, 9, 10, 11, 12, 13, 14, 15, 16, 17, 18, 19, 20] rfl
  have hD9 := hD.sub (ws' := [(x, .inr (3, [.ref q1, .ref q4, .ref q7, .ref q8, .int 0, .int 1, .int 0, .int 22])), (q1, .inr (0, [.ref (u3 0), .int (-1), .int 0, .int 0])), ((u3 0), .inl (cI, 384, .inl W0)), (q4, .inr (1, [.ref (u6 0), .ref (u6 1), .int 0])), ((u6 0), .inl (cZ, 64, .inl (fun _ => 0))), ((u6 1), .inl (cI, 64, .inl (fun _ => 0))), (q7, .inl (cI, 64, .inl (fun _ => 0))), (q8, .inl (cT, 3, .inr (.inr (.inr (.inr (va_up (va_up (va_up (fun _ => none) (0 : Int32).toNatClampNeg (some q9)) (1 : Int32).toNatClampNeg (some q12)) (2 : Int32).toNatClampNeg (some q15))))))), (q9, .inr (2, [.ref (u11 0), .ref (u11 3), .int 0, .int 0, .int 0])), ((u11 0), .inr (1, [.ref (u11 1), .ref (u11 2), .int 0])), ((u11 1), .inl (cZ, 64, .inl (fun _ => 0))), ((u11 2), .inl (cI, 64, .inl (fun _ => 0))), ((u11 3), .inl (cZ, 64, .inl (fun _ => 0))), (q12, .inr (2, [.ref (u14 0), .ref (u14 3), .int 0, .int 0, .int 0])), ((u14 0), .inr (1, [.ref (u14 1), .ref (u14 2), .int 0])), ((u14 1), .inl (cZ, 64, .inl (fun _ => 0))), ((u14 2), .inl (cI, 64, .inl (fun _ => 0))), ((u14 3), .inl (cZ, 64, .inl (fun _ => 0))), (q15, .inr (2, [.ref (u17 0), .ref (u17 3), .int 0, .int 0, .int 0])), ((u17 0), .inr (1, [.ref (u17 1), .ref (u17 2), .int 0])), ((u17 1), .inl (cZ, 64, .inl (fun _ => 0))), ((u17 2), .inl (cI, 64, .inl (fun _ => 0))), ((u17 3), .inl (cZ, 64, .inl (fun _ => 0)))]) [0, 21, 22, 1, 2, 3, 4, 5, 6, 7, 8, 9, 10, 11, 12, 13, 14, 15, 16, 17, 18, 19, 20] (by decide) rfl
  refine W.widen (k := 22) (n := 1186) (by decide) (by decide) ?_
  exact W.vret hx hb hr (fun t ht hW => ⟨⟨fun k => match k with | 0 => q1 | 1 => (u3 0) | 2 => q4 | 3 => (u6 0) | 4 => (u6 1) | 5 => q7 | 6 => q8 | 7 => q9 | 8 => (u11 0) | 9 => (u11 1) | 10 => (u11 2) | 11 => (u11 3) | 12 => q12 | 13 => (u14 0) | 14 => (u14 1) | 15 => (u14 2) | 16 => (u14 3) | 17 => q15 | 18 => (u17 0) | 19 => (u17 1) | 20 => (u17 2) | _ => (u17 3), rfl, trivial, by rw [ht]; exact hP9, hD9⟩, hS.F ht⟩) hS.2.2 dS_init_96
end
section
set_option maxRecDepth 100000 in
theorem w21 : (Cond.selects "LoggedStoreModel" yM_lackOfKey yM_lackOfKey) ∈ wsA := List.mem_filter.mpr ⟨List.mem_of_getElem? (i := 21) rfl, rfl⟩
set_option maxRecDepth 100000 in
theorem w22 : (Cond.selects "LoggedStoreModel" yM_lackOf yM_lackOf) ∈ wsA := List.mem_filter.mpr ⟨List.mem_of_getElem? (i := 22) rfl, rfl⟩
set_option maxRecDepth 100000 in
theorem w45 : (Cond.initialized "LoggedStoreModel") ∈ wsA := List.mem_filter.mpr ⟨List.mem_of_getElem? (i := 45) rfl, rfl⟩
set_option maxRecDepth 100000 in
theorem w604 : (Cond.code yM_init cM_init 1 none) ∈ wsA := List.mem_filter.mpr ⟨List.mem_of_getElem? (i := 604) rfl, rfl⟩
set_option maxRecDepth 100000 in
theorem w605 : (Cond.methodLink "LoggedStoreModel" 1 objectInit) ∈ wsA := List.mem_filter.mpr ⟨List.mem_of_getElem? (i := 605) rfl, rfl⟩
set_option maxRecDepth 100000 in
theorem w606 : (Cond.methodLink "LoggedStoreModel" 48 yM_checkOf) ∈ wsA := List.mem_filter.mpr ⟨List.mem_of_getElem? (i := 606) rfl, rfl⟩
set_option maxRecDepth 100000 in
theorem w607 : (Cond.static yM_checkOf) ∈ wsA := List.mem_filter.mpr ⟨List.mem_of_getElem? (i := 607) rfl, rfl⟩
set_option maxRecDepth 100000 in
theorem w608 : (Cond.code yM_checkOf cM_checkOf 4 (some .int)) ∈ wsA := List.mem_filter.mpr ⟨List.mem_of_getElem? (i := 608) rfl, rfl⟩
set_option maxRecDepth 100000 in
theorem w609 : (Cond.constant "LoggedStoreModel" 55 65536) ∈ wsA := List.mem_filter.mpr ⟨List.mem_of_getElem? (i := 609) rfl, rfl⟩
set_option maxRecDepth 100000 in
theorem w610 : (Cond.constant "LoggedStoreModel" 56 1664525) ∈ wsA := List.mem_filter.mpr ⟨List.mem_of_getElem? (i := 610) rfl, rfl⟩
set_option maxRecDepth 100000 in
theorem w611 : (Cond.constant "LoggedStoreModel" 57 1013904223) ∈ wsA := List.mem_filter.mpr ⟨List.mem_of_getElem? (i := 611) rfl, rfl⟩
set_option maxRecDepth 100000 in
theorem w613 : (Cond.fieldLink "LoggedStoreModel" 7 "LoggedStoreModel" "disk" "[I") ∈ wsA := List.mem_filter.mpr ⟨List.mem_of_getElem? (i := 613) rfl, rfl⟩
set_option maxRecDepth 100000 in
theorem w614 : (Cond.fieldLink "LoggedStoreModel" 61 "LoggedStoreModel" "down" "Z") ∈ wsA := List.mem_filter.mpr ⟨List.mem_of_getElem? (i := 614) rfl, rfl⟩
set_option maxRecDepth 100000 in
theorem w615 : (Cond.fieldLink "LoggedStoreModel" 13 "LoggedStoreModel" "power" "I") ∈ wsA := List.mem_filter.mpr ⟨List.mem_of_getElem? (i := 615) rfl, rfl⟩
set_option maxRecDepth 100000 in
theorem w617 : (Cond.fieldLink "LoggedStoreModel" 17 "LoggedStoreModel" "has" "[Z") ∈ wsA := List.mem_filter.mpr ⟨List.mem_of_getElem? (i := 617) rfl, rfl⟩
set_option maxRecDepth 100000 in
theorem w618 : (Cond.fieldLink "LoggedStoreModel" 21 "LoggedStoreModel" "numbers" "[I") ∈ wsA := List.mem_filter.mpr ⟨List.mem_of_getElem? (i := 618) rfl, rfl⟩
set_option maxRecDepth 100000 in
theorem w619 : (Cond.fieldLink "LoggedStoreModel" 24 "LoggedStoreModel" "changed" "[I") ∈ wsA := List.mem_filter.mpr ⟨List.mem_of_getElem? (i := 619) rfl, rfl⟩
set_option maxRecDepth 100000 in
theorem w621 : (Cond.fieldLink "LoggedStoreModel" 27 "LoggedStoreModel" "epoch" "I") ∈ wsA := List.mem_filter.mpr ⟨List.mem_of_getElem? (i := 621) rfl, rfl⟩
set_option maxRecDepth 100000 in
theorem w624 : (Cond.fieldLink "LoggedStoreModel" 30 "LoggedStoreModel" "open" "[Z") ∈ wsA := List.mem_filter.mpr ⟨List.mem_of_getElem? (i := 624) rfl, rfl⟩
set_option maxRecDepth 100000 in
theorem w625 : (Cond.fieldLink "LoggedStoreModel" 33 "LoggedStoreModel" "began" "[I") ∈ wsA := List.mem_filter.mpr ⟨List.mem_of_getElem? (i := 625) rfl, rfl⟩
set_option maxRecDepth 100000 in
theorem w626 : (Cond.fieldLink "LoggedStoreModel" 36 "LoggedStoreModel" "had" "[Z") ∈ wsA := List.mem_filter.mpr ⟨List.mem_of_getElem? (i := 626) rfl, rfl⟩
set_option maxRecDepth 100000 in
theorem w627 : (Cond.fieldLink "LoggedStoreModel" 39 "LoggedStoreModel" "old" "[I") ∈ wsA := List.mem_filter.mpr ⟨List.mem_of_getElem? (i := 627) rfl, rfl⟩
set_option maxRecDepth 100000 in
theorem w628 : (Cond.fieldLink "LoggedStoreModel" 42 "LoggedStoreModel" "says" "[I") ∈ wsA := List.mem_filter.mpr ⟨List.mem_of_getElem? (i := 628) rfl, rfl⟩
set_option maxRecDepth 100000 in
theorem w629 : (Cond.fieldLink "LoggedStoreModel" 45 "LoggedStoreModel" "what" "[I") ∈ wsA := List.mem_filter.mpr ⟨List.mem_of_getElem? (i := 629) rfl, rfl⟩
set_option maxRecDepth 100000 in
theorem w675 : (Cond.methodLink "LoggedStoreModel" 73 yM_within) ∈ wsA := List.mem_filter.mpr ⟨List.mem_of_getElem? (i := 675) rfl, rfl⟩
set_option maxRecDepth 100000 in
theorem w676 : (Cond.static yM_within) ∈ wsA := List.mem_filter.mpr ⟨List.mem_of_getElem? (i := 676) rfl, rfl⟩
set_option maxRecDepth 100000 in
theorem w677 : (Cond.code yM_within cM_within 3 (some .boolean)) ∈ wsA := List.mem_filter.mpr ⟨List.mem_of_getElem? (i := 677) rfl, rfl⟩
set_option maxRecDepth 100000 in
theorem w681 : (Cond.code yM_get cM_get 3 (some .int)) ∈ wsA := List.mem_filter.mpr ⟨List.mem_of_getElem? (i := 681) rfl, rfl⟩
set_option maxRecDepth 100000 in
theorem w682 : (Cond.methodLink "LoggedStoreModel" 84 yM_lackOfKey) ∈ wsA := List.mem_filter.mpr ⟨List.mem_of_getElem? (i := 682) rfl, rfl⟩
set_option maxRecDepth 100000 in
theorem w684 : (Cond.instanceMethod yM_lackOfKey) ∈ wsA := List.mem_filter.mpr ⟨List.mem_of_getElem? (i := 684) rfl, rfl⟩
set_option maxRecDepth 100000 in
theorem w685 : (Cond.code yM_lackOfKey cM_lackOfKey 4 (some .int)) ∈ wsA := List.mem_filter.mpr ⟨List.mem_of_getElem? (i := 685) rfl, rfl⟩
set_option maxRecDepth 100000 in
theorem w686 : (Cond.methodLink "LoggedStoreModel" 77 yM_lackOf) ∈ wsA := List.mem_filter.mpr ⟨List.mem_of_getElem? (i := 686) rfl, rfl⟩
set_option maxRecDepth 100000 in
theorem w688 : (Cond.instanceMethod yM_lackOf) ∈ wsA := List.mem_filter.mpr ⟨List.mem_of_getElem? (i := 688) rfl, rfl⟩
set_option maxRecDepth 100000 in
theorem w689 : (Cond.code yM_lackOf cM_lackOf 2 (some .int)) ∈ wsA := List.mem_filter.mpr ⟨List.mem_of_getElem? (i := 689) rfl, rfl⟩
set_option maxRecDepth 100000 in
theorem w697 : (Cond.code yM_put cM_put 5 (some .boolean)) ∈ wsA := List.mem_filter.mpr ⟨List.mem_of_getElem? (i := 697) rfl, rfl⟩
set_option maxRecDepth 100000 in
theorem w701 : (Cond.code yM_remove cM_remove 3 none) ∈ wsA := List.mem_filter.mpr ⟨List.mem_of_getElem? (i := 701) rfl, rfl⟩
set_option maxRecDepth 100000 in
theorem w705 : (Cond.code yM_next cM_next 4 (some .int)) ∈ wsA := List.mem_filter.mpr ⟨List.mem_of_getElem? (i := 705) rfl, rfl⟩
set_option maxRecDepth 100000 in
theorem w709 : (Cond.code yM_drop cM_drop 2 (some .int)) ∈ wsA := List.mem_filter.mpr ⟨List.mem_of_getElem? (i := 709) rfl, rfl⟩
set_option maxRecDepth 100000 in
theorem w717 : (Cond.code yM_commit cM_commit 3 (some .int)) ∈ wsA := List.mem_filter.mpr ⟨List.mem_of_getElem? (i := 717) rfl, rfl⟩
theorem dM_checkOf_0 : decode cM_checkOf 0 = .ok (.ldc 55, 2) := by decide +kernel
theorem dM_checkOf_2 : decode cM_checkOf 2 = .ok (.iload_n 0, 1) := by decide +kernel
theorem dM_checkOf_3 : decode cM_checkOf 3 = .ok (.imul, 1) := by decide +kernel
theorem dM_checkOf_4 : decode cM_checkOf 4 = .ok (.iload_n 1, 1) := by decide +kernel
theorem dM_checkOf_5 : decode cM_checkOf 5 = .ok (.iadd, 1) := by decide +kernel
theorem dM_checkOf_6 : decode cM_checkOf 6 = .ok (.iload_n 2, 1) := by decide +kernel
theorem dM_checkOf_7 : decode cM_checkOf 7 = .ok (.ldc 56, 2) := by decide +kernel
theorem dM_checkOf_9 : decode cM_checkOf 9 = .ok (.imul, 1) := by decide +kernel
theorem dM_checkOf_10 : decode cM_checkOf 10 = .ok (.ixor, 1) := by decide +kernel
theorem dM_checkOf_11 : decode cM_checkOf 11 = .ok (.ldc 57, 2) := by decide +kernel
theorem dM_checkOf_13 : decode cM_checkOf 13 = .ok (.bipush 97, 2) := by decide +kernel
theorem dM_checkOf_15 : decode cM_checkOf 15 = .ok (.iload_n 3, 1) := by decide +kernel
theorem dM_checkOf_16 : decode cM_checkOf 16 = .ok (.imul, 1) := by decide +kernel
theorem dM_checkOf_17 : decode cM_checkOf 17 = .ok (.iadd, 1) := by decide +kernel
theorem dM_checkOf_18 : decode cM_checkOf 18 = .ok (.ixor, 1) := by decide +kernel
theorem dM_checkOf_19 : decode cM_checkOf 19 = .ok (.ireturn, 1) := by decide +kernel
theorem dM_init_0 : decode cM_init 0 = .ok (.aload_n 0, 1) := by decide +kernel
theorem dM_init_1 : decode cM_init 1 = .ok (.invokespecial 1, 3) := by decide +kernel
theorem dM_init_4 : decode cM_init 4 = .ok (.aload_n 0, 1) := by decide +kernel
theorem dM_init_5 : decode cM_init 5 = .ok (.sipush 384, 3) := by decide +kernel
theorem dM_init_8 : decode cM_init 8 = .ok (.newarray .int, 2) := by decide +kernel
theorem dM_init_10 : decode cM_init 10 = .ok (.putfield 7, 3) := by decide +kernel
theorem dM_init_13 : decode cM_init 13 = .ok (.aload_n 0, 1) := by decide +kernel
theorem dM_init_14 : decode cM_init 14 = .ok (.iconst (-1), 1) := by decide +kernel
theorem dM_init_15 : decode cM_init 15 = .ok (.putfield 13, 3) := by decide +kernel
theorem dM_init_18 : decode cM_init 18 = .ok (.aload_n 0, 1) := by decide +kernel
theorem dM_init_19 : decode cM_init 19 = .ok (.bipush 64, 2) := by decide +kernel
theorem dM_init_21 : decode cM_init 21 = .ok (.newarray .boolean, 2) := by decide +kernel
theorem dM_init_23 : decode cM_init 23 = .ok (.putfield 17, 3) := by decide +kernel
theorem dM_init_26 : decode cM_init 26 = .ok (.aload_n 0, 1) := by decide +kernel
theorem dM_init_27 : decode cM_init 27 = .ok (.bipush 64, 2) := by decide +kernel
theorem dM_init_29 : decode cM_init 29 = .ok (.newarray .int, 2) := by decide +kernel
theorem dM_init_31 : decode cM_init 31 = .ok (.putfield 21, 3) := by decide +kernel
theorem dM_init_34 : decode cM_init 34 = .ok (.aload_n 0, 1) := by decide +kernel
theorem dM_init_35 : decode cM_init 35 = .ok (.bipush 64, 2) := by decide +kernel
theorem dM_init_37 : decode cM_init 37 = .ok (.newarray .int, 2) := by decide +kernel
theorem dM_init_39 : decode cM_init 39 = .ok (.putfield 24, 3) := by decide +kernel
theorem dM_init_42 : decode cM_init 42 = .ok (.aload_n 0, 1) := by decide +kernel
theorem dM_init_43 : decode cM_init 43 = .ok (.iconst 1, 1) := by decide +kernel
theorem dM_init_44 : decode cM_init 44 = .ok (.putfield 27, 3) := by decide +kernel
theorem dM_init_47 : decode cM_init 47 = .ok (.aload_n 0, 1) := by decide +kernel
theorem dM_init_48 : decode cM_init 48 = .ok (.iconst 3, 1) := by decide +kernel
theorem dM_init_49 : decode cM_init 49 = .ok (.newarray .boolean, 2) := by decide +kernel
theorem dM_init_51 : decode cM_init 51 = .ok (.putfield 30, 3) := by decide +kernel
theorem dM_init_54 : decode cM_init 54 = .ok (.aload_n 0, 1) := by decide +kernel
theorem dM_init_55 : decode cM_init 55 = .ok (.iconst 3, 1) := by decide +kernel
theorem dM_init_56 : decode cM_init 56 = .ok (.newarray .int, 2) := by decide +kernel
theorem dM_init_58 : decode cM_init 58 = .ok (.putfield 33, 3) := by decide +kernel
theorem dM_init_61 : decode cM_init 61 = .ok (.aload_n 0, 1) := by decide +kernel
theorem dM_init_62 : decode cM_init 62 = .ok (.sipush 192, 3) := by decide +kernel
theorem dM_init_65 : decode cM_init 65 = .ok (.newarray .boolean, 2) := by decide +kernel
theorem dM_init_67 : decode cM_init 67 = .ok (.putfield 36, 3) := by decide +kernel
theorem dM_init_70 : decode cM_init 70 = .ok (.aload_n 0, 1) := by decide +kernel
theorem dM_init_71 : decode cM_init 71 = .ok (.sipush 192, 3) := by decide +kernel
theorem dM_init_74 : decode cM_init 74 = .ok (.newarray .int, 2) := by decide +kernel
theorem dM_init_76 : decode cM_init 76 = .ok (.putfield 39, 3) := by decide +kernel
theorem dM_init_79 : decode cM_init 79 = .ok (.aload_n 0, 1) := by decide +kernel
theorem dM_init_80 : decode cM_init 80 = .ok (.sipush 192, 3) := by decide +kernel
theorem dM_init_83 : decode cM_init 83 = .ok (.newarray .int, 2) := by decide +kernel
theorem dM_init_85 : decode cM_init 85 = .ok (.putfield 42, 3) := by decide +kernel
theorem dM_init_88 : decode cM_init 88 = .ok (.aload_n 0, 1) := by decide +kernel
theorem dM_init_89 : decode cM_init 89 = .ok (.sipush 192, 3) := by decide +kernel
theorem dM_init_92 : decode cM_init 92 = .ok (.newarray .int, 2) := by decide +kernel
theorem dM_init_94 : decode cM_init 94 = .ok (.putfield 45, 3) := by decide +kernel
theorem dM_init_97 : decode cM_init 97 = .ok (.aload_n 0, 1) := by decide +kernel
theorem dM_init_98 : decode cM_init 98 = .ok (.getfield 7, 3) := by decide +kernel
theorem dM_init_101 : decode cM_init 101 = .ok (.iconst 0, 1) := by decide +kernel
theorem dM_init_102 : decode cM_init 102 = .ok (.iconst 1, 1) := by decide +kernel
theorem dM_init_103 : decode cM_init 103 = .ok (.iastore, 1) := by decide +kernel
theorem dM_init_104 : decode cM_init 104 = .ok (.aload_n 0, 1) := by decide +kernel
theorem dM_init_105 : decode cM_init 105 = .ok (.getfield 7, 3) := by decide +kernel
theorem dM_init_108 : decode cM_init 108 = .ok (.iconst 3, 1) := by decide +kernel
theorem dM_init_109 : decode cM_init 109 = .ok (.iconst 1, 1) := by decide +kernel
theorem dM_init_110 : decode cM_init 110 = .ok (.iconst 0, 1) := by decide +kernel
theorem dM_init_111 : decode cM_init 111 = .ok (.iconst 0, 1) := by decide +kernel
theorem dM_init_112 : decode cM_init 112 = .ok (.iconst 0, 1) := by decide +kernel
theorem dM_init_113 : decode cM_init 113 = .ok (.invokestatic 48, 3) := by decide +kernel
theorem dM_init_116 : decode cM_init 116 = .ok (.iastore, 1) := by decide +kernel
theorem dM_init_117 : decode cM_init 117 = .ok (.return_, 1) := by decide +kernel
theorem dM_within_0 : decode cM_within 0 = .ok (.iload_n 0, 1) := by decide +kernel
theorem dM_within_1 : decode cM_within 1 = .ok (.iload_n 1, 1) := by decide +kernel
theorem dM_within_2 : decode cM_within 2 = .ok (.if_icmp .lt 12, 3) := by decide +kernel
theorem dM_within_5 : decode cM_within 5 = .ok (.iload_n 0, 1) := by decide +kernel
theorem dM_within_6 : decode cM_within 6 = .ok (.iload_n 2, 1) := by decide +kernel
theorem dM_within_7 : decode cM_within 7 = .ok (.if_icmp .gt 7, 3) := by decide +kernel
theorem dM_within_10 : decode cM_within 10 = .ok (.iconst 1, 1) := by decide +kernel
theorem dM_within_11 : decode cM_within 11 = .ok (.goto 4, 3) := by decide +kernel
theorem dM_within_14 : decode cM_within 14 = .ok (.iconst 0, 1) := by decide +kernel
theorem dM_within_15 : decode cM_within 15 = .ok (.ireturn, 1) := by decide +kernel
theorem dM_lackOf_0 : decode cM_lackOf 0 = .ok (.aload_n 0, 1) := by decide +kernel
theorem dM_lackOf_1 : decode cM_lackOf 1 = .ok (.getfield 61, 3) := by decide +kernel
theorem dM_lackOf_4 : decode cM_lackOf 4 = .ok (.ifCond .eq 7, 3) := by decide +kernel
theorem dM_lackOf_11 : decode cM_lackOf 11 = .ok (.iload_n 1, 1) := by decide +kernel
theorem dM_lackOf_12 : decode cM_lackOf 12 = .ok (.iconst 0, 1) := by decide +kernel
theorem dM_lackOf_13 : decode cM_lackOf 13 = .ok (.iconst 2, 1) := by decide +kernel
theorem dM_lackOf_14 : decode cM_lackOf 14 = .ok (.invokestatic 73, 3) := by decide +kernel
theorem dM_lackOf_17 : decode cM_lackOf 17 = .ok (.ifCond .eq 12, 3) := by decide +kernel
theorem dM_lackOf_20 : decode cM_lackOf 20 = .ok (.aload_n 0, 1) := by decide +kernel
theorem dM_lackOf_21 : decode cM_lackOf 21 = .ok (.getfield 30, 3) := by decide +kernel
theorem dM_lackOf_24 : decode cM_lackOf 24 = .ok (.iload_n 1, 1) := by decide +kernel
theorem dM_lackOf_25 : decode cM_lackOf 25 = .ok (.baload, 1) := by decide +kernel
theorem dM_lackOf_26 : decode cM_lackOf 26 = .ok (.ifCond .ne 7, 3) := by decide +kernel
theorem dM_lackOf_29 : decode cM_lackOf 29 = .ok (.iconst 2, 1) := by decide +kernel
theorem dM_lackOf_30 : decode cM_lackOf 30 = .ok (.goto 4, 3) := by decide +kernel
theorem dM_lackOf_34 : decode cM_lackOf 34 = .ok (.ireturn, 1) := by decide +kernel
theorem dM_lackOfKey_0 : decode cM_lackOfKey 0 = .ok (.aload_n 0, 1) := by decide +kernel
theorem dM_lackOfKey_1 : decode cM_lackOfKey 1 = .ok (.iload_n 1, 1) := by decide +kernel
theorem dM_lackOfKey_2 : decode cM_lackOfKey 2 = .ok (.invokevirtual 77, 3) := by decide +kernel
theorem dM_lackOfKey_5 : decode cM_lackOfKey 5 = .ok (.istore_n 3, 1) := by decide +kernel
theorem dM_lackOfKey_6 : decode cM_lackOfKey 6 = .ok (.iload_n 3, 1) := by decide +kernel
theorem dM_lackOfKey_7 : decode cM_lackOfKey 7 = .ok (.ifCond .le 7, 3) := by decide +kernel
theorem dM_lackOfKey_10 : decode cM_lackOfKey 10 = .ok (.iload_n 3, 1) := by decide +kernel
theorem dM_lackOfKey_11 : decode cM_lackOfKey 11 = .ok (.goto 18, 3) := by decide +kernel
theorem dM_lackOfKey_29 : decode cM_lackOfKey 29 = .ok (.ireturn, 1) := by decide +kernel
theorem dM_get_0 : decode cM_get 0 = .ok (.aload_n 0, 1) := by decide +kernel
theorem dM_get_1 : decode cM_get 1 = .ok (.aload_n 0, 1) := by decide +kernel
theorem dM_get_2 : decode cM_get 2 = .ok (.iload_n 1, 1) := by decide +kernel
theorem dM_get_3 : decode cM_get 3 = .ok (.iload_n 2, 1) := by decide +kernel
theorem dM_get_4 : decode cM_get 4 = .ok (.invokevirtual 84, 3) := by decide +kernel
theorem dM_get_7 : decode cM_get 7 = .ok (.putfield 52, 3) := by decide +kernel
theorem dM_get_10 : decode cM_get 10 = .ok (.aload_n 0, 1) := by decide +kernel
theorem dM_get_11 : decode cM_get 11 = .ok (.getfield 52, 3) := by decide +kernel
theorem dM_get_14 : decode cM_get 14 = .ok (.ifCond .ne 17, 3) := by decide +kernel
theorem dM_get_31 : decode cM_get 31 = .ok (.aload_n 0, 1) := by decide +kernel
theorem dM_get_32 : decode cM_get 32 = .ok (.getfield 52, 3) := by decide +kernel
theorem dM_get_35 : decode cM_get 35 = .ok (.ifCond .le 7, 3) := by decide +kernel
theorem dM_get_38 : decode cM_get 38 = .ok (.iconst 0, 1) := by decide +kernel
theorem dM_get_39 : decode cM_get 39 = .ok (.goto 43, 3) := by decide +kernel
theorem dM_get_82 : decode cM_get 82 = .ok (.ireturn, 1) := by decide +kernel
theorem dM_put_0 : decode cM_put 0 = .ok (.aload_n 0, 1) := by decide +kernel
theorem dM_put_1 : decode cM_put 1 = .ok (.aload_n 0, 1) := by decide +kernel
theorem dM_put_2 : decode cM_put 2 = .ok (.iload_n 1, 1) := by decide +kernel
theorem dM_put_3 : decode cM_put 3 = .ok (.iload_n 2, 1) := by decide +kernel
theorem dM_put_4 : decode cM_put 4 = .ok (.invokevirtual 84, 3) := by decide +kernel
theorem dM_put_7 : decode cM_put 7 = .ok (.putfield 52, 3) := by decide +kernel
theorem dM_put_10 : decode cM_put 10 = .ok (.aload_n 0, 1) := by decide +kernel
theorem dM_put_11 : decode cM_put 11 = .ok (.getfield 52, 3) := by decide +kernel
theorem dM_put_14 : decode cM_put 14 = .ok (.ifCond .le 5, 3) := by decide +kernel
theorem dM_put_17 : decode cM_put 17 = .ok (.iconst 0, 1) := by decide +kernel
theorem dM_put_18 : decode cM_put 18 = .ok (.ireturn, 1) := by decide +kernel
theorem dM_remove_0 : decode cM_remove 0 = .ok (.aload_n 0, 1) := by decide +kernel
theorem dM_remove_1 : decode cM_remove 1 = .ok (.aload_n 0, 1) := by decide +kernel
theorem dM_remove_2 : decode cM_remove 2 = .ok (.iload_n 1, 1) := by decide +kernel
theorem dM_remove_3 : decode cM_remove 3 = .ok (.iload_n 2, 1) := by decide +kernel
theorem dM_remove_4 : decode cM_remove 4 = .ok (.invokevirtual 84, 3) := by decide +kernel
theorem dM_remove_7 : decode cM_remove 7 = .ok (.putfield 52, 3) := by decide +kernel
theorem dM_remove_10 : decode cM_remove 10 = .ok (.aload_n 0, 1) := by decide +kernel
theorem dM_remove_11 : decode cM_remove 11 = .ok (.getfield 52, 3) := by decide +kernel
theorem dM_remove_14 : decode cM_remove 14 = .ok (.ifCond .ne 17, 3) := by decide +kernel
theorem dM_remove_31 : decode cM_remove 31 = .ok (.aload_n 0, 1) := by decide +kernel
theorem dM_remove_32 : decode cM_remove 32 = .ok (.getfield 52, 3) := by decide +kernel
theorem dM_remove_35 : decode cM_remove 35 = .ok (.ifCond .ne 15, 3) := by decide +kernel
theorem dM_remove_50 : decode cM_remove 50 = .ok (.return_, 1) := by decide +kernel
theorem dM_next_0 : decode cM_next 0 = .ok (.aload_n 0, 1) := by decide +kernel
theorem dM_next_1 : decode cM_next 1 = .ok (.aload_n 0, 1) := by decide +kernel
theorem dM_next_2 : decode cM_next 2 = .ok (.iload_n 1, 1) := by decide +kernel
theorem dM_next_3 : decode cM_next 3 = .ok (.iload_n 2, 1) := by decide +kernel
theorem dM_next_4 : decode cM_next 4 = .ok (.invokevirtual 84, 3) := by decide +kernel
theorem dM_next_7 : decode cM_next 7 = .ok (.putfield 52, 3) := by decide +kernel
theorem dM_next_10 : decode cM_next 10 = .ok (.aload_n 0, 1) := by decide +kernel
theorem dM_next_11 : decode cM_next 11 = .ok (.getfield 52, 3) := by decide +kernel
theorem dM_next_14 : decode cM_next 14 = .ok (.ifCond .le 5, 3) := by decide +kernel
theorem dM_next_17 : decode cM_next 17 = .ok (.iconst 0, 1) := by decide +kernel
theorem dM_next_18 : decode cM_next 18 = .ok (.ireturn, 1) := by decide +kernel
theorem dM_drop_0 : decode cM_drop 0 = .ok (.aload_n 0, 1) := by decide +kernel
theorem dM_drop_1 : decode cM_drop 1 = .ok (.aload_n 0, 1) := by decide +kernel
theorem dM_drop_2 : decode cM_drop 2 = .ok (.iload_n 1, 1) := by decide +kernel
theorem dM_drop_3 : decode cM_drop 3 = .ok (.invokevirtual 77, 3) := by decide +kernel
theorem dM_drop_6 : decode cM_drop 6 = .ok (.putfield 52, 3) := by decide +kernel
theorem dM_drop_9 : decode cM_drop 9 = .ok (.aload_n 0, 1) := by decide +kernel
theorem dM_drop_10 : decode cM_drop 10 = .ok (.getfield 52, 3) := by decide +kernel
theorem dM_drop_13 : decode cM_drop 13 = .ok (.ifCond .le 5, 3) := by decide +kernel
theorem dM_drop_16 : decode cM_drop 16 = .ok (.iconst 0, 1) := by decide +kernel
theorem dM_drop_17 : decode cM_drop 17 = .ok (.ireturn, 1) := by decide +kernel
theorem dM_commit_0 : decode cM_commit 0 = .ok (.aload_n 0, 1) := by decide +kernel
theorem dM_commit_1 : decode cM_commit 1 = .ok (.aload_n 0, 1) := by decide +kernel
theorem dM_commit_2 : decode cM_commit 2 = .ok (.iload_n 1, 1) := by decide +kernel
theorem dM_commit_3 : decode cM_commit 3 = .ok (.invokevirtual 77, 3) := by decide +kernel
theorem dM_commit_6 : decode cM_commit 6 = .ok (.putfield 52, 3) := by decide +kernel
theorem dM_commit_9 : decode cM_commit 9 = .ok (.aload_n 0, 1) := by decide +kernel
theorem dM_commit_10 : decode cM_commit 10 = .ok (.getfield 52, 3) := by decide +kernel
theorem dM_commit_13 : decode cM_commit 13 = .ok (.ifCond .le 5, 3) := by decide +kernel
theorem dM_commit_16 : decode cM_commit 16 = .ok (.iconst 0, 1) := by decide +kernel
theorem dM_commit_17 : decode cM_commit 17 = .ok (.ireturn, 1) := by decide +kernel
def MW0 : Nat → Int32 := upd (upd (fun _ => 0) (0 : Int32).toNatClampNeg 1) (3 : Int32).toNatClampNeg 1013969759
set_option maxHeartbeats 4000000 in
set_option maxRecDepth 100000 in
theorem c_M_chk (l : Launch) (dC : Nat → ClassId) (dI : Nat → Nat → Nat) (cI cZ cJ cT : ClassId) (a b c9 k : Int32) : Met l yM_checkOf (Cond.code yM_checkOf cM_checkOf 4 (some .int) :: wsA) ({ frames := 0, cells := 0, slots := 0, locals := 0 }) (va_Pc [.int a, .int b, .int c9, .int k] (fun U => va_P (dC, dI) vwC [] U.heap ∧ KK dC dI cI cZ cJ cT U)) (vp_Si (fun r => r = ((((65536 * a) + b) ^^^ (c9 * 1664525)) ^^^ (1013904223 + (97 * k))))) 0 0 (fun _ => False) := by
  refine Met.ofW (cc := cM_checkOf) (maxL := 4) (ret := (some .int)) (by decide) rfl ?_
  intro p e s m args below meth c s₁ B hml hv
  obtain ⟨rfl, hP, hKK⟩ := hv
  have hK := hKK.1
  have hx := B.exec
  have hb := B.bytes
  have hr := B.returns
  have hw : ∀ w ∈ wsA, w.before _ s = true := fun w h => atoms_spec (ws := (Cond.code yM_checkOf cM_checkOf 4 (some .int) :: wsA)) B.pre w (List.mem_cons_of_mem _ h)
  have hown : s.vm.findClass "LoggedStoreModel" = some m.cls := findClass_of_methodNamed B.named
  have hlocks := B.notSynchronized
  have hl := lv_entry ([.int a, .int b, .int c9, .int k]) (n := 4) (Nat.le_of_ble_eq_true rfl)
  rw [lg_entry_eq]
  generalize (lg_sl ([.int a, .int b, .int c9, .int k]) ++ List.replicate (4 - (lg_sl ([.int a, .int b, .int c9, .int k])).length) Slot.unset).toArray = ls at hl ⊢
  have hl : lv_has ls 4 [(0, .int a), (1, .int b), (2, .int c9), (3, .int k)] := hl
  refine lv_ldc (v := 65536) hx hb hown (hw _ w609) dM_checkOf_0 ?_
  refine lv_iload_n hx hb dM_checkOf_2 rfl (lv_at hl 0 rfl) ?_
  refine lv_imul hx hb dM_checkOf_3 ?_
  refine lv_iload_n hx hb dM_checkOf_4 rfl (lv_at hl 1 rfl) ?_
  refine lv_iadd hx hb dM_checkOf_5 ?_
  refine lv_iload_n hx hb dM_checkOf_6 rfl (lv_at hl 2 rfl) ?_
  refine lv_ldc (v := 1664525) hx hb hown (hw _ w610) dM_checkOf_7 ?_
  refine lv_imul hx hb dM_checkOf_9 ?_
  refine lv_ixor hx hb dM_checkOf_10 ?_
  refine lv_ldc (v := 1013904223) hx hb hown (hw _ w611) dM_checkOf_11 ?_
  refine lv_bipush (v := 97) hx hb dM_checkOf_13 (by decide) ?_
  refine lv_iload_n hx hb dM_checkOf_15 rfl (lv_at hl 3 rfl) ?_
  refine lv_imul hx hb dM_checkOf_16 ?_
  refine lv_iadd hx hb dM_checkOf_17 ?_
  refine lv_ixor hx hb dM_checkOf_18 ?_
  exact W.iret (v := ((((65536 * a) + b) ^^^ (c9 * 1664525)) ^^^ (1013904223 + (97 * k)))) hx hb hr (fun t ht hW => ⟨((((65536 * a) + b) ^^^ (c9 * 1664525)) ^^^ (1013904223 + (97 * k))), rfl, rfl, ht⟩) (fun q h => by cases h) dM_checkOf_19

set_option maxHeartbeats 4000000 in
set_option maxRecDepth 100000 in
theorem c_M_init (l : Launch) (dC : Nat → ClassId) (dI : Nat → Nat → Nat) (cI cZ cJ cT : ClassId) (m0 : Nat) (sz : Nat) : Met l yM_init (Cond.code yM_init cM_init 1 none :: wsA) ({ frames := 1, cells := 10, slots := 1350, locals := 23 }) (va_Pc [.ref m0] (fun U => U.heap.size = sz ∧ va_P (dC, dI) vwC [(m0, .inr (4, [.int 0, .null, .int 0, .int 0, .int 0, .null, .null, .null, .int 0, .int 0, .int 0, .int 0, .null, .null, .null, .null, .null, .null]))] U.heap ∧ KK dC dI cI cZ cJ cT U ∧ va_D (fun _ => True) [(m0, .inr (4, [.int 0, .null, .int 0, .int 0, .int 0, .null, .null, .null, .int 0, .int 0, .int 0, .int 0, .null, .null, .null, .null, .null, .null]))])) (va_Qv (S := Nat → Nat) (fun _ => True) (fun u t => va_P (dC, dI) vwC [(m0, .inr (4, [.int 0, .ref (u 0), .int 0, .int (-1), .int 0, .ref (u 1), .ref (u 2), .ref (u 3), .int 0, .int 1, .int 0, .int 0, .ref (u 4), .ref (u 5), .ref (u 6), .ref (u 7), .ref (u 8), .ref (u 9)])), ((u 0), .inl (cI, 384, .inl MW0)), ((u 1), .inl (cZ, 64, .inl (fun _ => 0))), ((u 2), .inl (cI, 64, .inl (fun _ => 0))), ((u 3), .inl (cI, 64, .inl (fun _ => 0))), ((u 4), .inl (cZ, 3, .inl (fun _ => 0))), ((u 5), .inl (cI, 3, .inl (fun _ => 0))), ((u 6), .inl (cZ, 192, .inl (fun _ => 0))), ((u 7), .inl (cI, 192, .inl (fun _ => 0))), ((u 8), .inl (cI, 192, .inl (fun _ => 0))), ((u 9), .inl (cI, 192, .inl (fun _ => 0)))] t.heap ∧ va_D (va_A [(m0, .inr (4, [.int 0, .null, .int 0, .int 0, .int 0, .null, .null, .null, .int 0, .int 0, .int 0, .int 0, .null, .null, .null, .null, .null, .null]))] sz) [(m0, .inr (4, [.int 0, .ref (u 0), .int 0, .int (-1), .int 0, .ref (u 1), .ref (u 2), .ref (u 3), .int 0, .int 1, .int 0, .int 0, .ref (u 4), .ref (u 5), .ref (u 6), .ref (u 7), .ref (u 8), .ref (u 9)])), ((u 0), .inl (cI, 384, .inl MW0)), ((u 1), .inl (cZ, 64, .inl (fun _ => 0))), ((u 2), .inl (cI, 64, .inl (fun _ => 0))), ((u 3), .inl (cI, 64, .inl (fun _ => 0))), ((u 4), .inl (cZ, 3, .inl (fun _ => 0))), ((u 5), .inl (cI, 3, .inl (fun _ => 0))), ((u 6), .inl (cZ, 192, .inl (fun _ => 0))), ((u 7), .inl (cI, 192, .inl (fun _ => 0))), ((u 8), .inl (cI, 192, .inl (fun _ => 0))), ((u 9), .inl (cI, 192, .inl (fun _ => 0)))]) (va_A [(m0, .inr (4, [.int 0, .null, .int 0, .int 0, .int 0, .null, .null, .null, .int 0, .int 0, .int 0, .int 0, .null, .null, .null, .null, .null, .null]))] sz)) 10 1350 (va_A [(m0, .inr (4, [.int 0, .null, .int 0, .int 0, .int 0, .null, .null, .null, .int 0, .int 0, .int 0, .int 0, .null, .null, .null, .null, .null, .null]))] sz) := by
  refine Met.ofW (cc := cM_init) (maxL := 1) (ret := none) (by decide) rfl ?_
  intro p e s m args below meth c s₁ B hml hv
  obtain ⟨rfl, hsz, hP, hKK, hD0⟩ := hv
  have hK := hKK.1
  have hx := B.exec
  have hb := B.bytes
  have hr := B.returns
  have hw : ∀ w ∈ wsA, w.before _ s = true := fun w h => atoms_spec (ws := (Cond.code yM_init cM_init 1 none :: wsA)) B.pre w (List.mem_cons_of_mem _ h)
  have hown : s.vm.findClass "LoggedStoreModel" = some m.cls := findClass_of_methodNamed B.named
  have hlocks := B.notSynchronized
  have hin : meth.name = "<init>" := (name_of_methodNamed B.named B.method).1
  subst hsz
  have hD := hD0.self (sz := s.heap.size)
  generalize hAe : va_A [(m0, .inr (4, [.int 0, .null, .int 0, .int 0, .int 0, .null, .null, .null, .int 0, .int 0, .int 0, .int 0, .null, .null, .null, .null, .null, .null]))] s.heap.size = A at hD ⊢
  have hA : ∀ q : Nat, s.heap.size ≤ q → A q := fun q h => by rw [← hAe]; exact Or.inr h
  have hS : va_S A s.heap s.heap [] := va_S.rf
  have hl := lv_entry ([.ref m0]) (n := 1) (Nat.le_of_ble_eq_true rfl)
  rw [lg_entry_eq]
  generalize (lg_sl ([.ref m0]) ++ List.replicate (1 - (lg_sl ([.ref m0])).length) Slot.unset).toArray = ls at hl ⊢
  have hl : lv_has ls 1 [(0, .ref m0)] := hl
  refine lv_aload_n hx hb dM_init_0 rfl (lv_at hl 0 rfl) ?_
  refine W.objInit hx hb hown (hw _ w605) (hw _ w61) (hw _ w62) rfl (by rw [hml]; exact hl.1) rfl dM_init_1 (Nat.le_of_ble_eq_true rfl) (Nat.le_of_ble_eq_true rfl) ?_
  refine W.eq (g2 := F0 m 4 ls []) rfl ?_
  refine lv_aload_n hx hb dM_init_4 rfl (lv_at hl 0 rfl) ?_
  refine lv_sipush (v := 384) hx hb dM_init_5 (by decide) ?_
  refine va_newa (atype := .int) (a0 := (384, .inl (fun _ => 0))) (ty := .int) hx hb (hw _ w83) rfl hK hP hD hS hA (fun _ => rfl) (by decide) (by decide) (by decide) (Nat.le_of_ble_eq_true rfl) (Nat.le_of_ble_eq_true rfl) dM_init_8 (fun q1 cA H hK hP hD hS => ?_)
  obtain rfl := tk_eq hK (i := 0) (j := 4) rfl rfl
  have hK := hK.sub (tys' := tyA cI cZ cJ cT) [0, 1, 2, 3] rfl
  have hP : va_P (dC, dI) vwC [(m0, .inr (4, [.int 0, .null, .int 0, .int 0, .int 0, .null, .null, .null, .int 0, .int 0, .int 0, .int 0, .null, .null, .null, .null, .null, .null])), (q1, .inl (cI, 384, .inl (fun _ => 0)))] H := hP
  have hD : va_D A [(m0, .inr (4, [.int 0, .null, .int 0, .int 0, .int 0, .null, .null, .null, .int 0, .int 0, .int 0, .int 0, .null, .null, .null, .null, .null, .null])), (q1, .inl (cI, 384, .inl (fun _ => 0)))] := hD
  refine va_put (D := (dC, dI)) (ci := 4) (v := .ref q1) (ty := .array .int) (C := "LoggedStoreModel") (T := uM) (N := 18) hx hb hw inM tyM tyM_ok nmM hown hK hP hD hS 0 rfl rfl 1 (by decide) (hw _ w613) (fun _ h9 => h9) rfl (by decide +kernel) rfl rfl (Nat.le_of_ble_eq_true rfl) dM_init_10 (fun H locs hP hD hS => ?_)
  have hP : va_P (dC, dI) vwC [(m0, .inr (4, [.int 0, .ref q1, .int 0, .int 0, .int 0, .null, .null, .null, .int 0, .int 0, .int 0, .int 0, .null, .null, .null, .null, .null, .null])), (q1, .inl (cI, 384, .inl (fun _ => 0)))] H := hP
  have hD : va_D A [(m0, .inr (4, [.int 0, .ref q1, .int 0, .int 0, .int 0, .null, .null, .null, .int 0, .int 0, .int 0, .int 0, .null, .null, .null, .null, .null, .null])), (q1, .inl (cI, 384, .inl (fun _ => 0)))] := hD
  refine lv_aload_n hx hb dM_init_13 rfl (lv_at hl 0 rfl) ?_
  refine lv_iconst (v := (-1)) hx hb dM_init_14 (by decide) ?_
  refine va_put (D := (dC, dI)) (ci := 4) (v := .int (-1)) (ty := .int) (C := "LoggedStoreModel") (T := uM) (N := 18) hx hb hw inM tyM tyM_ok nmM hown hK hP hD hS 0 rfl rfl 3 (by decide) (hw _ w615) (fun _ h9 => h9) rfl (by decide +kernel) rfl rfl (Nat.le_of_ble_eq_true rfl) dM_init_15 (fun H locs hP hD hS => ?_)
  have hP : va_P (dC, dI) vwC [(m0, .inr (4, [.int 0, .ref q1, .int 0, .int (-1), .int 0, .null, .null, .null, .int 0, .int 0, .int 0, .int 0, .null, .null, .null, .null, .null, .null])), (q1, .inl (cI, 384, .inl (fun _ => 0)))] H := hP
  have hD : va_D A [(m0, .inr (4, [.int 0, .ref q1, .int 0, .int (-1), .int 0, .null, .null, .null, .int 0, .int 0, .int 0, .int 0, .null, .null, .null, .null, .null, .null])), (q1, .inl (cI, 384, .inl (fun _ => 0)))] := hD
  refine lv_aload_n hx hb dM_init_18 rfl (lv_at hl 0 rfl) ?_
  refine lv_bipush (v := 64) hx hb dM_init_19 (by decide) ?_
  refine va_newa (atype := .boolean) (a0 := (64, .inl (fun _ => 0))) (ty := .boolean) hx hb (hw _ w103) rfl hK hP hD hS hA (fun _ => rfl) (by decide) (by decide) (by decide) (Nat.le_of_ble_eq_true rfl) (Nat.le_of_ble_eq_true rfl) dM_init_21 (fun q2 cA H hK hP hD hS => ?_)
  obtain rfl := tk_eq hK (i := 1) (j := 4) rfl rfl
  have hK := hK.sub (tys' := tyA cI cZ cJ cT) [0, 1, 2, 3] rfl
  have hP : va_P (dC, dI) vwC [(m0, .inr (4, [.int 0, .ref q1, .int 0, .int (-1), .int 0, .null, .null, .null, .int 0, .int 0, .int 0, .int 0, .null, .null, .null, .null, .null, .null])), (q1, .inl (cI, 384, .inl (fun _ => 0))), (q2, .inl (cZ, 64, .inl (fun _ => 0)))] H := hP
  have hD : va_D A [(m0, .inr (4, [.int 0, .ref q1, .int 0, .int (-1), .int 0, .null, .null, .null, .int 0, .int 0, .int 0, .int 0, .null, .null, .null, .null, .null, .null])), (q1, .inl (cI, 384, .inl (fun _ => 0))), (q2, .inl (cZ, 64, .inl (fun _ => 0)))] := hD
  refine va_put (D := (dC, dI)) (ci := 4) (v := .ref q2) (ty := .array .boolean) (C := "LoggedStoreModel") (T := uM) (N := 18) hx hb hw inM tyM tyM_ok nmM hown hK hP hD hS 0 rfl rfl 5 (by decide) (hw _ w617) (fun _ h9 => h9) rfl (by decide +kernel) rfl rfl (Nat.le_of_ble_eq_true rfl) dM_init_23 (fun H locs hP hD hS => ?_)
  have hP : va_P (dC, dI) vwC [(m0, .inr (4, [.int 0, .ref q1, .int 0, .int (-1), .int 0, .ref q2, .null, .null, .int 0, .int 0, .int 0, .int 0, .null, .null, .null, .null, .null, .null])), (q1, .inl (cI, 384, .inl (fun _ => 0))), (q2, .inl (cZ, 64, .inl (fun _ => 0)))] H := hP
  have hD : va_D A [(m0, .inr (4, [.int 0, .ref q1, .int 0, .int (-1), .int 0, .ref q2, .null, .null, .int 0, .int 0, .int 0, .int 0, .null, .null, .null, .null, .null, .null])), (q1, .inl (cI, 384, .inl (fun _ => 0))), (q2, .inl (cZ, 64, .inl (fun _ => 0)))] := hD
  refine lv_aload_n hx hb dM_init_26 rfl (lv_at hl 0 rfl) ?_
  refine lv_bipush (v := 64) hx hb dM_init_27 (by decide) ?_
  refine va_newa (atype := .int) (a0 := (64, .inl (fun _ => 0))) (ty := .int) hx hb (hw _ w83) rfl hK hP hD hS hA (fun _ => rfl) (by decide) (by decide) (by decide) (Nat.le_of_ble_eq_true rfl) (Nat.le_of_ble_eq_true rfl) dM_init_29 (fun q3 cA H hK hP hD hS => ?_)
  obtain rfl := tk_eq hK (i := 0) (j := 4) rfl rfl
  have hK := hK.sub (tys' := tyA cI cZ cJ cT) [0, 1, 2, 3] rfl
  have hP : va_P (dC, dI) vwC [(m0, .inr (4, [.int 0, .ref q1, .int 0, .int (-1), .int 0, .ref q2, .null, .null, .int 0, .int 0, .int 0, .int 0, .null, .null, .null, .null, .null, .null])), (q1, .inl (cI, 384, .inl (fun _ => 0))), (q2, .inl (cZ, 64, .inl (fun _ => 0))), (q3, .inl (cI, 64, .inl (fun _ => 0)))] H := hP
  have hD : va_D A [(m0, .inr (4, [.int 0, .ref q1, .int 0, .int (-1), .int 0, .ref q2, .null, .null, .int 0, .int 0, .int 0, .int 0, .null, .null, .null, .null, .null, .null])), (q1, .inl (cI, 384, .inl (fun _ => 0))), (q2, .inl (cZ, 64, .inl (fun _ => 0))), (q3, .inl (cI, 64, .inl (fun _ => 0)))] := hD
  refine va_put (D := (dC, dI)) (ci := 4) (v := .ref q3) (ty := .array .int) (C := "LoggedStoreModel") (T := uM) (N := 18) hx hb hw inM tyM tyM_ok nmM hown hK hP hD hS 0 rfl rfl 6 (by decide) (hw _ w618) (fun _ h9 => h9) rfl (by decide +kernel) rfl rfl (Nat.le_of_ble_eq_true rfl) dM_init_31 (fun H locs hP hD hS => ?_)
  have hP : va_P (dC, dI) vwC [(m0, .inr (4, [.int 0, .ref q1, .int 0, .int (-1), .int 0, .ref q2, .ref q3, .null, .int 0, .int 0, .int 0, .int 0, .null, .null, .null, .null, .null, .null])), (q1, .inl (cI, 384, .inl (fun _ => 0))), (q2, .inl (cZ, 64, .inl (fun _ => 0))), (q3, .inl (cI, 64, .inl (fun _ => 0)))] H := hP
  have hD : va_D A [(m0, .inr (4, [.int 0, .ref q1, .int 0, .int (-1), .int 0, .ref q2, .ref q3, .null, .int 0, .int 0, .int 0, .int 0, .null, .null, .null, .null, .null, .null])), (q1, .inl (cI, 384, .inl (fun _ => 0))), (q2, .inl (cZ, 64, .inl (fun _ => 0))), (q3, .inl (cI, 64, .inl (fun _ => 0)))] := hD
  refine lv_aload_n hx hb dM_init_34 rfl (lv_at hl 0 rfl) ?_
  refine lv_bipush (v := 64) hx hb dM_init_35 (by decide) ?_
  refine va_newa (atype := .int) (a0 := (64, .inl (fun _ => 0))) (ty := .int) hx hb (hw _ w83) rfl hK hP hD hS hA (fun _ => rfl) (by decide) (by decide) (by decide) (Nat.le_of_ble_eq_true rfl) (Nat.le_of_ble_eq_true rfl) dM_init_37 (fun q4 cA H hK hP hD hS => ?_)
  obtain rfl := tk_eq hK (i := 0) (j := 4) rfl rfl
  have hK := hK.sub (tys' := tyA cI cZ cJ cT) [0, 1, 2, 3] rfl
  have hP : va_P (dC, dI) vwC [(m0, .inr (4, [.int 0, .ref q1, .int 0, .int (-1), .int 0, .ref q2, .ref q3, .null, .int 0, .int 0, .int 0, .int 0, .null, .null, .null, .null, .null, .null])), (q1, .inl (cI, 384, .inl (fun _ => 0))), (q2, .inl (cZ, 64, .inl (fun _ => 0))), (q3, .inl (cI, 64, .inl (fun _ => 0))), (q4, .inl (cI, 64, .inl (fun _ => 0)))] H := hP
  have hD : va_D A [(m0, .inr (4, [.int 0, .ref q1, .int 0, .int (-1), .int 0, .ref q2, .ref q3, .null, .int 0, .int 0, .int 0, .int 0, .null, .null, .null, .null, .null, .null])), (q1, .inl (cI, 384, .inl (fun _ => 0))), (q2, .inl (cZ, 64, .inl (fun _ => 0))), (q3, .inl (cI, 64, .inl (fun _ => 0))), (q4, .inl (cI, 64, .inl (fun _ => 0)))] := hD
  refine va_put (D := (dC, dI)) (ci := 4) (v := .ref q4) (ty := .array .int) (C := "LoggedStoreModel") (T := uM) (N := 18) hx hb hw inM tyM tyM_ok nmM hown hK hP hD hS 0 rfl rfl 7 (by decide) (hw _ w619) (fun _ h9 => h9) rfl (by decide +kernel) rfl rfl (Nat.le_of_ble_eq_true rfl) dM_init_39 (fun H locs hP hD hS => ?_)
  have hP : va_P (dC, dI) vwC [(m0, .inr (4, [.int 0, .ref q1, .int 0, .int (-1), .int 0, .ref q2, .ref q3, .ref q4, .int 0, .int 0, .int 0, .int 0, .null, .null, .null, .null, .null, .null])), (q1, .inl (cI, 384, .inl (fun _ => 0))), (q2, .inl (cZ, 64, .inl (fun _ => 0))), (q3, .inl (cI, 64, .inl (fun _ => 0))), (q4, .inl (cI, 64, .inl (fun _ => 0)))] H := hP
  have hD : va_D A [(m0, .inr (4, [.int 0, .ref q1, .int 0, .int (-1), .int 0, .ref q2, .ref q3, .ref q4, .int 0, .int 0, .int 0, .int 0, .null, .null, .null, .null, .null, .null])), (q1, .inl (cI, 384, .inl (fun _ => 0))), (q2, .inl (cZ, 64, .inl (fun _ => 0))), (q3, .inl (cI, 64, .inl (fun _ => 0))), (q4, .inl (cI, 64, .inl (fun _ => 0)))] := hD
  refine lv_aload_n hx hb dM_init_42 rfl (lv_at hl 0 rfl) ?_
  refine lv_iconst (v := 1) hx hb dM_init_43 (by decide) ?_
  refine va_put (D := (dC, dI)) (ci := 4) (v := .int 1) (ty := .int) (C := "LoggedStoreModel") (T := uM) (N := 18) hx hb hw inM tyM tyM_ok nmM hown hK hP hD hS 0 rfl rfl 9 (by decide) (hw _ w621) (fun _ h9 => h9) rfl (by decide +kernel) rfl rfl (Nat.le_of_ble_eq_true rfl) dM_init_44 (fun H locs hP hD hS => ?_)
  have hP : va_P (dC, dI) vwC [(m0, .inr (4, [.int 0, .ref q1, .int 0, .int (-1), .int 0, .ref q2, .ref q3, .ref q4, .int 0, .int 1, .int 0, .int 0, .null, .null, .null, .null, .null, .null])), (q1, .inl (cI, 384, .inl (fun _ => 0))), (q2, .inl (cZ, 64, .inl (fun _ => 0))), (q3, .inl (cI, 64, .inl (fun _ => 0))), (q4, .inl (cI, 64, .inl (fun _ => 0)))] H := hP
  have hD : va_D A [(m0, .inr (4, [.int 0, .ref q1, .int 0, .int (-1), .int 0, .ref q2, .ref q3, .ref q4, .int 0, .int 1, .int 0, .int 0, .null, .null, .null, .null, .null, .null])), (q1, .inl (cI, 384, .inl (fun _ => 0))), (q2, .inl (cZ, 64, .inl (fun _ => 0))), (q3, .inl (cI, 64, .inl (fun _ => 0))), (q4, .inl (cI, 64, .inl (fun _ => 0)))] := hD
  refine lv_aload_n hx hb dM_init_47 rfl (lv_at hl 0 rfl) ?_
  refine lv_iconst (v := 3) hx hb dM_init_48 (by decide) ?_
  refine va_newa (atype := .boolean) (a0 := (3, .inl (fun _ => 0))) (ty := .boolean) hx hb (hw _ w103) rfl hK hP hD hS hA (fun _ => rfl) (by decide) (by decide) (by decide) (Nat.le_of_ble_eq_true rfl) (Nat.le_of_ble_eq_true rfl) dM_init_49 (fun q5 cA H hK hP hD hS => ?_)
  obtain rfl := tk_eq hK (i := 1) (j := 4) rfl rfl
  have hK := hK.sub (tys' := tyA cI cZ cJ cT) [0, 1, 2, 3] rfl
  have hP : va_P (dC, dI) vwC [(m0, .inr (4, [.int 0, .ref q1, .int 0, .int (-1), .int 0, .ref q2, .ref q3, .ref q4, .int 0, .int 1, .int 0, .int 0, .null, .null, .null, .null, .null, .null])), (q1, .inl (cI, 384, .inl (fun _ => 0))), (q2, .inl (cZ, 64, .inl (fun _ => 0))), (q3, .inl (cI, 64, .inl (fun _ => 0))), (q4, .inl (cI, 64, .inl (fun _ => 0))), (q5, .inl (cZ, 3, .inl (fun _ => 0)))] H := hP
  have hD : va_D A [(m0, .inr (4, [.int 0, .ref q1, .int 0, .int (-1), .int 0, .ref q2, .ref q3, .ref q4, .int 0, .int 1, .int 0, .int 0, .null, .null, .null, .null, .null, .null])), (q1, .inl (cI, 384, .inl (fun _ => 0))), (q2, .inl (cZ, 64, .inl (fun _ => 0))), (q3, .inl (cI, 64, .inl (fun _ => 0))), (q4, .inl (cI, 64, .inl (fun _ => 0))), (q5, .inl (cZ, 3, .inl (fun _ => 0)))] := hD
  refine va_put (D := (dC, dI)) (ci := 4) (v := .ref q5) (ty := .array .boolean) (C := "LoggedStoreModel") (T := uM) (N := 18) hx hb hw inM tyM tyM_ok nmM hown hK hP hD hS 0 rfl rfl 12 (by decide) (hw _ w624) (fun _ h9 => h9) rfl (by decide +kernel) rfl rfl (Nat.le_of_ble_eq_true rfl) dM_init_51 (fun H locs hP hD hS => ?_)
  have hP : va_P (dC, dI) vwC [(m0, .inr (4, [.int 0, .ref q1, .int 0, .int (-1), .int 0, .ref q2, .ref q3, .ref q4, .int 0, .int 1, .int 0, .int 0, .ref q5, .null, .null, .null, .null, .null])), (q1, .inl (cI, 384, .inl (fun _ => 0))), (q2, .inl (cZ, 64, .inl (fun _ => 0))), (q3, .inl (cI, 64, .inl (fun _ => 0))), (q4, .inl (cI, 64, .inl (fun _ => 0))), (q5, .inl (cZ, 3, .inl (fun _ => 0)))] H := hP
  have hD : va_D A [(m0, .inr (4, [.int 0, .ref q1, .int 0, .int (-1), .int 0, .ref q2, .ref q3, .ref q4, .int 0, .int 1, .int 0, .int 0, .ref q5, .null, .null, .null, .null, .null])), (q1, .inl (cI, 384, .inl (fun _ => 0))), (q2, .inl (cZ, 64, .inl (fun _ => 0))), (q3, .inl (cI, 64, .inl (fun _ => 0))), (q4, .inl (cI, 64, .inl (fun _ => 0))), (q5, .inl (cZ, 3, .inl (fun _ => 0)))] := hD
  refine lv_aload_n hx hb dM_init_54 rfl (lv_at hl 0 rfl) ?_
  refine lv_iconst (v := 3) hx hb dM_init_55 (by decide) ?_
  refine va_newa (atype := .int) (a0 := (3, .inl (fun _ => 0))) (ty := .int) hx hb (hw _ w83) rfl hK hP hD hS hA (fun _ => rfl) (by decide) (by decide) (by decide) (Nat.le_of_ble_eq_true rfl) (Nat.le_of_ble_eq_true rfl) dM_init_56 (fun q6 cA H hK hP hD hS => ?_)
  obtain rfl := tk_eq hK (i := 0) (j := 4) rfl rfl
  have hK := hK.sub (tys' := tyA cI cZ cJ cT) [0, 1, 2, 3] rfl
  have hP : va_P (dC, dI) vwC [(m0, .inr (4, [.int 0, .ref q1, .int 0, .int (-1), .int 0, .ref q2, .ref q3, .ref q4, .int 0, .int 1, .int 0, .int 0, .ref q5, .null, .null, .null, .null, .null])), (q1, .inl (cI, 384, .inl (fun _ => 0))), (q2, .inl (cZ, 64, .inl (fun _ => 0))), (q3, .inl (cI, 64, .inl (fun _ => 0))), (q4, .inl (cI, 64, .inl (fun _ => 0))), (q5, .inl (cZ, 3, .inl (fun _ => 0))), (q6, .inl (cI, 3, .inl (fun _ => 0)))] H := hP
  have hD : va_D A [(m0, .inr (4, [.int 0, .ref q1, .int 0, .int (-1), .int 0, .ref q2, .ref q3, .ref q4, .int 0, .int 1, .int 0, .int 0, .ref q5, .null, .null, .null, .null, .null])), (q1, .inl (cI, 384, .inl (fun _ => 0))), (q2, .inl (cZ, 64, .inl (fun _ => 0))), (q3, .inl (cI, 64, .inl (fun _ => 0))), (q4, .inl (cI, 64, .inl (fun _ => 0))), (q5, .inl (cZ, 3, .inl (fun _ => 0))), (q6, .inl (cI, 3, .inl (fun _ => 0)))] := hD
  refine va_put (D := (dC, dI)) (ci := 4) (v := .ref q6) (ty := .array .int) (C := "LoggedStoreModel") (T := uM) (N := 18) hx hb hw inM tyM tyM_ok nmM hown hK hP hD hS 0 rfl rfl 13 (by decide) (hw _ w625) (fun _ h9 => h9) rfl (by decide +kernel) rfl rfl (Nat.le_of_ble_eq_true rfl) dM_init_58 (fun H locs hP hD hS => ?_)
  have hP : va_P (dC, dI) vwC [(m0, .inr (4, [.int 0, .ref q1, .int 0, .int (-1), .int 0, .ref q2, .ref q3, .ref q4, .int 0, .int 1, .int 0, .int 0, .ref q5, .ref q6, .null, .null, .null, .null])), (q1, .inl (cI, 384, .inl (fun _ => 0))), (q2, .inl (cZ, 64, .inl (fun _ => 0))), (q3, .inl (cI, 64, .inl (fun _ => 0))), (q4, .inl (cI, 64, .inl (fun _ => 0))), (q5, .inl (cZ, 3, .inl (fun _ => 0))), (q6, .inl (cI, 3, .inl (fun _ => 0)))] H := hP
  have hD : va_D A [(m0, .inr (4, [.int 0, .ref q1, .int 0, .int (-1), .int 0, .ref q2, .ref q3, .ref q4, .int 0, .int 1, .int 0, .int 0, .ref q5, .ref q6, .null, .null, .null, .null])), (q1, .inl (cI, 384, .inl (fun _ => 0))), (q2, .inl (cZ, 64, .inl (fun _ => 0))), (q3, .inl (cI, 64, .inl (fun _ => 0))), (q4, .inl (cI, 64, .inl (fun _ => 0))), (q5, .inl (cZ, 3, .inl (fun _ => 0))), (q6, .inl (cI, 3, .inl (fun _ => 0)))] := hD
  refine lv_aload_n hx hb dM_init_61 rfl (lv_at hl 0 rfl) ?_
  refine lv_sipush (v := 192) hx hb dM_init_62 (by decide) ?_
  refine va_newa (atype := .boolean) (a0 := (192, .inl (fun _ => 0))) (ty := .boolean) hx hb (hw _ w103) rfl hK hP hD hS hA (fun _ => rfl) (by decide) (by decide) (by decide) (Nat.le_of_ble_eq_true rfl) (Nat.le_of_ble_eq_true rfl) dM_init_65 (fun q7 cA H hK hP hD hS => ?_)
  obtain rfl := tk_eq hK (i := 1) (j := 4) rfl rfl
  have hK := hK.sub (tys' := tyA cI cZ cJ cT) [0, 1, 2, 3] rfl
  have hP : va_P (dC, dI) vwC [(m0, .inr (4, [.int 0, .ref q1, .int 0, .int (-1), .int 0, .ref q2, .ref q3, .ref q4, .int 0, .int 1, .int 0, .int 0, .ref q5, .ref q6, .null, .null, .null, .null])), (q1, .inl (cI, 384, .inl (fun _ => 0))), (q2, .inl (cZ, 64, .inl (fun _ => 0))), (q3, .inl (cI, 64, .inl (fun _ => 0))), (q4, .inl (cI, 64, .inl (fun _ => 0))), (q5, .inl (cZ, 3, .inl (fun _ => 0))), (q6, .inl (cI, 3, .inl (fun _ => 0))), (q7, .inl (cZ, 192, .inl (fun _ => 0)))] H := hP
  have hD : va_D A [(m0, .inr (4, [.int 0, .ref q1, .int 0, .int (-1), .int 0, .ref q2, .ref q3, .ref q4, .int 0, .int 1, .int 0, .int 0, .ref q5, .ref q6, .null, .null, .null, .null])), (q1, .inl (cI, 384, .inl (fun _ => 0))), (q2, .inl (cZ, 64, .inl (fun _ => 0))), (q3, .inl (cI, 64, .inl (fun _ => 0))), (q4, .inl (cI, 64, .inl (fun _ => 0))), (q5, .inl (cZ, 3, .inl (fun _ => 0))), (q6, .inl (cI, 3, .inl (fun _ => 0))), (q7, .inl (cZ, 192, .inl (fun _ => 0)))] := hD
  refine va_put (D := (dC, dI)) (ci := 4) (v := .ref q7) (ty := .array .boolean) (C := "LoggedStoreModel") (T := uM) (N := 18) hx hb hw inM tyM tyM_ok nmM hown hK hP hD hS 0 rfl rfl 14 (by decide) (hw _ w626) (fun _ h9 => h9) rfl (by decide +kernel) rfl rfl (Nat.le_of_ble_eq_true rfl) dM_init_67 (fun H locs hP hD hS => ?_)
  have hP : va_P (dC, dI) vwC [(m0, .inr (4, [.int 0, .ref q1, .int 0, .int (-1), .int 0, .ref q2, .ref q3, .ref q4, .int 0, .int 1, .int 0, .int 0, .ref q5, .ref q6, .ref q7, .null, .null, .null])), (q1, .inl (cI, 384, .inl (fun _ => 0))), (q2, .inl (cZ, 64, .inl (fun _ => 0))), (q3, .inl (cI, 64, .inl (fun _ => 0))), (q4, .inl (cI, 64, .inl (fun _ => 0))), (q5, .inl (cZ, 3, .inl (fun _ => 0))), (q6, .inl (cI, 3, .inl (fun _ => 0))), (q7, .inl (cZ, 192, .inl (fun _ => 0)))] H := hP
  have hD : va_D A [(m0, .inr (4, [.int 0, .ref q1, .int 0, .int (-1), .int 0, .ref q2, .ref q3, .ref q4, .int 0, .int 1, .int 0, .int 0, .ref q5, .ref q6, .ref q7, .null, .null, .null])), (q1, .inl (cI, 384, .inl (fun _ => 0))), (q2, .inl (cZ, 64, .inl (fun _ => 0))), (q3, .inl (cI, 64, .inl (fun _ => 0))), (q4, .inl (cI, 64, .inl (fun _ => 0))), (q5, .inl (cZ, 3, .inl (fun _ => 0))), (q6, .inl (cI, 3, .inl (fun _ => 0))), (q7, .inl (cZ, 192, .inl (fun _ => 0)))] := hD
  refine lv_aload_n hx hb dM_init_70 rfl (lv_at hl 0 rfl) ?_
  refine lv_sipush (v := 192) hx hb dM_init_71 (by decide) ?_
  refine va_newa (atype := .int) (a0 := (192, .inl (fun _ => 0))) (ty := .int) hx hb (hw _ w83) rfl hK hP hD hS hA (fun _ => rfl) (by decide) (by decide) (by decide) (Nat.le_of_ble_eq_true rfl) (Nat.le_of_ble_eq_true rfl) dM_init_74 (fun q8 cA H hK hP hD hS => ?_)
  obtain rfl := tk_eq hK (i := 0) (j := 4) rfl rfl
  have hK := hK.sub (tys' := tyA cI cZ cJ cT) [0, 1, 2, 3] rfl
  have hP : va_P (dC, dI) vwC [(m0, .inr (4, [.int 0, .ref q1, .int 0, .int (-1), .int 0, .ref q2, .ref q3, .ref q4, .int 0, .int 1, .int 0, .int 0, .ref q5, .ref q6, .ref q7, .null, .null, .null])), (q1, .inl (cI, 384, .inl (fun _ => 0))), (q2, .inl (cZ, 64, .inl (fun _ => 0))), (q3, .inl (cI, 64, .inl (fun _ => 0))), (q4, .inl (cI, 64, .inl (fun _ => 0))), (q5, .inl (cZ, 3, .inl (fun _ => 0))), (q6, .inl (cI, 3, .inl (fun _ => 0))), (q7, .inl (cZ, 192, .inl (fun _ => 0))), (q8, .inl (cI, 192, .inl (fun _ => 0)))] H := hP
  have hD : va_D A [(m0, .inr (4, [.int 0, .ref q1, .int 0, .int (-1), .int 0, .ref q2, .ref q3, .ref q4, .int 0, .int 1, .int 0, .int 0, .ref q5, .ref q6, .ref q7, .null, .null, .null])), (q1, .inl (cI, 384, .inl (fun _ => 0))), (q2, .inl (cZ, 64, .inl (fun _ => 0))), (q3, .inl (cI, 64, .inl (fun _ => 0))), (q4, .inl (cI, 64, .inl (fun _ => 0))), (q5, .inl (cZ, 3, .inl (fun _ => 0))), (q6, .inl (cI, 3, .inl (fun _ => 0))), (q7, .inl (cZ, 192, .inl (fun _ => 0))), (q8, .inl (cI, 192, .inl (fun _ => 0)))] := hD
  refine va_put (D := (dC, dI)) (ci := 4) (v := .ref q8) (ty := .array .int) (C := "LoggedStoreModel") (T := uM) (N := 18) hx hb hw inM tyM tyM_ok nmM hown hK hP hD hS 0 rfl rfl 15 (by decide) (hw _ w627) (fun _ h9 => h9) rfl (by decide +kernel) rfl rfl (Nat.le_of_ble_eq_true rfl) dM_init_76 (fun H locs hP hD hS => ?_)
  have hP : va_P (dC, dI) vwC [(m0, .inr (4, [.int 0, .ref q1, .int 0, .int (-1), .int 0, .ref q2, .ref q3, .ref q4, .int 0, .int 1, .int 0, .int 0, .ref q5, .ref q6, .ref q7, .ref q8, .null, .null])), (q1, .inl (cI, 384, .inl (fun _ => 0))), (q2, .inl (cZ, 64, .inl (fun _ => 0))), (q3, .inl (cI, 64, .inl (fun _ => 0))), (q4, .inl (cI, 64, .inl (fun _ => 0))), (q5, .inl (cZ, 3, .inl (fun _ => 0))), (q6, .inl (cI, 3, .inl (fun _ => 0))), (q7, .inl (cZ, 192, .inl (fun _ => 0))), (q8, .inl (cI, 192, .inl (fun _ => 0)))] H := hP
  have hD : va_D A [(m0, .inr (4, [.int 0, .ref q1, .int 0, .int (-1), .int 0, .ref q2, .ref q3, .ref q4, .int 0, .int 1, .int 0, .int 0, .ref q5, .ref q6, .ref q7, .ref q8, .null, .null])), (q1, .inl (cI, 384, .inl (fun _ => 0))), (q2, .inl (cZ, 64, .inl (fun _ => 0))), (q3, .inl (cI, 64, .inl (fun _ => 0))), (q4, .inl (cI, 64, .inl (fun _ => 0))), (q5, .inl (cZ, 3, .inl (fun _ => 0))), (q6, .inl (cI, 3, .inl (fun _ => 0))), (q7, .inl (cZ, 192, .inl (fun _ => 0))), (q8, .inl (cI, 192, .inl (fun _ => 0)))] := hD
  refine lv_aload_n hx hb dM_init_79 rfl (lv_at hl 0 rfl) ?_
  refine lv_sipush (v := 192) hx hb dM_init_80 (by decide) ?_
  refine va_newa (atype := .int) (a0 := (192, .inl (fun _ => 0))) (ty := .int) hx hb (hw _ w83) rfl hK hP hD hS hA (fun _ => rfl) (by decide) (by decide) (by decide) (Nat.le_of_ble_eq_true rfl) (Nat.le_of_ble_eq_true rfl) dM_init_83 (fun q9 cA H hK hP hD hS => ?_)
  obtain rfl := tk_eq hK (i := 0) (j := 4) rfl rfl
  have hK := hK.sub (tys' := tyA cI cZ cJ cT) [0, 1, 2, 3] rfl
  have hP : va_P (dC, dI) vwC [(m0, .inr (4, [.int 0, .ref q1, .int 0, .int (-1), .int 0, .ref q2, .ref q3, .ref q4, .int 0, .int 1, .int 0, .int 0, .ref q5, .ref q6, .ref q7, .ref q8, .null, .null])), (q1, .inl (cI, 384, .inl (fun _ => 0))), (q2, .inl (cZ, 64, .inl (fun _ => 0))), (q3, .inl (cI, 64, .inl (fun _ => 0))), (q4, .inl (cI, 64, .inl (fun _ => 0))), (q5, .inl (cZ, 3, .inl (fun _ => 0))), (q6, .inl (cI, 3, .inl (fun _ => 0))), (q7, .inl (cZ, 192, .inl (fun _ => 0))), (q8, .inl (cI, 192, .inl (fun _ => 0))), (q9, .inl (cI, 192, .inl (fun _ => 0)))] H := hP
  have hD : va_D A [(m0, .inr (4, [.int 0, .ref q1, .int 0, .int (-1), .int 0, .ref q2, .ref q3, .ref q4, .int 0, .int 1, .int 0, .int 0, .ref q5, .ref q6, .ref q7, .ref q8, .null, .null])), (q1, .inl (cI, 384, .inl (fun _ => 0))), (q2, .inl (cZ, 64, .inl (fun _ => 0))), (q3, .inl (cI, 64, .inl (fun _ => 0))), (q4, .inl (cI, 64, .inl (fun _ => 0))), (q5, .inl (cZ, 3, .inl (fun _ => 0))), (q6, .inl (cI, 3, .inl (fun _ => 0))), (q7, .inl (cZ, 192, .inl (fun _ => 0))), (q8, .inl (cI, 192, .inl (fun _ => 0))), (q9, .inl (cI, 192, .inl (fun _ => 0)))] := hD
  refine va_put (D := (dC, dI)) (ci := 4) (v := .ref q9) (ty := .array .int) (C := "LoggedStoreModel") (T := uM) (N := 18) hx hb hw inM tyM tyM_ok nmM hown hK hP hD hS 0 rfl rfl 16 (by decide) (hw _ w628) (fun _ h9 => h9) rfl (by decide +kernel) rfl rfl (Nat.le_of_ble_eq_true rfl) dM_init_85 (fun H locs hP hD hS => ?_)
  have hP : va_P (dC, dI) vwC [(m0, .inr (4, [.int 0, .ref q1, .int 0, .int (-1), .int 0, .ref q2, .ref q3, .ref q4, .int 0, .int 1, .int 0, .int 0, .ref q5, .ref q6, .ref q7, .ref q8, .ref q9, .null])), (q1, .inl (cI, 384, .inl (fun _ => 0))), (q2, .inl (cZ, 64, .inl (fun _ => 0))), (q3, .inl (cI, 64, .inl (fun _ => 0))), (q4, .inl (cI, 64, .inl (fun _ => 0))), (q5, .inl (cZ, 3, .inl (fun _ => 0))), (q6, .inl (cI, 3, .inl (fun _ => 0))), (q7, .inl (cZ, 192, .inl (fun _ => 0))), (q8, .inl (cI, 192, .inl (fun _ => 0))), (q9, .inl (cI, 192, .inl (fun _ => 0)))] H := hP
  have hD : va_D A [(m0, .inr (4, [.int 0, .ref q1, .int 0, .int (-1), .int 0, .ref q2, .ref q3, .ref q4, .int 0, .int 1, .int 0, .int 0, .ref q5, .ref q6, .ref q7, .ref q8, .ref q9, .null])), (q1, .inl (cI, 384, .inl (fun _ => 0))), (q2, .inl (cZ, 64, .inl (fun _ => 0))), (q3, .inl (cI, 64, .inl (fun _ => 0))), (q4, .inl (cI, 64, .inl (fun _ => 0))), (q5, .inl (cZ, 3, .inl (fun _ => 0))), (q6, .inl (cI, 3, .inl (fun _ => 0))), (q7, .inl (cZ, 192, .inl (fun _ => 0))), (q8, .inl (cI, 192, .inl (fun _ => 0))), (q9, .inl (cI, 192, .inl (fun _ => 0)))] := hD
  refine lv_aload_n hx hb dM_init_88 rfl (lv_at hl 0 rfl) ?_
  refine lv_sipush (v := 192) hx hb dM_init_89 (by decide) ?_
  refine va_newa (atype := .int) (a0 := (192, .inl (fun _ => 0))) (ty := .int) hx hb (hw _ w83) rfl hK hP hD hS hA (fun _ => rfl) (by decide) (by decide) (by decide) (Nat.le_of_ble_eq_true rfl) (Nat.le_of_ble_eq_true rfl) dM_init_92 (fun q10 cA H hK hP hD hS => ?_)
  obtain rfl := tk_eq hK (i := 0) (j := 4) rfl rfl
  have hK := hK.sub (tys' := tyA cI cZ cJ cT) [0, 1, 2, 3] rfl
  have hP : va_P (dC, dI) vwC [(m0, .inr (4, [.int 0, .ref q1, .int 0, .int (-1), .int 0, .ref q2, .ref q3, .ref q4, .int 0, .int 1, .int 0, .int 0, .ref q5, .ref q6, .ref q7, .ref q8, .ref q9, .null])), (q1, .inl (cI, 384, .inl (fun _ => 0))), (q2, .inl (cZ, 64, .inl (fun _ => 0))), (q3, .inl (cI, 64, .inl (fun _ => 0))), (q4, .inl (cI, 64, .inl (fun _ => 0))), (q5, .inl (cZ, 3, .inl (fun _ => 0))), (q6, .inl (cI, 3, .inl (fun _ => 0))), (q7, .inl (cZ, 192, .inl (fun _ => 0))), (q8, .inl (cI, 192, .inl (fun _ => 0))), (q9, .inl (cI, 192, .inl (fun _ => 0))), (q10, .inl (cI, 192, .inl (fun _ => 0)))] H := hP
  have hD : va_D A [(m0, .inr (4, [.int 0, .ref q1, .int 0, .int (-1), .int 0, .ref q2, .ref q3, .ref q4, .int 0, .int 1, .int 0, .int 0, .ref q5, .ref q6, .ref q7, .ref q8, .ref q9, .null])), (q1, .inl (cI, 384, .inl (fun _ => 0))), (q2, .inl (cZ, 64, .inl (fun _ => 0))), (q3, .inl (cI, 64, .inl (fun _ => 0))), (q4, .inl (cI, 64, .inl (fun _ => 0))), (q5, .inl (cZ, 3, .inl (fun _ => 0))), (q6, .inl (cI, 3, .inl (fun _ => 0))), (q7, .inl (cZ, 192, .inl (fun _ => 0))), (q8, .inl (cI, 192, .inl (fun _ => 0))), (q9, .inl (cI, 192, .inl (fun _ => 0))), (q10, .inl (cI, 192, .inl (fun _ => 0)))] := hD
  refine va_put (D := (dC, dI)) (ci := 4) (v := .ref q10) (ty := .array .int) (C := "LoggedStoreModel") (T := uM) (N := 18) hx hb hw inM tyM tyM_ok nmM hown hK hP hD hS 0 rfl rfl 17 (by decide) (hw _ w629) (fun _ h9 => h9) rfl (by decide +kernel) rfl rfl (Nat.le_of_ble_eq_true rfl) dM_init_94 (fun H locs hP hD hS => ?_)
  have hP : va_P (dC, dI) vwC [(m0, .inr (4, [.int 0, .ref q1, .int 0, .int (-1), .int 0, .ref q2, .ref q3, .ref q4, .int 0, .int 1, .int 0, .int 0, .ref q5, .ref q6, .ref q7, .ref q8, .ref q9, .ref q10])), (q1, .inl (cI, 384, .inl (fun _ => 0))), (q2, .inl (cZ, 64, .inl (fun _ => 0))), (q3, .inl (cI, 64, .inl (fun _ => 0))), (q4, .inl (cI, 64, .inl (fun _ => 0))), (q5, .inl (cZ, 3, .inl (fun _ => 0))), (q6, .inl (cI, 3, .inl (fun _ => 0))), (q7, .inl (cZ, 192, .inl (fun _ => 0))), (q8, .inl (cI, 192, .inl (fun _ => 0))), (q9, .inl (cI, 192, .inl (fun _ => 0))), (q10, .inl (cI, 192, .inl (fun _ => 0)))] H := hP
  have hD : va_D A [(m0, .inr (4, [.int 0, .ref q1, .int 0, .int (-1), .int 0, .ref q2, .ref q3, .ref q4, .int 0, .int 1, .int 0, .int 0, .ref q5, .ref q6, .ref q7, .ref q8, .ref q9, .ref q10])), (q1, .inl (cI, 384, .inl (fun _ => 0))), (q2, .inl (cZ, 64, .inl (fun _ => 0))), (q3, .inl (cI, 64, .inl (fun _ => 0))), (q4, .inl (cI, 64, .inl (fun _ => 0))), (q5, .inl (cZ, 3, .inl (fun _ => 0))), (q6, .inl (cI, 3, .inl (fun _ => 0))), (q7, .inl (cZ, 192, .inl (fun _ => 0))), (q8, .inl (cI, 192, .inl (fun _ => 0))), (q9, .inl (cI, 192, .inl (fun _ => 0))), (q10, .inl (cI, 192, .inl (fun _ => 0)))] := hD
  refine lv_aload_n hx hb dM_init_97 rfl (lv_at hl 0 rfl) ?_
  refine va_get (D := (dC, dI)) (ci := 4) (v := .ref q1) (C := "LoggedStoreModel") (T := uM) (N := 18) hx hb hw inM hown hK hP 0 rfl rfl 1 (by decide) (hw _ w613) (fun _ h9 => h9) rfl dM_init_98 ?_
  refine lv_iconst (v := 0) hx hb dM_init_101 (by decide) ?_
  refine lv_iconst (v := 1) hx hb dM_init_102 (by decide) ?_
  refine va_iast hx hb hK hP hD hS 1 0 rfl rfl (tv_in (by decide +kernel)) dM_init_103 (fun H locs hP hD hS => ?_)
  have hP : va_P (dC, dI) vwC [(m0, .inr (4, [.int 0, .ref q1, .int 0, .int (-1), .int 0, .ref q2, .ref q3, .ref q4, .int 0, .int 1, .int 0, .int 0, .ref q5, .ref q6, .ref q7, .ref q8, .ref q9, .ref q10])), (q1, .inl (cI, 384, .inl (upd (fun _ => 0) (0 : Int32).toNatClampNeg 1))), (q2, .inl (cZ, 64, .inl (fun _ => 0))), (q3, .inl (cI, 64, .inl (fun _ => 0))), (q4, .inl (cI, 64, .inl (fun _ => 0))), (q5, .inl (cZ, 3, .inl (fun _ => 0))), (q6, .inl (cI, 3, .inl (fun _ => 0))), (q7, .inl (cZ, 192, .inl (fun _ => 0))), (q8, .inl (cI, 192, .inl (fun _ => 0))), (q9, .inl (cI, 192, .inl (fun _ => 0))), (q10, .inl (cI, 192, .inl (fun _ => 0)))] H := hP
  have hD : va_D A [(m0, .inr (4, [.int 0, .ref q1, .int 0, .int (-1), .int 0, .ref q2, .ref q3, .ref q4, .int 0, .int 1, .int 0, .int 0, .ref q5, .ref q6, .ref q7, .ref q8, .ref q9, .ref q10])), (q1, .inl (cI, 384, .inl (upd (fun _ => 0) (0 : Int32).toNatClampNeg 1))), (q2, .inl (cZ, 64, .inl (fun _ => 0))), (q3, .inl (cI, 64, .inl (fun _ => 0))), (q4, .inl (cI, 64, .inl (fun _ => 0))), (q5, .inl (cZ, 3, .inl (fun _ => 0))), (q6, .inl (cI, 3, .inl (fun _ => 0))), (q7, .inl (cZ, 192, .inl (fun _ => 0))), (q8, .inl (cI, 192, .inl (fun _ => 0))), (q9, .inl (cI, 192, .inl (fun _ => 0))), (q10, .inl (cI, 192, .inl (fun _ => 0)))] := hD
  refine lv_aload_n hx hb dM_init_104 rfl (lv_at hl 0 rfl) ?_
  refine va_get (D := (dC, dI)) (ci := 4) (v := .ref q1) (C := "LoggedStoreModel") (T := uM) (N := 18) hx hb hw inM hown hK hP 0 rfl rfl 1 (by decide) (hw _ w613) (fun _ h9 => h9) rfl dM_init_105 ?_
  refine lv_iconst (v := 3) hx hb dM_init_108 (by decide) ?_
  refine lv_iconst (v := 1) hx hb dM_init_109 (by decide) ?_
  refine lv_iconst (v := 0) hx hb dM_init_110 (by decide) ?_
  refine lv_iconst (v := 0) hx hb dM_init_111 (by decide) ?_
  refine lv_iconst (v := 0) hx hb dM_init_112 (by decide) ?_
  have hPc := hP.sub (ws' := []) [] rfl
  refine vp_callSi (W.runS (As := [.int 1, .int 0, .int 0, .int 0]) (rest := [.int 3, .ref q1]) ⟨hx, hb, hml, hown, hw⟩ (c_M_chk l dC dI cI cZ cJ cT 1 0 0 0) ⟨callB_of 4 hw (gA0 w608) rfl rfl rfl (hw _ w45) (hw _ w606) (by decide +kernel) ⟨Nat.le_of_ble_eq_true rfl, Nat.le_of_ble_eq_true rfl⟩, (hw _ w607)⟩ ⟨kb_S, fun U hU hW => ⟨rfl, by rw [hU]; exact hPc, hKK.moved hW⟩⟩ rfl rfl hl.1 rfl (lv_room (Nat.le_of_ble_eq_true rfl)) dM_init_113 ⟨Nat.le_of_ble_eq_true rfl, Nat.le_of_ble_eq_true rfl⟩) (fun r11 e12 => ?_)
  obtain rfl : r11 = 1013969759 := e12.trans (by decide +kernel)
  refine va_iast hx hb hK hP hD hS 1 0 rfl rfl (tv_in (by decide +kernel)) dM_init_116 (fun H locs hP hD hS => ?_)
  have hP : va_P (dC, dI) vwC [(m0, .inr (4, [.int 0, .ref q1, .int 0, .int (-1), .int 0, .ref q2, .ref q3, .ref q4, .int 0, .int 1, .int 0, .int 0, .ref q5, .ref q6, .ref q7, .ref q8, .ref q9, .ref q10])), (q1, .inl (cI, 384, .inl (upd (upd (fun _ => 0) (0 : Int32).toNatClampNeg 1) (3 : Int32).toNatClampNeg 1013969759))), (q2, .inl (cZ, 64, .inl (fun _ => 0))), (q3, .inl (cI, 64, .inl (fun _ => 0))), (q4, .inl (cI, 64, .inl (fun _ => 0))), (q5, .inl (cZ, 3, .inl (fun _ => 0))), (q6, .inl (cI, 3, .inl (fun _ => 0))), (q7, .inl (cZ, 192, .inl (fun _ => 0))), (q8, .inl (cI, 192, .inl (fun _ => 0))), (q9, .inl (cI, 192, .inl (fun _ => 0))), (q10, .inl (cI, 192, .inl (fun _ => 0)))] H := hP
  have hD : va_D A [(m0, .inr (4, [.int 0, .ref q1, .int 0, .int (-1), .int 0, .ref q2, .ref q3, .ref q4, .int 0, .int 1, .int 0, .int 0, .ref q5, .ref q6, .ref q7, .ref q8, .ref q9, .ref q10])), (q1, .inl (cI, 384, .inl (upd (upd (fun _ => 0) (0 : Int32).toNatClampNeg 1) (3 : Int32).toNatClampNeg 1013969759))), (q2, .inl (cZ, 64, .inl (fun _ => 0))), (q3, .inl (cI, 64, .inl (fun _ => 0))), (q4, .inl (cI, 64, .inl (fun _ => 0))), (q5, .inl (cZ, 3, .inl (fun _ => 0))), (q6, .inl (cI, 3, .inl (fun _ => 0))), (q7, .inl (cZ, 192, .inl (fun _ => 0))), (q8, .inl (cI, 192, .inl (fun _ => 0))), (q9, .inl (cI, 192, .inl (fun _ => 0))), (q10, .inl (cI, 192, .inl (fun _ => 0)))] := hD
  have hP9 := hP.sub (ws' := [(m0, .inr (4, [.int 0, .ref q1, .int 0, .int (-1), .int 0, .ref q2, .ref q3, .ref q4, .int 0, .int 1, .int 0, .int 0, .ref q5, .ref q6, .ref q7, .ref q8, .ref q9, .ref q10])), (q1, .inl (cI, 384, .inl (upd (upd (fun _ => 0) (0 : Int32).toNatClampNeg 1) (3 : Int32).toNatClampNeg 1013969759))), (q2, .inl (cZ, 64, .inl (fun _ => 0))), (q3, .inl (cI, 64, .inl (fun _ => 0))), (q4, .inl (cI, 64, .inl (fun _ => 0))), (q5, .inl (cZ, 3, .inl (fun _ => 0))), (q6, .inl (cI, 3, .inl (fun _ => 0))), (q7, .inl (cZ, 192, .inl (fun _ => 0))), (q8, .inl (cI, 192, .inl (fun _ => 0))), (q9, .inl (cI, 192, .inl (fun _ => 0))), (q10, .inl (cI, 192, .inl (fun _ => 0)))]) [0, 1, 2, 3, 4, 5, 6, 7, 8, 9, 10] rfl
  have hD9 := hD.sub (ws' := [(m0, .inr (4, [.int 0, .ref q1, .int 0, .int (-1), .int 0, .ref q2, .ref q3, .ref q4, .int 0, .int 1, .int 0, .int 0, .ref q5, .ref q6, .ref q7, .ref q8, .ref q9, .ref q10])), (q1, .inl (cI, 384, .inl (upd (upd (fun _ => 0) (0 : Int32).toNatClampNeg 1) (3 : Int32).toNatClampNeg 1013969759))), (q2, .inl (cZ, 64, .inl (fun _ => 0))), (q3, .inl (cI, 64, .inl (fun _ => 0))), (q4, .inl (cI, 64, .inl (fun _ => 0))), (q5, .inl (cZ, 3, .inl (fun _ => 0))), (q6, .inl (cI, 3, .inl (fun _ => 0))), (q7, .inl (cZ, 192, .inl (fun _ => 0))), (q8, .inl (cI, 192, .inl (fun _ => 0))), (q9, .inl (cI, 192, .inl (fun _ => 0))), (q10, .inl (cI, 192, .inl (fun _ => 0)))]) [0, 1, 2, 3, 4, 5, 6, 7, 8, 9, 10] (by decide) rfl
  refine W.widen (k := 10) (n := 1350) (by decide) (by decide) ?_
  exact W.vret hx hb hr (fun t ht hW => ⟨⟨fun k => match k with | 0 => q1 | 1 => q2 | 2 => q3 | 3 => q4 | 4 => q5 | 5 => q6 | 6 => q7 | 7 => q8 | 8 => q9 | _ => q10, rfl, trivial, by rw [ht]; exact hP9, hD9⟩, hS.F ht⟩) hS.2.2 dM_init_117

set_option maxHeartbeats 4000000 in
set_option maxRecDepth 100000 in
theorem c_within_t (l : Launch) (dC : Nat → ClassId) (dI : Nat → Nat → Nat) (cI cZ cJ cT : ClassId) (v9 lo hi : Int32) (h1 : ¬ v9 < lo) (h2 : ¬ hi < v9) : Met l yM_within (Cond.code yM_within cM_within 3 (some .boolean) :: wsA) ({ frames := 0, cells := 0, slots := 0, locals := 0 }) (va_Pc [.int v9, .int lo, .int hi] (fun U => va_P (dC, dI) vwC [] U.heap ∧ KK dC dI cI cZ cJ cT U)) (vp_Si (fun r => r = 1)) 0 0 (fun _ => False) := by
  refine Met.ofW (cc := cM_within) (maxL := 3) (ret := (some .boolean)) (by decide) rfl ?_
  intro p e s m args below meth c s₁ B hml hv
  obtain ⟨rfl, hP, hKK⟩ := hv
  have hK := hKK.1
  have hx := B.exec
  have hb := B.bytes
  have hr := B.returns
  have hw : ∀ w ∈ wsA, w.before _ s = true := fun w h => atoms_spec (ws := (Cond.code yM_within cM_within 3 (some .boolean) :: wsA)) B.pre w (List.mem_cons_of_mem _ h)
  have hown : s.vm.findClass "LoggedStoreModel" = some m.cls := findClass_of_methodNamed B.named
  have hlocks := B.notSynchronized
  have hl := lv_entry ([.int v9, .int lo, .int hi]) (n := 3) (Nat.le_of_ble_eq_true rfl)
  rw [lg_entry_eq]
  generalize (lg_sl ([.int v9, .int lo, .int hi]) ++ List.replicate (3 - (lg_sl ([.int v9, .int lo, .int hi])).length) Slot.unset).toArray = ls at hl ⊢
  have hl : lv_has ls 3 [(0, .int v9), (1, .int lo), (2, .int hi)] := hl
  refine lv_iload_n hx hb dM_within_0 rfl (lv_at hl 0 rfl) ?_
  refine lv_iload_n hx hb dM_within_1 rfl (lv_at hl 1 rfl) ?_
  refine lv_icmp_lt (tgt := 14) hx hb dM_within_2 (by decide) (fun h9 => absurd h9 (h1)) (fun _ => ?_)
  refine lv_iload_n hx hb dM_within_5 rfl (lv_at hl 0 rfl) ?_
  refine lv_iload_n hx hb dM_within_6 rfl (lv_at hl 2 rfl) ?_
  refine lv_icmp_gt (tgt := 14) hx hb dM_within_7 (by decide) (fun h9 => absurd h9 (h2)) (fun _ => ?_)
  refine lv_iconst (v := 1) hx hb dM_within_10 (by decide) ?_
  refine lv_goto (tgt := 15) hx hb dM_within_11 (by decide) ?_
  exact W.zret (v := 1) (ty := .boolean) hx hb hr (by decide) (fun t ht hW => ⟨1, rfl, rfl, ht⟩) (fun q h => by cases h) dM_within_15

set_option maxHeartbeats 4000000 in
set_option maxRecDepth 100000 in
theorem c_within_f (l : Launch) (dC : Nat → ClassId) (dI : Nat → Nat → Nat) (cI cZ cJ cT : ClassId) (v9 lo hi : Int32) (h1 : v9 < lo) : Met l yM_within (Cond.code yM_within cM_within 3 (some .boolean) :: wsA) ({ frames := 0, cells := 0, slots := 0, locals := 0 }) (va_Pc [.int v9, .int lo, .int hi] (fun U => va_P (dC, dI) vwC [] U.heap ∧ KK dC dI cI cZ cJ cT U)) (vp_Si (fun r => r = 0)) 0 0 (fun _ => False) := by
  refine Met.ofW (cc := cM_within) (maxL := 3) (ret := (some .boolean)) (by decide) rfl ?_
  intro p e s m args below meth c s₁ B hml hv
  obtain ⟨rfl, hP, hKK⟩ := hv
  have hK := hKK.1
  have hx := B.exec
  have hb := B.bytes
  have hr := B.returns
  have hw : ∀ w ∈ wsA, w.before _ s = true := fun w h => atoms_spec (ws := (Cond.code yM_within cM_within 3 (some .boolean) :: wsA)) B.pre w (List.mem_cons_of_mem _ h)
  have hown : s.vm.findClass "LoggedStoreModel" = some m.cls := findClass_of_methodNamed B.named
  have hlocks := B.notSynchronized
  have hl := lv_entry ([.int v9, .int lo, .int hi]) (n := 3) (Nat.le_of_ble_eq_true rfl)
  rw [lg_entry_eq]
  generalize (lg_sl ([.int v9, .int lo, .int hi]) ++ List.replicate (3 - (lg_sl ([.int v9, .int lo, .int hi])).length) Slot.unset).toArray = ls at hl ⊢
  have hl : lv_has ls 3 [(0, .int v9), (1, .int lo), (2, .int hi)] := hl
  refine lv_iload_n hx hb dM_within_0 rfl (lv_at hl 0 rfl) ?_
  refine lv_iload_n hx hb dM_within_1 rfl (lv_at hl 1 rfl) ?_
  refine lv_icmp_lt (tgt := 14) hx hb dM_within_2 (by decide) (fun _ => ?_) (fun h9 => absurd (h1) h9)
  refine lv_iconst (v := 0) hx hb dM_within_14 (by decide) ?_
  exact W.zret (v := 0) (ty := .boolean) hx hb hr (by decide) (fun t ht hW => ⟨0, rfl, rfl, ht⟩) (fun q h => by cases h) dM_within_15

set_option maxHeartbeats 4000000 in
set_option maxRecDepth 100000 in
theorem c_within_g (l : Launch) (dC : Nat → ClassId) (dI : Nat → Nat → Nat) (cI cZ cJ cT : ClassId) (v9 lo hi : Int32) (h1 : ¬ v9 < lo) (h2 : hi < v9) : Met l yM_within (Cond.code yM_within cM_within 3 (some .boolean) :: wsA) ({ frames := 0, cells := 0, slots := 0, locals := 0 }) (va_Pc [.int v9, .int lo, .int hi] (fun U => va_P (dC, dI) vwC [] U.heap ∧ KK dC dI cI cZ cJ cT U)) (vp_Si (fun r => r = 0)) 0 0 (fun _ => False) := by
  refine Met.ofW (cc := cM_within) (maxL := 3) (ret := (some .boolean)) (by decide) rfl ?_
  intro p e s m args below meth c s₁ B hml hv
  obtain ⟨rfl, hP, hKK⟩ := hv
  have hK := hKK.1
  have hx := B.exec
  have hb := B.bytes
  have hr := B.returns
  have hw : ∀ w ∈ wsA, w.before _ s = true := fun w h => atoms_spec (ws := (Cond.code yM_within cM_within 3 (some .boolean) :: wsA)) B.pre w (List.mem_cons_of_mem _ h)
  have hown : s.vm.findClass "LoggedStoreModel" = some m.cls := findClass_of_methodNamed B.named
  have hlocks := B.notSynchronized
  have hl := lv_entry ([.int v9, .int lo, .int hi]) (n := 3) (Nat.le_of_ble_eq_true rfl)
  rw [lg_entry_eq]
  generalize (lg_sl ([.int v9, .int lo, .int hi]) ++ List.replicate (3 - (lg_sl ([.int v9, .int lo, .int hi])).length) Slot.unset).toArray = ls at hl ⊢
  have hl : lv_has ls 3 [(0, .int v9), (1, .int lo), (2, .int hi)] := hl
  refine lv_iload_n hx hb dM_within_0 rfl (lv_at hl 0 rfl) ?_
  refine lv_iload_n hx hb dM_within_1 rfl (lv_at hl 1 rfl) ?_
  refine lv_icmp_lt (tgt := 14) hx hb dM_within_2 (by decide) (fun h9 => absurd h9 (h1)) (fun _ => ?_)
  refine lv_iload_n hx hb dM_within_5 rfl (lv_at hl 0 rfl) ?_
  refine lv_iload_n hx hb dM_within_6 rfl (lv_at hl 2 rfl) ?_
  refine lv_icmp_gt (tgt := 14) hx hb dM_within_7 (by decide) (fun _ => ?_) (fun h9 => absurd (h2) h9)
  refine lv_iconst (v := 0) hx hb dM_within_14 (by decide) ?_
  exact W.zret (v := 0) (ty := .boolean) hx hb hr (by decide) (fun t ht hW => ⟨0, rfl, rfl, ht⟩) (fun q h => by cases h) dM_within_15

set_option maxHeartbeats 4000000 in
set_option maxRecDepth 100000 in
theorem c_lackOf (l : Launch) (dC : Nat → ClassId) (dI : Nat → Nat → Nat) (cI cZ cJ cT : ClassId) (m0 md mh mn mc mo mb mk ml ms mw : Nat) (t9 : Int32) : Met l yM_lackOf (Cond.code yM_lackOf cM_lackOf 2 (some .int) :: wsA) ({ frames := 1, cells := 0, slots := 0, locals := 22 }) (va_Pc [.ref m0, .int t9] (fun U => va_P (dC, dI) vwC [(m0, .inr (4, [.int 0, .ref md, .int 0, .int (-1), .int 0, .ref mh, .ref mn, .ref mc, .int 0, .int 1, .int 0, .int 0, .ref mo, .ref mb, .ref mk, .ref ml, .ref ms, .ref mw])), (mo, .inl (cZ, 3, .inl (fun _ => 0)))] U.heap ∧ KK dC dI cI cZ cJ cT U)) (vp_Si (fun r => r = 2)) 0 0 (fun _ => False) := by
  refine Met.ofW (cc := cM_lackOf) (maxL := 2) (ret := (some .int)) (by decide) rfl ?_
  intro p e s m args below meth c s₁ B hml hv
  obtain ⟨rfl, hP, hKK⟩ := hv
  rcases tk_t t9 with h1 | ⟨h1, h2, h3⟩ | rfl | rfl | rfl
  · have hK := hKK.1
    have hx := B.exec
    have hb := B.bytes
    have hr := B.returns
    have hw : ∀ w ∈ wsA, w.before _ s = true := fun w h => atoms_spec (ws := (Cond.code yM_lackOf cM_lackOf 2 (some .int) :: wsA)) B.pre w (List.mem_cons_of_mem _ h)
    have hown : s.vm.findClass "LoggedStoreModel" = some m.cls := findClass_of_methodNamed B.named
    have hlocks := B.notSynchronized
    have hl := lv_entry ([.ref m0, .int t9]) (n := 2) (Nat.le_of_ble_eq_true rfl)
    rw [lg_entry_eq]
    generalize (lg_sl ([.ref m0, .int t9]) ++ List.replicate (2 - (lg_sl ([.ref m0, .int t9])).length) Slot.unset).toArray = ls at hl ⊢
    have hl : lv_has ls 2 [(0, .ref m0), (1, .int t9)] := hl
    refine lv_aload_n hx hb dM_lackOf_0 rfl (lv_at hl 0 rfl) ?_
    refine va_get (D := (dC, dI)) (ci := 4) (v := .int 0) (C := "LoggedStoreModel") (T := uM) (N := 18) hx hb hw inM hown hK hP 0 rfl rfl 2 (by decide) (hw _ w614) (fun _ h9 => h9) rfl dM_lackOf_1 ?_
    refine lv_if_eq (tgt := 11) hx hb dM_lackOf_4 (by decide) (fun _ => ?_) (fun h9 => absurd (by decide) h9)
    refine lv_iload_n hx hb dM_lackOf_11 rfl (lv_at hl 1 rfl) ?_
    refine lv_iconst (v := 0) hx hb dM_lackOf_12 (by decide) ?_
    refine lv_iconst (v := 2) hx hb dM_lackOf_13 (by decide) ?_
    have hPc := hP.sub (ws' := []) [] rfl
    refine vp_callSi (W.runS (As := [.int t9, .int 0, .int 2]) (rest := []) ⟨hx, hb, hml, hown, hw⟩ (c_within_f l dC dI cI cZ cJ cT t9 0 2 h1) ⟨callB_of 3 hw (gA0 w677) rfl rfl rfl (hw _ w45) (hw _ w675) (by decide +kernel) ⟨Nat.le_of_ble_eq_true rfl, Nat.le_of_ble_eq_true rfl⟩, (hw _ w676)⟩ ⟨kb_S, fun U hU hW => ⟨rfl, by rw [hU]; exact hPc, hKK.moved hW⟩⟩ rfl rfl hl.1 rfl (lv_room (Nat.le_of_ble_eq_true rfl)) dM_lackOf_14 ⟨Nat.le_of_ble_eq_true rfl, Nat.le_of_ble_eq_true rfl⟩) (fun r1 e2 => ?_)
    obtain rfl : r1 = 0 := e2
    refine lv_if_eq (tgt := 29) hx hb dM_lackOf_17 (by decide) (fun _ => ?_) (fun h9 => absurd (by decide) h9)
    refine lv_iconst (v := 2) hx hb dM_lackOf_29 (by decide) ?_
    refine lv_goto (tgt := 34) hx hb dM_lackOf_30 (by decide) ?_
    exact W.iret (v := 2) hx hb hr (fun t ht hW => ⟨2, rfl, rfl, ht⟩) (fun q h => by cases h) dM_lackOf_34
  · have hK := hKK.1
    have hx := B.exec
    have hb := B.bytes
    have hr := B.returns
    have hw : ∀ w ∈ wsA, w.before _ s = true := fun w h => atoms_spec (ws := (Cond.code yM_lackOf cM_lackOf 2 (some .int) :: wsA)) B.pre w (List.mem_cons_of_mem _ h)
    have hown : s.vm.findClass "LoggedStoreModel" = some m.cls := findClass_of_methodNamed B.named
    have hlocks := B.notSynchronized
    have hl := lv_entry ([.ref m0, .int t9]) (n := 2) (Nat.le_of_ble_eq_true rfl)
    rw [lg_entry_eq]
    generalize (lg_sl ([.ref m0, .int t9]) ++ List.replicate (2 - (lg_sl ([.ref m0, .int t9])).length) Slot.unset).toArray = ls at hl ⊢
    have hl : lv_has ls 2 [(0, .ref m0), (1, .int t9)] := hl
    refine lv_aload_n hx hb dM_lackOf_0 rfl (lv_at hl 0 rfl) ?_
    refine va_get (D := (dC, dI)) (ci := 4) (v := .int 0) (C := "LoggedStoreModel") (T := uM) (N := 18) hx hb hw inM hown hK hP 0 rfl rfl 2 (by decide) (hw _ w614) (fun _ h9 => h9) rfl dM_lackOf_1 ?_
    refine lv_if_eq (tgt := 11) hx hb dM_lackOf_4 (by decide) (fun _ => ?_) (fun h9 => absurd (by decide) h9)
    refine lv_iload_n hx hb dM_lackOf_11 rfl (lv_at hl 1 rfl) ?_
    refine lv_iconst (v := 0) hx hb dM_lackOf_12 (by decide) ?_
    refine lv_iconst (v := 2) hx hb dM_lackOf_13 (by decide) ?_
    have hPc := hP.sub (ws' := []) [] rfl
    refine vp_callSi (W.runS (As := [.int t9, .int 0, .int 2]) (rest := []) ⟨hx, hb, hml, hown, hw⟩ (c_within_g l dC dI cI cZ cJ cT t9 0 2 h1 h3) ⟨callB_of 3 hw (gA0 w677) rfl rfl rfl (hw _ w45) (hw _ w675) (by decide +kernel) ⟨Nat.le_of_ble_eq_true rfl, Nat.le_of_ble_eq_true rfl⟩, (hw _ w676)⟩ ⟨kb_S, fun U hU hW => ⟨rfl, by rw [hU]; exact hPc, hKK.moved hW⟩⟩ rfl rfl hl.1 rfl (lv_room (Nat.le_of_ble_eq_true rfl)) dM_lackOf_14 ⟨Nat.le_of_ble_eq_true rfl, Nat.le_of_ble_eq_true rfl⟩) (fun r1 e2 => ?_)
    obtain rfl : r1 = 0 := e2
    refine lv_if_eq (tgt := 29) hx hb dM_lackOf_17 (by decide) (fun _ => ?_) (fun h9 => absurd (by decide) h9)
    refine lv_iconst (v := 2) hx hb dM_lackOf_29 (by decide) ?_
    refine lv_goto (tgt := 34) hx hb dM_lackOf_30 (by decide) ?_
    exact W.iret (v := 2) hx hb hr (fun t ht hW => ⟨2, rfl, rfl, ht⟩) (fun q h => by cases h) dM_lackOf_34
  · have hK := hKK.1
    have hx := B.exec
    have hb := B.bytes
    have hr := B.returns
    have hw : ∀ w ∈ wsA, w.before _ s = true := fun w h => atoms_spec (ws := (Cond.code yM_lackOf cM_lackOf 2 (some .int) :: wsA)) B.pre w (List.mem_cons_of_mem _ h)
    have hown : s.vm.findClass "LoggedStoreModel" = some m.cls := findClass_of_methodNamed B.named
    have hlocks := B.notSynchronized
    have hl := lv_entry ([.ref m0, .int 0]) (n := 2) (Nat.le_of_ble_eq_true rfl)
    rw [lg_entry_eq]
    generalize (lg_sl ([.ref m0, .int 0]) ++ List.replicate (2 - (lg_sl ([.ref m0, .int 0])).length) Slot.unset).toArray = ls at hl ⊢
    have hl : lv_has ls 2 [(0, .ref m0), (1, .int 0)] := hl
    refine lv_aload_n hx hb dM_lackOf_0 rfl (lv_at hl 0 rfl) ?_
    refine va_get (D := (dC, dI)) (ci := 4) (v := .int 0) (C := "LoggedStoreModel") (T := uM) (N := 18) hx hb hw inM hown hK hP 0 rfl rfl 2 (by decide) (hw _ w614) (fun _ h9 => h9) rfl dM_lackOf_1 ?_
    refine lv_if_eq (tgt := 11) hx hb dM_lackOf_4 (by decide) (fun _ => ?_) (fun h9 => absurd (by decide) h9)
    refine lv_iload_n hx hb dM_lackOf_11 rfl (lv_at hl 1 rfl) ?_
    refine lv_iconst (v := 0) hx hb dM_lackOf_12 (by decide) ?_
    refine lv_iconst (v := 2) hx hb dM_lackOf_13 (by decide) ?_
    have hPc := hP.sub (ws' := []) [] rfl
    refine vp_callSi (W.runS (As := [.int 0, .int 0, .int 2]) (rest := []) ⟨hx, hb, hml, hown, hw⟩ (c_within_t l dC dI cI cZ cJ cT 0 0 2 (by decide) (by decide)) ⟨callB_of 3 hw (gA0 w677) rfl rfl rfl (hw _ w45) (hw _ w675) (by decide +kernel) ⟨Nat.le_of_ble_eq_true rfl, Nat.le_of_ble_eq_true rfl⟩, (hw _ w676)⟩ ⟨kb_S, fun U hU hW => ⟨rfl, by rw [hU]; exact hPc, hKK.moved hW⟩⟩ rfl rfl hl.1 rfl (lv_room (Nat.le_of_ble_eq_true rfl)) dM_lackOf_14 ⟨Nat.le_of_ble_eq_true rfl, Nat.le_of_ble_eq_true rfl⟩) (fun r1 e2 => ?_)
    obtain rfl : r1 = 1 := e2
    refine lv_if_eq (tgt := 29) hx hb dM_lackOf_17 (by decide) (fun h9 => absurd h9 (by decide)) (fun _ => ?_)
    refine lv_aload_n hx hb dM_lackOf_20 rfl (lv_at hl 0 rfl) ?_
    refine va_get (D := (dC, dI)) (ci := 4) (v := .ref mo) (C := "LoggedStoreModel") (T := uM) (N := 18) hx hb hw inM hown hK hP 0 rfl rfl 12 (by decide) (hw _ w624) (fun _ h9 => h9) rfl dM_lackOf_21 ?_
    refine lv_iload_n hx hb dM_lackOf_24 rfl (lv_at hl 1 rfl) ?_
    refine va_zald hx hb hK hP 1 1 rfl rfl (tv_in (by decide +kernel)) dM_lackOf_25 ?_
    refine lv_topi (nm_r (e' := 0) (rfl) ?_)
    refine lv_if_ne (tgt := 33) hx hb dM_lackOf_26 (by decide) (fun h9 => absurd (by decide) h9) (fun _ => ?_)
    refine lv_iconst (v := 2) hx hb dM_lackOf_29 (by decide) ?_
    refine lv_goto (tgt := 34) hx hb dM_lackOf_30 (by decide) ?_
    exact W.iret (v := 2) hx hb hr (fun t ht hW => ⟨2, rfl, rfl, ht⟩) (fun q h => by cases h) dM_lackOf_34
  · have hK := hKK.1
    have hx := B.exec
    have hb := B.bytes
    have hr := B.returns
    have hw : ∀ w ∈ wsA, w.before _ s = true := fun w h => atoms_spec (ws := (Cond.code yM_lackOf cM_lackOf 2 (some .int) :: wsA)) B.pre w (List.mem_cons_of_mem _ h)
    have hown : s.vm.findClass "LoggedStoreModel" = some m.cls := findClass_of_methodNamed B.named
    have hlocks := B.notSynchronized
    have hl := lv_entry ([.ref m0, .int 1]) (n := 2) (Nat.le_of_ble_eq_true rfl)
    rw [lg_entry_eq]
    generalize (lg_sl ([.ref m0, .int 1]) ++ List.replicate (2 - (lg_sl ([.ref m0, .int 1])).length) Slot.unset).toArray = ls at hl ⊢
    have hl : lv_has ls 2 [(0, .ref m0), (1, .int 1)] := hl
    refine lv_aload_n hx hb dM_lackOf_0 rfl (lv_at hl 0 rfl) ?_
    refine va_get (D := (dC, dI)) (ci := 4) (v := .int 0) (C := "LoggedStoreModel") (T := uM) (N := 18) hx hb hw inM hown hK hP 0 rfl rfl 2 (by decide) (hw _ w614) (fun _ h9 => h9) rfl dM_lackOf_1 ?_
    refine lv_if_eq (tgt := 11) hx hb dM_lackOf_4 (by decide) (fun _ => ?_) (fun h9 => absurd (by decide) h9)
    refine lv_iload_n hx hb dM_lackOf_11 rfl (lv_at hl 1 rfl) ?_
    refine lv_iconst (v := 0) hx hb dM_lackOf_12 (by decide) ?_
    refine lv_iconst (v := 2) hx hb dM_lackOf_13 (by decide) ?_
    have hPc := hP.sub (ws' := []) [] rfl
    refine vp_callSi (W.runS (As := [.int 1, .int 0, .int 2]) (rest := []) ⟨hx, hb, hml, hown, hw⟩ (c_within_t l dC dI cI cZ cJ cT 1 0 2 (by decide) (by decide)) ⟨callB_of 3 hw (gA0 w677) rfl rfl rfl (hw _ w45) (hw _ w675) (by decide +kernel) ⟨Nat.le_of_ble_eq_true rfl, Nat.le_of_ble_eq_true rfl⟩, (hw _ w676)⟩ ⟨kb_S, fun U hU hW => ⟨rfl, by rw [hU]; exact hPc, hKK.moved hW⟩⟩ rfl rfl hl.1 rfl (lv_room (Nat.le_of_ble_eq_true rfl)) dM_lackOf_14 ⟨Nat.le_of_ble_eq_true rfl, Nat.le_of_ble_eq_true rfl⟩) (fun r1 e2 => ?_)
    obtain rfl : r1 = 1 := e2
    refine lv_if_eq (tgt := 29) hx hb dM_lackOf_17 (by decide) (fun h9 => absurd h9 (by decide)) (fun _ => ?_)
    refine lv_aload_n hx hb dM_lackOf_20 rfl (lv_at hl 0 rfl) ?_
    refine va_get (D := (dC, dI)) (ci := 4) (v := .ref mo) (C := "LoggedStoreModel") (T := uM) (N := 18) hx hb hw inM hown hK hP 0 rfl rfl 12 (by decide) (hw _ w624) (fun _ h9 => h9) rfl dM_lackOf_21 ?_
    refine lv_iload_n hx hb dM_lackOf_24 rfl (lv_at hl 1 rfl) ?_
    refine va_zald hx hb hK hP 1 1 rfl rfl (tv_in (by decide +kernel)) dM_lackOf_25 ?_
    refine lv_topi (nm_r (e' := 0) (rfl) ?_)
    refine lv_if_ne (tgt := 33) hx hb dM_lackOf_26 (by decide) (fun h9 => absurd (by decide) h9) (fun _ => ?_)
    refine lv_iconst (v := 2) hx hb dM_lackOf_29 (by decide) ?_
    refine lv_goto (tgt := 34) hx hb dM_lackOf_30 (by decide) ?_
    exact W.iret (v := 2) hx hb hr (fun t ht hW => ⟨2, rfl, rfl, ht⟩) (fun q h => by cases h) dM_lackOf_34
  · have hK := hKK.1
    have hx := B.exec
    have hb := B.bytes
    have hr := B.returns
    have hw : ∀ w ∈ wsA, w.before _ s = true := fun w h => atoms_spec (ws := (Cond.code yM_lackOf cM_lackOf 2 (some .int) :: wsA)) B.pre w (List.mem_cons_of_mem _ h)
    have hown : s.vm.findClass "LoggedStoreModel" = some m.cls := findClass_of_methodNamed B.named
    have hlocks := B.notSynchronized
    have hl := lv_entry ([.ref m0, .int 2]) (n := 2) (Nat.le_of_ble_eq_true rfl)
    rw [lg_entry_eq]
    generalize (lg_sl ([.ref m0, .int 2]) ++ List.replicate (2 - (lg_sl ([.ref m0, .int 2])).length) Slot.unset).toArray = ls at hl ⊢
    have hl : lv_has ls 2 [(0, .ref m0), (1, .int 2)] := hl
    refine lv_aload_n hx hb dM_lackOf_0 rfl (lv_at hl 0 rfl) ?_
    refine va_get (D := (dC, dI)) (ci := 4) (v := .int 0) (C := "LoggedStoreModel") (T := uM) (N := 18) hx hb hw inM hown hK hP 0 rfl rfl 2 (by decide) (hw _ w614) (fun _ h9 => h9) rfl dM_lackOf_1 ?_
    refine lv_if_eq (tgt := 11) hx hb dM_lackOf_4 (by decide) (fun _ => ?_) (fun h9 => absurd (by decide) h9)
    refine lv_iload_n hx hb dM_lackOf_11 rfl (lv_at hl 1 rfl) ?_
    refine lv_iconst (v := 0) hx hb dM_lackOf_12 (by decide) ?_
    refine lv_iconst (v := 2) hx hb dM_lackOf_13 (by decide) ?_
    have hPc := hP.sub (ws' := []) [] rfl
    refine vp_callSi (W.runS (As := [.int 2, .int 0, .int 2]) (rest := []) ⟨hx, hb, hml, hown, hw⟩ (c_within_t l dC dI cI cZ cJ cT 2 0 2 (by decide) (by decide)) ⟨callB_of 3 hw (gA0 w677) rfl rfl rfl (hw _ w45) (hw _ w675) (by decide +kernel) ⟨Nat.le_of_ble_eq_true rfl, Nat.le_of_ble_eq_true rfl⟩, (hw _ w676)⟩ ⟨kb_S, fun U hU hW => ⟨rfl, by rw [hU]; exact hPc, hKK.moved hW⟩⟩ rfl rfl hl.1 rfl (lv_room (Nat.le_of_ble_eq_true rfl)) dM_lackOf_14 ⟨Nat.le_of_ble_eq_true rfl, Nat.le_of_ble_eq_true rfl⟩) (fun r1 e2 => ?_)
    obtain rfl : r1 = 1 := e2
    refine lv_if_eq (tgt := 29) hx hb dM_lackOf_17 (by decide) (fun h9 => absurd h9 (by decide)) (fun _ => ?_)
    refine lv_aload_n hx hb dM_lackOf_20 rfl (lv_at hl 0 rfl) ?_
    refine va_get (D := (dC, dI)) (ci := 4) (v := .ref mo) (C := "LoggedStoreModel") (T := uM) (N := 18) hx hb hw inM hown hK hP 0 rfl rfl 12 (by decide) (hw _ w624) (fun _ h9 => h9) rfl dM_lackOf_21 ?_
    refine lv_iload_n hx hb dM_lackOf_24 rfl (lv_at hl 1 rfl) ?_
    refine va_zald hx hb hK hP 1 1 rfl rfl (tv_in (by decide +kernel)) dM_lackOf_25 ?_
    refine lv_topi (nm_r (e' := 0) (rfl) ?_)
    refine lv_if_ne (tgt := 33) hx hb dM_lackOf_26 (by decide) (fun h9 => absurd (by decide) h9) (fun _ => ?_)
    refine lv_iconst (v := 2) hx hb dM_lackOf_29 (by decide) ?_
    refine lv_goto (tgt := 34) hx hb dM_lackOf_30 (by decide) ?_
    exact W.iret (v := 2) hx hb hr (fun t ht hW => ⟨2, rfl, rfl, ht⟩) (fun q h => by cases h) dM_lackOf_34

set_option maxHeartbeats 4000000 in
set_option maxRecDepth 100000 in
theorem c_lackOfKey (l : Launch) (dC : Nat → ClassId) (dI : Nat → Nat → Nat) (cI cZ cJ cT : ClassId) (m0 md mh mn mc mo mb mk ml ms mw : Nat) (t9 k9 : Int32) : Met l yM_lackOfKey (Cond.code yM_lackOfKey cM_lackOfKey 4 (some .int) :: wsA) ({ frames := 2, cells := 0, slots := 0, locals := 43 }) (va_Pc [.ref m0, .int t9, .int k9] (fun U => va_P (dC, dI) vwC [(m0, .inr (4, [.int 0, .ref md, .int 0, .int (-1), .int 0, .ref mh, .ref mn, .ref mc, .int 0, .int 1, .int 0, .int 0, .ref mo, .ref mb, .ref mk, .ref ml, .ref ms, .ref mw])), (mo, .inl (cZ, 3, .inl (fun _ => 0)))] U.heap ∧ KK dC dI cI cZ cJ cT U)) (vp_Si (fun r => r = 2)) 0 0 (fun _ => False) := by
  refine Met.ofW (cc := cM_lackOfKey) (maxL := 4) (ret := (some .int)) (by decide) rfl ?_
  intro p e s m args below meth c s₁ B hml hv
  obtain ⟨rfl, hP, hKK⟩ := hv
  have hK := hKK.1
  have hx := B.exec
  have hb := B.bytes
  have hr := B.returns
  have hw : ∀ w ∈ wsA, w.before _ s = true := fun w h => atoms_spec (ws := (Cond.code yM_lackOfKey cM_lackOfKey 4 (some .int) :: wsA)) B.pre w (List.mem_cons_of_mem _ h)
  have hown : s.vm.findClass "LoggedStoreModel" = some m.cls := findClass_of_methodNamed B.named
  have hlocks := B.notSynchronized
  have hl := lv_entry ([.ref m0, .int t9, .int k9]) (n := 4) (Nat.le_of_ble_eq_true rfl)
  rw [lg_entry_eq]
  generalize (lg_sl ([.ref m0, .int t9, .int k9]) ++ List.replicate (4 - (lg_sl ([.ref m0, .int t9, .int k9])).length) Slot.unset).toArray = ls at hl ⊢
  have hl : lv_has ls 4 [(0, .ref m0), (1, .int t9), (2, .int k9)] := hl
  refine lv_aload_n hx hb dM_lackOfKey_0 rfl (lv_at hl 0 rfl) ?_
  refine lv_iload_n hx hb dM_lackOfKey_1 rfl (lv_at hl 1 rfl) ?_
  have hPc := hP.sub (ws' := [(m0, .inr (4, [.int 0, .ref md, .int 0, .int (-1), .int 0, .ref mh, .ref mn, .ref mc, .int 0, .int 1, .int 0, .int 0, .ref mo, .ref mb, .ref mk, .ref ml, .ref ms, .ref mw])), (mo, .inl (cZ, 3, .inl (fun _ => 0)))]) [0, 1] rfl
  refine vp_callSi (W.runV (C := "LoggedStoreModel") (b := m0) (As := [.int t9]) (rest := []) ⟨hx, hb, hml, hown, hw⟩ (c_lackOf l dC dI cI cZ cJ cT m0 md mh mn mc mo mb mk ml ms mw t9) ⟨callB_of 1 hw (gA0 w689) rfl rfl rfl (hw _ w45) (hw _ w686) (by decide +kernel) ⟨Nat.le_of_ble_eq_true rfl, Nat.le_of_ble_eq_true rfl⟩, (hw _ w688), (hw _ w22)⟩ ⟨kb_S, va_recv (ci := 4) (q0 := 0) hK hP rfl rfl, fun U hU hW => ⟨rfl, by rw [hU]; exact hPc, hKK.moved hW⟩⟩ rfl rfl hl.1 rfl (lv_room (Nat.le_of_ble_eq_true rfl)) dM_lackOfKey_2 ⟨Nat.le_of_ble_eq_true rfl, Nat.le_of_ble_eq_true rfl⟩) (fun r1 e2 => ?_)
  obtain rfl : r1 = 2 := e2
  refine lv_istore_n hx hb dM_lackOfKey_5 rfl hl (by decide) rfl (fun ls hl => ?_)
  have hl : lv_has ls 4 [(3, .int 2), (0, .ref m0), (1, .int t9), (2, .int k9)] := hl
  refine lv_iload_n hx hb dM_lackOfKey_6 rfl (lv_at hl 0 rfl) ?_
  refine lv_if_le (tgt := 14) hx hb dM_lackOfKey_7 (by decide) (fun h9 => absurd h9 (by decide)) (fun _ => ?_)
  refine lv_iload_n hx hb dM_lackOfKey_10 rfl (lv_at hl 0 rfl) ?_
  refine lv_goto (tgt := 29) hx hb dM_lackOfKey_11 (by decide) ?_
  exact W.iret (v := 2) hx hb hr (fun t ht hW => ⟨2, rfl, rfl, ht⟩) (fun q h => by cases h) dM_lackOfKey_29

set_option maxHeartbeats 4000000 in
set_option maxRecDepth 100000 in
theorem c_M_get (l : Launch) (dC : Nat → ClassId) (dI : Nat → Nat → Nat) (cI cZ cJ cT : ClassId) (m0 md mh mn mc mo mb mk ml ms mw : Nat) (t9 k9 : Int32) (sz : Nat) : Met l yM_get (Cond.code yM_get cM_get 3 (some .int) :: wsA) ({ frames := 3, cells := 0, slots := 0, locals := 66 }) (va_Pc [.ref m0, .int t9, .int k9] (fun U => U.heap.size = sz ∧ va_P (dC, dI) vwC [(m0, .inr (4, [.int 0, .ref md, .int 0, .int (-1), .int 0, .ref mh, .ref mn, .ref mc, .int 0, .int 1, .int 0, .int 0, .ref mo, .ref mb, .ref mk, .ref ml, .ref ms, .ref mw])), (mo, .inl (cZ, 3, .inl (fun _ => 0)))] U.heap ∧ KK dC dI cI cZ cJ cT U ∧ va_D (fun _ => True) [(m0, .inr (4, [.int 0, .ref md, .int 0, .int (-1), .int 0, .ref mh, .ref mn, .ref mc, .int 0, .int 1, .int 0, .int 0, .ref mo, .ref mb, .ref mk, .ref ml, .ref ms, .ref mw])), (mo, .inl (cZ, 3, .inl (fun _ => 0)))])) (va_Qi (S := Nat → Nat) (fun r _ => r = 0) (fun u t => va_P (dC, dI) vwC [(m0, .inr (4, [.int 2, .ref md, .int 0, .int (-1), .int 0, .ref mh, .ref mn, .ref mc, .int 0, .int 1, .int 0, .int 0, .ref mo, .ref mb, .ref mk, .ref ml, .ref ms, .ref mw]))] t.heap ∧ va_D (va_A [(m0, .inr (4, [.int 0, .ref md, .int 0, .int (-1), .int 0, .ref mh, .ref mn, .ref mc, .int 0, .int 1, .int 0, .int 0, .ref mo, .ref mb, .ref mk, .ref ml, .ref ms, .ref mw])), (mo, .inl (cZ, 3, .inl (fun _ => 0)))] sz) [(m0, .inr (4, [.int 2, .ref md, .int 0, .int (-1), .int 0, .ref mh, .ref mn, .ref mc, .int 0, .int 1, .int 0, .int 0, .ref mo, .ref mb, .ref mk, .ref ml, .ref ms, .ref mw]))]) (va_A [(m0, .inr (4, [.int 0, .ref md, .int 0, .int (-1), .int 0, .ref mh, .ref mn, .ref mc, .int 0, .int 1, .int 0, .int 0, .ref mo, .ref mb, .ref mk, .ref ml, .ref ms, .ref mw])), (mo, .inl (cZ, 3, .inl (fun _ => 0)))] sz)) 0 0 (va_A [(m0, .inr (4, [.int 0, .ref md, .int 0, .int (-1), .int 0, .ref mh, .ref mn, .ref mc, .int 0, .int 1, .int 0, .int 0, .ref mo, .ref mb, .ref mk, .ref ml, .ref ms, .ref mw])), (mo, .inl (cZ, 3, .inl (fun _ => 0)))] sz) := by
  refine Met.ofW (cc := cM_get) (maxL := 3) (ret := (some .int)) (by decide) rfl ?_
  intro p e s m args below meth c s₁ B hml hv
  obtain ⟨rfl, hsz, hP, hKK, hD0⟩ := hv
  have hK := hKK.1
  have hx := B.exec
  have hb := B.bytes
  have hr := B.returns
  have hw : ∀ w ∈ wsA, w.before _ s = true := fun w h => atoms_spec (ws := (Cond.code yM_get cM_get 3 (some .int) :: wsA)) B.pre w (List.mem_cons_of_mem _ h)
  have hown : s.vm.findClass "LoggedStoreModel" = some m.cls := findClass_of_methodNamed B.named
  have hlocks := B.notSynchronized
  subst hsz
  have hD := hD0.self (sz := s.heap.size)
  generalize hAe : va_A [(m0, .inr (4, [.int 0, .ref md, .int 0, .int (-1), .int 0, .ref mh, .ref mn, .ref mc, .int 0, .int 1, .int 0, .int 0, .ref mo, .ref mb, .ref mk, .ref ml, .ref ms, .ref mw])), (mo, .inl (cZ, 3, .inl (fun _ => 0)))] s.heap.size = A at hD ⊢
  have hA : ∀ q : Nat, s.heap.size ≤ q → A q := fun q h => by rw [← hAe]; exact Or.inr h
  have hS : va_S A s.heap s.heap [] := va_S.rf
  have hl := lv_entry ([.ref m0, .int t9, .int k9]) (n := 3) (Nat.le_of_ble_eq_true rfl)
  rw [lg_entry_eq]
  generalize (lg_sl ([.ref m0, .int t9, .int k9]) ++ List.replicate (3 - (lg_sl ([.ref m0, .int t9, .int k9])).length) Slot.unset).toArray = ls at hl ⊢
  have hl : lv_has ls 3 [(0, .ref m0), (1, .int t9), (2, .int k9)] := hl
  refine lv_aload_n hx hb dM_get_0 rfl (lv_at hl 0 rfl) ?_
  refine lv_aload_n hx hb dM_get_1 rfl (lv_at hl 0 rfl) ?_
  refine lv_iload_n hx hb dM_get_2 rfl (lv_at hl 1 rfl) ?_
  refine lv_iload_n hx hb dM_get_3 rfl (lv_at hl 2 rfl) ?_
  have hPc := hP.sub (ws' := [(m0, .inr (4, [.int 0, .ref md, .int 0, .int (-1), .int 0, .ref mh, .ref mn, .ref mc, .int 0, .int 1, .int 0, .int 0, .ref mo, .ref mb, .ref mk, .ref ml, .ref ms, .ref mw])), (mo, .inl (cZ, 3, .inl (fun _ => 0)))]) [0, 1] rfl
  refine vp_callSi (W.runV (C := "LoggedStoreModel") (b := m0) (As := [.int t9, .int k9]) (rest := [.ref m0]) ⟨hx, hb, hml, hown, hw⟩ (c_lackOfKey l dC dI cI cZ cJ cT m0 md mh mn mc mo mb mk ml ms mw t9 k9) ⟨callB_of 2 hw (gA0 w685) rfl rfl rfl (hw _ w45) (hw _ w682) (by decide +kernel) ⟨Nat.le_of_ble_eq_true rfl, Nat.le_of_ble_eq_true rfl⟩, (hw _ w684), (hw _ w21)⟩ ⟨kb_S, va_recv (ci := 4) (q0 := 0) hK hP rfl rfl, fun U hU hW => ⟨rfl, by rw [hU]; exact hPc, hKK.moved hW⟩⟩ rfl rfl hl.1 rfl (lv_room (Nat.le_of_ble_eq_true rfl)) dM_get_4 ⟨Nat.le_of_ble_eq_true rfl, Nat.le_of_ble_eq_true rfl⟩) (fun r1 e2 => ?_)
  obtain rfl : r1 = 2 := e2
  refine va_put (D := (dC, dI)) (ci := 4) (v := .int 2) (ty := .int) (C := "LoggedStoreModel") (T := uM) (N := 18) hx hb hw inM tyM tyM_ok nmM hown hK hP hD hS 0 rfl rfl 0 (by decide) (hw _ w612) (fun _ h9 => h9) rfl (by decide +kernel) rfl rfl (Nat.le_of_ble_eq_true rfl) dM_get_7 (fun H locs hP hD hS => ?_)
  have hP : va_P (dC, dI) vwC [(m0, .inr (4, [.int 2, .ref md, .int 0, .int (-1), .int 0, .ref mh, .ref mn, .ref mc, .int 0, .int 1, .int 0, .int 0, .ref mo, .ref mb, .ref mk, .ref ml, .ref ms, .ref mw])), (mo, .inl (cZ, 3, .inl (fun _ => 0)))] H := hP
  have hD : va_D A [(m0, .inr (4, [.int 2, .ref md, .int 0, .int (-1), .int 0, .ref mh, .ref mn, .ref mc, .int 0, .int 1, .int 0, .int 0, .ref mo, .ref mb, .ref mk, .ref ml, .ref ms, .ref mw])), (mo, .inl (cZ, 3, .inl (fun _ => 0)))] := hD
  refine lv_aload_n hx hb dM_get_10 rfl (lv_at hl 0 rfl) ?_
  refine va_get (D := (dC, dI)) (ci := 4) (v := .int 2) (C := "LoggedStoreModel") (T := uM) (N := 18) hx hb hw inM hown hK hP 0 rfl rfl 0 (by decide) (hw _ w612) (fun _ h9 => h9) rfl dM_get_11 ?_
  refine lv_if_ne (tgt := 31) hx hb dM_get_14 (by decide) (fun _ => ?_) (fun h9 => absurd h9 (by decide))
  refine lv_aload_n hx hb dM_get_31 rfl (lv_at hl 0 rfl) ?_
  refine va_get (D := (dC, dI)) (ci := 4) (v := .int 2) (C := "LoggedStoreModel") (T := uM) (N := 18) hx hb hw inM hown hK hP 0 rfl rfl 0 (by decide) (hw _ w612) (fun _ h9 => h9) rfl dM_get_32 ?_
  refine lv_if_le (tgt := 42) hx hb dM_get_35 (by decide) (fun h9 => absurd h9 (by decide)) (fun _ => ?_)
  refine lv_iconst (v := 0) hx hb dM_get_38 (by decide) ?_
  refine lv_goto (tgt := 82) hx hb dM_get_39 (by decide) ?_
  have hP9 := hP.sub (ws' := [(m0, .inr (4, [.int 2, .ref md, .int 0, .int (-1), .int 0, .ref mh, .ref mn, .ref mc, .int 0, .int 1, .int 0, .int 0, .ref mo, .ref mb, .ref mk, .ref ml, .ref ms, .ref mw]))]) [0] rfl
  have hD9 := hD.sub (ws' := [(m0, .inr (4, [.int 2, .ref md, .int 0, .int (-1), .int 0, .ref mh, .ref mn, .ref mc, .int 0, .int 1, .int 0, .int 0, .ref mo, .ref mb, .ref mk, .ref ml, .ref ms, .ref mw]))]) [0] (by decide) rfl
  refine W.widen (k := 0) (n := 0) (by decide) (by decide) ?_
  exact W.iret (v := 0) hx hb hr (fun t ht hW => ⟨⟨0, fun _ => 0, rfl, rfl, by rw [ht]; exact hP9, hD9⟩, hS.F ht⟩) hS.2.2 dM_get_82

set_option maxHeartbeats 4000000 in
set_option maxRecDepth 100000 in
theorem c_M_put (l : Launch) (dC : Nat → ClassId) (dI : Nat → Nat → Nat) (cI cZ cJ cT : ClassId) (m0 md mh mn mc mo mb mk ml ms mw : Nat) (t9 k9 n9 : Int32) (sz : Nat) : Met l yM_put (Cond.code yM_put cM_put 5 (some .boolean) :: wsA) ({ frames := 3, cells := 0, slots := 0, locals := 66 }) (va_Pc [.ref m0, .int t9, .int k9, .int n9] (fun U => U.heap.size = sz ∧ va_P (dC, dI) vwC [(m0, .inr (4, [.int 0, .ref md, .int 0, .int (-1), .int 0, .ref mh, .ref mn, .ref mc, .int 0, .int 1, .int 0, .int 0, .ref mo, .ref mb, .ref mk, .ref ml, .ref ms, .ref mw])), (mo, .inl (cZ, 3, .inl (fun _ => 0)))] U.heap ∧ KK dC dI cI cZ cJ cT U ∧ va_D (fun _ => True) [(m0, .inr (4, [.int 0, .ref md, .int 0, .int (-1), .int 0, .ref mh, .ref mn, .ref mc, .int 0, .int 1, .int 0, .int 0, .ref mo, .ref mb, .ref mk, .ref ml, .ref ms, .ref mw])), (mo, .inl (cZ, 3, .inl (fun _ => 0)))])) (va_Qi (S := Nat → Nat) (fun r _ => r = 0) (fun u t => va_P (dC, dI) vwC [(m0, .inr (4, [.int 2, .ref md, .int 0, .int (-1), .int 0, .ref mh, .ref mn, .ref mc, .int 0, .int 1, .int 0, .int 0, .ref mo, .ref mb, .ref mk, .ref ml, .ref ms, .ref mw]))] t.heap ∧ va_D (va_A [(m0, .inr (4, [.int 0, .ref md, .int 0, .int (-1), .int 0, .ref mh, .ref mn, .ref mc, .int 0, .int 1, .int 0, .int 0, .ref mo, .ref mb, .ref mk, .ref ml, .ref ms, .ref mw])), (mo, .inl (cZ, 3, .inl (fun _ => 0)))] sz) [(m0, .inr (4, [.int 2, .ref md, .int 0, .int (-1), .int 0, .ref mh, .ref mn, .ref mc, .int 0, .int 1, .int 0, .int 0, .ref mo, .ref mb, .ref mk, .ref ml, .ref ms, .ref mw]))]) (va_A [(m0, .inr (4, [.int 0, .ref md, .int 0, .int (-1), .int 0, .ref mh, .ref mn, .ref mc, .int 0, .int 1, .int 0, .int 0, .ref mo, .ref mb, .ref mk, .ref ml, .ref ms, .ref mw])), (mo, .inl (cZ, 3, .inl (fun _ => 0)))] sz)) 0 0 (va_A [(m0, .inr (4, [.int 0, .ref md, .int 0, .int (-1), .int 0, .ref mh, .ref mn, .ref mc, .int 0, .int 1, .int 0, .int 0, .ref mo, .ref mb, .ref mk, .ref ml, .ref ms, .ref mw])), (mo, .inl (cZ, 3, .inl (fun _ => 0)))] sz) := by
  refine Met.ofW (cc := cM_put) (maxL := 5) (ret := (some .boolean)) (by decide) rfl ?_
  intro p e s m args below meth c s₁ B hml hv
  obtain ⟨rfl, hsz, hP, hKK, hD0⟩ := hv
  have hK := hKK.1
  have hx := B.exec
  have hb := B.bytes
  have hr := B.returns
  have hw : ∀ w ∈ wsA, w.before _ s = true := fun w h => atoms_spec (ws := (Cond.code yM_put cM_put 5 (some .boolean) :: wsA)) B.pre w (List.mem_cons_of_mem _ h)
  have hown : s.vm.findClass "LoggedStoreModel" = some m.cls := findClass_of_methodNamed B.named
  have hlocks := B.notSynchronized
  subst hsz
  have hD := hD0.self (sz := s.heap.size)
  generalize hAe : va_A [(m0, .inr (4, [.int 0, .ref md, .int 0, .int (-1), .int 0, .ref mh, .ref mn, .ref mc, .int 0, .int 1, .int 0, .int 0, .ref mo, .ref mb, .ref mk, .ref ml, .ref ms, .ref mw])), (mo, .inl (cZ, 3, .inl (fun _ => 0)))] s.heap.size = A at hD ⊢
  have hA : ∀ q : Nat, s.heap.size ≤ q → A q := fun q h => by rw [← hAe]; exact Or.inr h
  have hS : va_S A s.heap s.heap [] := va_S.rf
  have hl := lv_entry ([.ref m0, .int t9, .int k9, .int n9]) (n := 5) (Nat.le_of_ble_eq_true rfl)
  rw [lg_entry_eq]
  generalize (lg_sl ([.ref m0, .int t9, .int k9, .int n9]) ++ List.replicate (5 - (lg_sl ([.ref m0, .int t9, .int k9, .int n9])).length) Slot.unset).toArray = ls at hl ⊢
  have hl : lv_has ls 5 [(0, .ref m0), (1, .int t9), (2, .int k9), (3, .int n9)] := hl
  refine lv_aload_n hx hb dM_put_0 rfl (lv_at hl 0 rfl) ?_
  refine lv_aload_n hx hb dM_put_1 rfl (lv_at hl 0 rfl) ?_
  refine lv_iload_n hx hb dM_put_2 rfl (lv_at hl 1 rfl) ?_
  refine lv_iload_n hx hb dM_put_3 rfl (lv_at hl 2 rfl) ?_
  have hPc := hP.sub (ws' := [(m0, .inr (4, [.int 0, .ref md, .int 0, .int (-1), .int 0, .ref mh, .ref mn, .ref mc, .int 0, .int 1, .int 0, .int 0, .ref mo, .ref mb, .ref mk, .ref ml, .ref ms, .ref mw])), (mo, .inl (cZ, 3, .inl (fun _ => 0)))]) [0, 1] rfl
  refine vp_callSi (W.runV (C := "LoggedStoreModel") (b := m0) (As := [.int t9, .int k9]) (rest := [.ref m0]) ⟨hx, hb, hml, hown, hw⟩ (c_lackOfKey l dC dI cI cZ cJ cT m0 md mh mn mc mo mb mk ml ms mw t9 k9) ⟨callB_of 2 hw (gA0 w685) rfl rfl rfl (hw _ w45) (hw _ w682) (by decide +kernel) ⟨Nat.le_of_ble_eq_true rfl, Nat.le_of_ble_eq_true rfl⟩, (hw _ w684), (hw _ w21)⟩ ⟨kb_S, va_recv (ci := 4) (q0 := 0) hK hP rfl rfl, fun U hU hW => ⟨rfl, by rw [hU]; exact hPc, hKK.moved hW⟩⟩ rfl rfl hl.1 rfl (lv_room (Nat.le_of_ble_eq_true rfl)) dM_put_4 ⟨Nat.le_of_ble_eq_true rfl, Nat.le_of_ble_eq_true rfl⟩) (fun r1 e2 => ?_)
  obtain rfl : r1 = 2 := e2
  refine va_put (D := (dC, dI)) (ci := 4) (v := .int 2) (ty := .int) (C := "LoggedStoreModel") (T := uM) (N := 18) hx hb hw inM tyM tyM_ok nmM hown hK hP hD hS 0 rfl rfl 0 (by decide) (hw _ w612) (fun _ h9 => h9) rfl (by decide +kernel) rfl rfl (Nat.le_of_ble_eq_true rfl) dM_put_7 (fun H locs hP hD hS => ?_)
  have hP : va_P (dC, dI) vwC [(m0, .inr (4, [.int 2, .ref md, .int 0, .int (-1), .int 0, .ref mh, .ref mn, .ref mc, .int 0, .int 1, .int 0, .int 0, .ref mo, .ref mb, .ref mk, .ref ml, .ref ms, .ref mw])), (mo, .inl (cZ, 3, .inl (fun _ => 0)))] H := hP
  have hD : va_D A [(m0, .inr (4, [.int 2, .ref md, .int 0, .int (-1), .int 0, .ref mh, .ref mn, .ref mc, .int 0, .int 1, .int 0, .int 0, .ref mo, .ref mb, .ref mk, .ref ml, .ref ms, .ref mw])), (mo, .inl (cZ, 3, .inl (fun _ => 0)))] := hD
  refine lv_aload_n hx hb dM_put_10 rfl (lv_at hl 0 rfl) ?_
  refine va_get (D := (dC, dI)) (ci := 4) (v := .int 2) (C := "LoggedStoreModel") (T := uM) (N := 18) hx hb hw inM hown hK hP 0 rfl rfl 0 (by decide) (hw _ w612) (fun _ h9 => h9) rfl dM_put_11 ?_
  refine lv_if_le (tgt := 19) hx hb dM_put_14 (by decide) (fun h9 => absurd h9 (by decide)) (fun _ => ?_)
  refine lv_iconst (v := 0) hx hb dM_put_17 (by decide) ?_
  have hP9 := hP.sub (ws' := [(m0, .inr (4, [.int 2, .ref md, .int 0, .int (-1), .int 0, .ref mh, .ref mn, .ref mc, .int 0, .int 1, .int 0, .int 0, .ref mo, .ref mb, .ref mk, .ref ml, .ref ms, .ref mw]))]) [0] rfl
  have hD9 := hD.sub (ws' := [(m0, .inr (4, [.int 2, .ref md, .int 0, .int (-1), .int 0, .ref mh, .ref mn, .ref mc, .int 0, .int 1, .int 0, .int 0, .ref mo, .ref mb, .ref mk, .ref ml, .ref ms, .ref mw]))]) [0] (by decide) rfl
  refine W.widen (k := 0) (n := 0) (by decide) (by decide) ?_
  exact W.zret (v := 0) (ty := .boolean) hx hb hr (by decide) (fun t ht hW => ⟨⟨0, fun _ => 0, rfl, rfl, by rw [ht]; exact hP9, hD9⟩, hS.F ht⟩) hS.2.2 dM_put_18

set_option maxHeartbeats 4000000 in
set_option maxRecDepth 100000 in
theorem c_M_remove (l : Launch) (dC : Nat → ClassId) (dI : Nat → Nat → Nat) (cI cZ cJ cT : ClassId) (m0 md mh mn mc mo mb mk ml ms mw : Nat) (t9 k9 : Int32) (sz : Nat) : Met l yM_remove (Cond.code yM_remove cM_remove 3 none :: wsA) ({ frames := 3, cells := 0, slots := 0, locals := 66 }) (va_Pc [.ref m0, .int t9, .int k9] (fun U => U.heap.size = sz ∧ va_P (dC, dI) vwC [(m0, .inr (4, [.int 0, .ref md, .int 0, .int (-1), .int 0, .ref mh, .ref mn, .ref mc, .int 0, .int 1, .int 0, .int 0, .ref mo, .ref mb, .ref mk, .ref ml, .ref ms, .ref mw])), (mo, .inl (cZ, 3, .inl (fun _ => 0)))] U.heap ∧ KK dC dI cI cZ cJ cT U ∧ va_D (fun _ => True) [(m0, .inr (4, [.int 0, .ref md, .int 0, .int (-1), .int 0, .ref mh, .ref mn, .ref mc, .int 0, .int 1, .int 0, .int 0, .ref mo, .ref mb, .ref mk, .ref ml, .ref ms, .ref mw])), (mo, .inl (cZ, 3, .inl (fun _ => 0)))])) (va_Qv (S := Nat → Nat) (fun _ => True) (fun u t => va_P (dC, dI) vwC [(m0, .inr (4, [.int 2, .ref md, .int 0, .int (-1), .int 0, .ref mh, .ref mn, .ref mc, .int 0, .int 1, .int 0, .int 0, .ref mo, .ref mb, .ref mk, .ref ml, .ref ms, .ref mw]))] t.heap ∧ va_D (va_A [(m0, .inr (4, [.int 0, .ref md, .int 0, .int (-1), .int 0, .ref mh, .ref mn, .ref mc, .int 0, .int 1, .int 0, .int 0, .ref mo, .ref mb, .ref mk, .ref ml, .ref ms, .ref mw])), (mo, .inl (cZ, 3, .inl (fun _ => 0)))] sz) [(m0, .inr (4, [.int 2, .ref md, .int 0, .int (-1), .int 0, .ref mh, .ref mn, .ref mc, .int 0, .int 1, .int 0, .int 0, .ref mo, .ref mb, .ref mk, .ref ml, .ref ms, .ref mw]))]) (va_A [(m0, .inr (4, [.int 0, .ref md, .int 0, .int (-1), .int 0, .ref mh, .ref mn, .ref mc, .int 0, .int 1, .int 0, .int 0, .ref mo, .ref mb, .ref mk, .ref ml, .ref ms, .ref mw])), (mo, .inl (cZ, 3, .inl (fun _ => 0)))] sz)) 0 0 (va_A [(m0, .inr (4, [.int 0, .ref md, .int 0, .int (-1), .int 0, .ref mh, .ref mn, .ref mc, .int 0, .int 1, .int 0, .int 0, .ref mo, .ref mb, .ref mk, .ref ml, .ref ms, .ref mw])), (mo, .inl (cZ, 3, .inl (fun _ => 0)))] sz) := by
  refine Met.ofW (cc := cM_remove) (maxL := 3) (ret := none) (by decide) rfl ?_
  intro p e s m args below meth c s₁ B hml hv
  obtain ⟨rfl, hsz, hP, hKK, hD0⟩ := hv
  have hK := hKK.1
  have hx := B.exec
  have hb := B.bytes
  have hr := B.returns
  have hw : ∀ w ∈ wsA, w.before _ s = true := fun w h => atoms_spec (ws := (Cond.code yM_remove cM_remove 3 none :: wsA)) B.pre w (List.mem_cons_of_mem _ h)
  have hown : s.vm.findClass "LoggedStoreModel" = some m.cls := findClass_of_methodNamed B.named
  have hlocks := B.notSynchronized
  subst hsz
  have hD := hD0.self (sz := s.heap.size)
  generalize hAe : va_A [(m0, .inr (4, [.int 0, .ref md, .int 0, .int (-1), .int 0, .ref mh, .ref mn, .ref mc, .int 0, .int 1, .int 0, .int 0, .ref mo, .ref mb, .ref mk, .ref ml, .ref ms, .ref mw])), (mo, .inl (cZ, 3, .inl (fun _ => 0)))] s.heap.size = A at hD ⊢
  have hA : ∀ q : Nat, s.heap.size ≤ q → A q := fun q h => by rw [← hAe]; exact Or.inr h
  have hS : va_S A s.heap s.heap [] := va_S.rf
  have hl := lv_entry ([.ref m0, .int t9, .int k9]) (n := 3) (Nat.le_of_ble_eq_true rfl)
  rw [lg_entry_eq]
  generalize (lg_sl ([.ref m0, .int t9, .int k9]) ++ List.replicate (3 - (lg_sl ([.ref m0, .int t9, .int k9])).length) Slot.unset).toArray = ls at hl ⊢
  have hl : lv_has ls 3 [(0, .ref m0), (1, .int t9), (2, .int k9)] := hl
  refine lv_aload_n hx hb dM_remove_0 rfl (lv_at hl 0 rfl) ?_
  refine lv_aload_n hx hb dM_remove_1 rfl (lv_at hl 0 rfl) ?_
  refine lv_iload_n hx hb dM_remove_2 rfl (lv_at hl 1 rfl) ?_
  refine lv_iload_n hx hb dM_remove_3 rfl (lv_at hl 2 rfl) ?_
  have hPc := hP.sub (ws' := [(m0, .inr (4, [.int 0, .ref md, .int 0, .int (-1), .int 0, .ref mh, .ref mn, .ref mc, .int 0, .int 1, .int 0, .int 0, .ref mo, .ref mb, .ref mk, .ref ml, .ref ms, .ref mw])), (mo, .inl (cZ, 3, .inl (fun _ => 0)))]) [0, 1] rfl
  refine vp_callSi (W.runV (C := "LoggedStoreModel") (b := m0) (As := [.int t9, .int k9]) (rest := [.ref m0]) ⟨hx, hb, hml, hown, hw⟩ (c_lackOfKey l dC dI cI cZ cJ cT m0 md mh mn mc mo mb mk ml ms mw t9 k9) ⟨callB_of 2 hw (gA0 w685) rfl rfl rfl (hw _ w45) (hw _ w682) (by decide +kernel) ⟨Nat.le_of_ble_eq_true rfl, Nat.le_of_ble_eq_true rfl⟩, (hw _ w684), (hw _ w21)⟩ ⟨kb_S, va_recv (ci := 4) (q0 := 0) hK hP rfl rfl, fun U hU hW => ⟨rfl, by rw [hU]; exact hPc, hKK.moved hW⟩⟩ rfl rfl hl.1 rfl (lv_room (Nat.le_of_ble_eq_true rfl)) dM_remove_4 ⟨Nat.le_of_ble_eq_true rfl, Nat.le_of_ble_eq_true rfl⟩) (fun r1 e2 => ?_)
  obtain rfl : r1 = 2 := e2
  refine va_put (D := (dC, dI)) (ci := 4) (v := .int 2) (ty := .int) (C := "LoggedStoreModel") (T := uM) (N := 18) hx hb hw inM tyM tyM_ok nmM hown hK hP hD hS 0 rfl rfl 0 (by decide) (hw _ w612) (fun _ h9 => h9) rfl (by decide +kernel) rfl rfl (Nat.le_of_ble_eq_true rfl) dM_remove_7 (fun H locs hP hD hS => ?_)
  have hP : va_P (dC, dI) vwC [(m0, .inr (4, [.int 2, .ref md, .int 0, .int (-1), .int 0, .ref mh, .ref mn, .ref mc, .int 0, .int 1, .int 0, .int 0, .ref mo, .ref mb, .ref mk, .ref ml, .ref ms, .ref mw])), (mo, .inl (cZ, 3, .inl (fun _ => 0)))] H := hP
  have hD : va_D A [(m0, .inr (4, [.int 2, .ref md, .int 0, .int (-1), .int 0, .ref mh, .ref mn, .ref mc, .int 0, .int 1, .int 0, .int 0, .ref mo, .ref mb, .ref mk, .ref ml, .ref ms, .ref mw])), (mo, .inl (cZ, 3, .inl (fun _ => 0)))] := hD
  refine lv_aload_n hx hb dM_remove_10 rfl (lv_at hl 0 rfl) ?_
  refine va_get (D := (dC, dI)) (ci := 4) (v := .int 2) (C := "LoggedStoreModel") (T := uM) (N := 18) hx hb hw inM hown hK hP 0 rfl rfl 0 (by decide) (hw _ w612) (fun _ h9 => h9) rfl dM_remove_11 ?_
  refine lv_if_ne (tgt := 31) hx hb dM_remove_14 (by decide) (fun _ => ?_) (fun h9 => absurd h9 (by decide))
  refine lv_aload_n hx hb dM_remove_31 rfl (lv_at hl 0 rfl) ?_
  refine va_get (D := (dC, dI)) (ci := 4) (v := .int 2) (C := "LoggedStoreModel") (T := uM) (N := 18) hx hb hw inM hown hK hP 0 rfl rfl 0 (by decide) (hw _ w612) (fun _ h9 => h9) rfl dM_remove_32 ?_
  refine lv_if_ne (tgt := 50) hx hb dM_remove_35 (by decide) (fun _ => ?_) (fun h9 => absurd h9 (by decide))
  have hP9 := hP.sub (ws' := [(m0, .inr (4, [.int 2, .ref md, .int 0, .int (-1), .int 0, .ref mh, .ref mn, .ref mc, .int 0, .int 1, .int 0, .int 0, .ref mo, .ref mb, .ref mk, .ref ml, .ref ms, .ref mw]))]) [0] rfl
  have hD9 := hD.sub (ws' := [(m0, .inr (4, [.int 2, .ref md, .int 0, .int (-1), .int 0, .ref mh, .ref mn, .ref mc, .int 0, .int 1, .int 0, .int 0, .ref mo, .ref mb, .ref mk, .ref ml, .ref ms, .ref mw]))]) [0] (by decide) rfl
  refine W.widen (k := 0) (n := 0) (by decide) (by decide) ?_
  exact W.vret hx hb hr (fun t ht hW => ⟨⟨fun _ => 0, rfl, trivial, by rw [ht]; exact hP9, hD9⟩, hS.F ht⟩) hS.2.2 dM_remove_50

set_option maxHeartbeats 4000000 in
set_option maxRecDepth 100000 in
theorem c_M_next (l : Launch) (dC : Nat → ClassId) (dI : Nat → Nat → Nat) (cI cZ cJ cT : ClassId) (m0 md mh mn mc mo mb mk ml ms mw : Nat) (t9 k9 : Int32) (sz : Nat) : Met l yM_next (Cond.code yM_next cM_next 4 (some .int) :: wsA) ({ frames := 3, cells := 0, slots := 0, locals := 66 }) (va_Pc [.ref m0, .int t9, .int k9] (fun U => U.heap.size = sz ∧ va_P (dC, dI) vwC [(m0, .inr (4, [.int 0, .ref md, .int 0, .int (-1), .int 0, .ref mh, .ref mn, .ref mc, .int 0, .int 1, .int 0, .int 0, .ref mo, .ref mb, .ref mk, .ref ml, .ref ms, .ref mw])), (mo, .inl (cZ, 3, .inl (fun _ => 0)))] U.heap ∧ KK dC dI cI cZ cJ cT U ∧ va_D (fun _ => True) [(m0, .inr (4, [.int 0, .ref md, .int 0, .int (-1), .int 0, .ref mh, .ref mn, .ref mc, .int 0, .int 1, .int 0, .int 0, .ref mo, .ref mb, .ref mk, .ref ml, .ref ms, .ref mw])), (mo, .inl (cZ, 3, .inl (fun _ => 0)))])) (va_Qi (S := Nat → Nat) (fun r _ => r = 0) (fun u t => va_P (dC, dI) vwC [(m0, .inr (4, [.int 2, .ref md, .int 0, .int (-1), .int 0, .ref mh, .ref mn, .ref mc, .int 0, .int 1, .int 0, .int 0, .ref mo, .ref mb, .ref mk, .ref ml, .ref ms, .ref mw]))] t.heap ∧ va_D (va_A [(m0, .inr (4, [.int 0, .ref md, .int 0, .int (-1), .int 0, .ref mh, .ref mn, .ref mc, .int 0, .int 1, .int 0, .int 0, .ref mo, .ref mb, .ref mk, .ref ml, .ref ms, .ref mw])), (mo, .inl (cZ, 3, .inl (fun _ => 0)))] sz) [(m0, .inr (4, [.int 2, .ref md, .int 0, .int (-1), .int 0, .ref mh, .ref mn, .ref mc, .int 0, .int 1, .int 0, .int 0, .ref mo, .ref mb, .ref mk, .ref ml, .ref ms, .ref mw]))]) (va_A [(m0, .inr (4, [.int 0, .ref md, .int 0, .int (-1), .int 0, .ref mh, .ref mn, .ref mc, .int 0, .int 1, .int 0, .int 0, .ref mo, .ref mb, .ref mk, .ref ml, .ref ms, .ref mw])), (mo, .inl (cZ, 3, .inl (fun _ => 0)))] sz)) 0 0 (va_A [(m0, .inr (4, [.int 0, .ref md, .int 0, .int (-1), .int 0, .ref mh, .ref mn, .ref mc, .int 0, .int 1, .int 0, .int 0, .ref mo, .ref mb, .ref mk, .ref ml, .ref ms, .ref mw])), (mo, .inl (cZ, 3, .inl (fun _ => 0)))] sz) := by
  refine Met.ofW (cc := cM_next) (maxL := 4) (ret := (some .int)) (by decide) rfl ?_
  intro p e s m args below meth c s₁ B hml hv
  obtain ⟨rfl, hsz, hP, hKK, hD0⟩ := hv
  have hK := hKK.1
  have hx := B.exec
  have hb := B.bytes
  have hr := B.returns
  have hw : ∀ w ∈ wsA, w.before _ s = true := fun w h => atoms_spec (ws := (Cond.code yM_next cM_next 4 (some .int) :: wsA)) B.pre w (List.mem_cons_of_mem _ h)
  have hown : s.vm.findClass "LoggedStoreModel" = some m.cls := findClass_of_methodNamed B.named
  have hlocks := B.notSynchronized
  subst hsz
  have hD := hD0.self (sz := s.heap.size)
  generalize hAe : va_A [(m0, .inr (4, [.int 0, .ref md, .int 0, .int (-1), .int 0, .ref mh, .ref mn, .ref mc, .int 0, .int 1, .int 0, .int 0, .ref mo, .ref mb, .ref mk, .ref ml, .ref ms, .ref mw])), (mo, .inl (cZ, 3, .inl (fun _ => 0)))] s.heap.size = A at hD ⊢
  have hA : ∀ q : Nat, s.heap.size ≤ q → A q := fun q h => by rw [← hAe]; exact Or.inr h
  have hS : va_S A s.heap s.heap [] := va_S.rf
  have hl := lv_entry ([.ref m0, .int t9, .int k9]) (n := 4) (Nat.le_of_ble_eq_true rfl)
  rw [lg_entry_eq]
  generalize (lg_sl ([.ref m0, .int t9, .int k9]) ++ List.replicate (4 - (lg_sl ([.ref m0, .int t9, .int k9])).length) Slot.unset).toArray = ls at hl ⊢
  have hl : lv_has ls 4 [(0, .ref m0), (1, .int t9), (2, .int k9)] := hl
  refine lv_aload_n hx hb dM_next_0 rfl (lv_at hl 0 rfl) ?_
  refine lv_aload_n hx hb dM_next_1 rfl (lv_at hl 0 rfl) ?_
  refine lv_iload_n hx hb dM_next_2 rfl (lv_at hl 1 rfl) ?_
  refine lv_iload_n hx hb dM_next_3 rfl (lv_at hl 2 rfl) ?_
  have hPc := hP.sub (ws' := [(m0, .inr (4, [.int 0, .ref md, .int 0, .int (-1), .int 0, .ref mh, .ref mn, .ref mc, .int 0, .int 1, .int 0, .int 0, .ref mo, .ref mb, .ref mk, .ref ml, .ref ms, .ref mw])), (mo, .inl (cZ, 3, .inl (fun _ => 0)))]) [0, 1] rfl
  refine vp_callSi (W.runV (C := "LoggedStoreModel") (b := m0) (As := [.int t9, .int k9]) (rest := [.ref m0]) ⟨hx, hb, hml, hown, hw⟩ (c_lackOfKey l dC dI cI cZ cJ cT m0 md mh mn mc mo mb mk ml ms mw t9 k9) ⟨callB_of 2 hw (gA0 w685) rfl rfl rfl (hw _ w45) (hw _ w682) (by decide +kernel) ⟨Nat.le_of_ble_eq_true rfl, Nat.le_of_ble_eq_true rfl⟩, (hw _ w684), (hw _ w21)⟩ ⟨kb_S, va_recv (ci := 4) (q0 := 0) hK hP rfl rfl, fun U hU hW => ⟨rfl, by rw [hU]; exact hPc, hKK.moved hW⟩⟩ rfl rfl hl.1 rfl (lv_room (Nat.le_of_ble_eq_true rfl)) dM_next_4 ⟨Nat.le_of_ble_eq_true rfl, Nat.le_of_ble_eq_true rfl⟩) (fun r1 e2 => ?_)
  obtain rfl : r1 = 2 := e2
  refine va_put (D := (dC, dI)) (ci := 4) (v := .int 2) (ty := .int) (C := "LoggedStoreModel") (T := uM) (N := 18) hx hb hw inM tyM tyM_ok nmM hown hK hP hD hS 0 rfl rfl 0 (by decide) (hw _ w612) (fun _ h9 => h9) rfl (by decide +kernel) rfl rfl (Nat.le_of_ble_eq_true rfl) dM_next_7 (fun H locs hP hD hS => ?_)
  have hP : va_P (dC, dI) vwC [(m0, .inr (4, [.int 2, .ref md, .int 0, .int (-1), .int 0, .ref mh, .ref mn, .ref mc, .int 0, .int 1, .int 0, .int 0, .ref mo, .ref mb, .ref mk, .ref ml, .ref ms, .ref mw])), (mo, .inl (cZ, 3, .inl (fun _ => 0)))] H := hP
  have hD : va_D A [(m0, .inr (4, [.int 2, .ref md, .int 0, .int (-1), .int 0, .ref mh, .ref mn, .ref mc, .int 0, .int 1, .int 0, .int 0, .ref mo, .ref mb, .ref mk, .ref ml, .ref ms, .ref mw])), (mo, .inl (cZ, 3, .inl (fun _ => 0)))] := hD
  refine lv_aload_n hx hb dM_next_10 rfl (lv_at hl 0 rfl) ?_
  refine va_get (D := (dC, dI)) (ci := 4) (v := .int 2) (C := "LoggedStoreModel") (T := uM) (N := 18) hx hb hw inM hown hK hP 0 rfl rfl 0 (by decide) (hw _ w612) (fun _ h9 => h9) rfl dM_next_11 ?_
  refine lv_if_le (tgt := 19) hx hb dM_next_14 (by decide) (fun h9 => absurd h9 (by decide)) (fun _ => ?_)
  refine lv_iconst (v := 0) hx hb dM_next_17 (by decide) ?_
  have hP9 := hP.sub (ws' := [(m0, .inr (4, [.int 2, .ref md, .int 0, .int (-1), .int 0, .ref mh, .ref mn, .ref mc, .int 0, .int 1, .int 0, .int 0, .ref mo, .ref mb, .ref mk, .ref ml, .ref ms, .ref mw]))]) [0] rfl
  have hD9 := hD.sub (ws' := [(m0, .inr (4, [.int 2, .ref md, .int 0, .int (-1), .int 0, .ref mh, .ref mn, .ref mc, .int 0, .int 1, .int 0, .int 0, .ref mo, .ref mb, .ref mk, .ref ml, .ref ms, .ref mw]))]) [0] (by decide) rfl
  refine W.widen (k := 0) (n := 0) (by decide) (by decide) ?_
  exact W.iret (v := 0) hx hb hr (fun t ht hW => ⟨⟨0, fun _ => 0, rfl, rfl, by rw [ht]; exact hP9, hD9⟩, hS.F ht⟩) hS.2.2 dM_next_18

set_option maxHeartbeats 4000000 in
set_option maxRecDepth 100000 in
theorem c_M_drop (l : Launch) (dC : Nat → ClassId) (dI : Nat → Nat → Nat) (cI cZ cJ cT : ClassId) (m0 md mh mn mc mo mb mk ml ms mw : Nat) (t9 : Int32) (sz : Nat) : Met l yM_drop (Cond.code yM_drop cM_drop 2 (some .int) :: wsA) ({ frames := 2, cells := 0, slots := 0, locals := 43 }) (va_Pc [.ref m0, .int t9] (fun U => U.heap.size = sz ∧ va_P (dC, dI) vwC [(m0, .inr (4, [.int 0, .ref md, .int 0, .int (-1), .int 0, .ref mh, .ref mn, .ref mc, .int 0, .int 1, .int 0, .int 0, .ref mo, .ref mb, .ref mk, .ref ml, .ref ms, .ref mw])), (mo, .inl (cZ, 3, .inl (fun _ => 0)))] U.heap ∧ KK dC dI cI cZ cJ cT U ∧ va_D (fun _ => True) [(m0, .inr (4, [.int 0, .ref md, .int 0, .int (-1), .int 0, .ref mh, .ref mn, .ref mc, .int 0, .int 1, .int 0, .int 0, .ref mo, .ref mb, .ref mk, .ref ml, .ref ms, .ref mw])), (mo, .inl (cZ, 3, .inl (fun _ => 0)))])) (va_Qi (S := Nat → Nat) (fun r _ => r = 0) (fun u t => va_P (dC, dI) vwC [(m0, .inr (4, [.int 2, .ref md, .int 0, .int (-1), .int 0, .ref mh, .ref mn, .ref mc, .int 0, .int 1, .int 0, .int 0, .ref mo, .ref mb, .ref mk, .ref ml, .ref ms, .ref mw]))] t.heap ∧ va_D (va_A [(m0, .inr (4, [.int 0, .ref md, .int 0, .int (-1), .int 0, .ref mh, .ref mn, .ref mc, .int 0, .int 1, .int 0, .int 0, .ref mo, .ref mb, .ref mk, .ref ml, .ref ms, .ref mw])), (mo, .inl (cZ, 3, .inl (fun _ => 0)))] sz) [(m0, .inr (4, [.int 2, .ref md, .int 0, .int (-1), .int 0, .ref mh, .ref mn, .ref mc, .int 0, .int 1, .int 0, .int 0, .ref mo, .ref mb, .ref mk, .ref ml, .ref ms, .ref mw]))]) (va_A [(m0, .inr (4, [.int 0, .ref md, .int 0, .int (-1), .int 0, .ref mh, .ref mn, .ref mc, .int 0, .int 1, .int 0, .int 0, .ref mo, .ref mb, .ref mk, .ref ml, .ref ms, .ref mw])), (mo, .inl (cZ, 3, .inl (fun _ => 0)))] sz)) 0 0 (va_A [(m0, .inr (4, [.int 0, .ref md, .int 0, .int (-1), .int 0, .ref mh, .ref mn, .ref mc, .int 0, .int 1, .int 0, .int 0, .ref mo, .ref mb, .ref mk, .ref ml, .ref ms, .ref mw])), (mo, .inl (cZ, 3, .inl (fun _ => 0)))] sz) := by
  refine Met.ofW (cc := cM_drop) (maxL := 2) (ret := (some .int)) (by decide) rfl ?_
  intro p e s m args below meth c s₁ B hml hv
  obtain ⟨rfl, hsz, hP, hKK, hD0⟩ := hv
  have hK := hKK.1
  have hx := B.exec
  have hb := B.bytes
  have hr := B.returns
  have hw : ∀ w ∈ wsA, w.before _ s = true := fun w h => atoms_spec (ws := (Cond.code yM_drop cM_drop 2 (some .int) :: wsA)) B.pre w (List.mem_cons_of_mem _ h)
  have hown : s.vm.findClass "LoggedStoreModel" = some m.cls := findClass_of_methodNamed B.named
  have hlocks := B.notSynchronized
  subst hsz
  have hD := hD0.self (sz := s.heap.size)
  generalize hAe : va_A [(m0, .inr (4, [.int 0, .ref md, .int 0, .int (-1), .int 0, .ref mh, .ref mn, .ref mc, .int 0, .int 1, .int 0, .int 0, .ref mo, .ref mb, .ref mk, .ref ml, .ref ms, .ref mw])), (mo, .inl (cZ, 3, .inl (fun _ => 0)))] s.heap.size = A at hD ⊢
  have hA : ∀ q : Nat, s.heap.size ≤ q → A q := fun q h => by rw [← hAe]; exact Or.inr h
  have hS : va_S A s.heap s.heap [] := va_S.rf
  have hl := lv_entry ([.ref m0, .int t9]) (n := 2) (Nat.le_of_ble_eq_true rfl)
  rw [lg_entry_eq]
  generalize (lg_sl ([.ref m0, .int t9]) ++ List.replicate (2 - (lg_sl ([.ref m0, .int t9])).length) Slot.unset).toArray = ls at hl ⊢
  have hl : lv_has ls 2 [(0, .ref m0), (1, .int t9)] := hl
  refine lv_aload_n hx hb dM_drop_0 rfl (lv_at hl 0 rfl) ?_
  refine lv_aload_n hx hb dM_drop_1 rfl (lv_at hl 0 rfl) ?_
  refine lv_iload_n hx hb dM_drop_2 rfl (lv_at hl 1 rfl) ?_
  have hPc := hP.sub (ws' := [(m0, .inr (4, [.int 0, .ref md, .int 0, .int (-1), .int 0, .ref mh, .ref mn, .ref mc, .int 0, .int 1, .int 0, .int 0, .ref mo, .ref mb, .ref mk, .ref ml, .ref ms, .ref mw])), (mo, .inl (cZ, 3, .inl (fun _ => 0)))]) [0, 1] rfl
  refine vp_callSi (W.runV (C := "LoggedStoreModel") (b := m0) (As := [.int t9]) (rest := [.ref m0]) ⟨hx, hb, hml, hown, hw⟩ (c_lackOf l dC dI cI cZ cJ cT m0 md mh mn mc mo mb mk ml ms mw t9) ⟨callB_of 1 hw (gA0 w689) rfl rfl rfl (hw _ w45) (hw _ w686) (by decide +kernel) ⟨Nat.le_of_ble_eq_true rfl, Nat.le_of_ble_eq_true rfl⟩, (hw _ w688), (hw _ w22)⟩ ⟨kb_S, va_recv (ci := 4) (q0 := 0) hK hP rfl rfl, fun U hU hW => ⟨rfl, by rw [hU]; exact hPc, hKK.moved hW⟩⟩ rfl rfl hl.1 rfl (lv_room (Nat.le_of_ble_eq_true rfl)) dM_drop_3 ⟨Nat.le_of_ble_eq_true rfl, Nat.le_of_ble_eq_true rfl⟩) (fun r1 e2 => ?_)
  obtain rfl : r1 = 2 := e2
  refine va_put (D := (dC, dI)) (ci := 4) (v := .int 2) (ty := .int) (C := "LoggedStoreModel") (T := uM) (N := 18) hx hb hw inM tyM tyM_ok nmM hown hK hP hD hS 0 rfl rfl 0 (by decide) (hw _ w612) (fun _ h9 => h9) rfl (by decide +kernel) rfl rfl (Nat.le_of_ble_eq_true rfl) dM_drop_6 (fun H locs hP hD hS => ?_)
  have hP : va_P (dC, dI) vwC [(m0, .inr (4, [.int 2, .ref md, .int 0, .int (-1), .int 0, .ref mh, .ref mn, .ref mc, .int 0, .int 1, .int 0, .int 0, .ref mo, .ref mb, .ref mk, .ref ml, .ref ms, .ref mw])), (mo, .inl (cZ, 3, .inl (fun _ => 0)))] H := hP
  have hD : va_D A [(m0, .inr (4, [.int 2, .ref md, .int 0, .int (-1), .int 0, .ref mh, .ref mn, .ref mc, .int 0, .int 1, .int 0, .int 0, .ref mo, .ref mb, .ref mk, .ref ml, .ref ms, .ref mw])), (mo, .inl (cZ, 3, .inl (fun _ => 0)))] := hD
  refine lv_aload_n hx hb dM_drop_9 rfl (lv_at hl 0 rfl) ?_
  refine va_get (D := (dC, dI)) (ci := 4) (v := .int 2) (C := "LoggedStoreModel") (T := uM) (N := 18) hx hb hw inM hown hK hP 0 rfl rfl 0 (by decide) (hw _ w612) (fun _ h9 => h9) rfl dM_drop_10 ?_
  refine lv_if_le (tgt := 18) hx hb dM_drop_13 (by decide) (fun h9 => absurd h9 (by decide)) (fun _ => ?_)
  refine lv_iconst (v := 0) hx hb dM_drop_16 (by decide) ?_
  have hP9 := hP.sub (ws' := [(m0, .inr (4, [.int 2, .ref md, .int 0, .int (-1), .int 0, .ref mh, .ref mn, .ref mc, .int 0, .int 1, .int 0, .int 0, .ref mo, .ref mb, .ref mk, .ref ml, .ref ms, .ref mw]))]) [0] rfl
  have hD9 := hD.sub (ws' := [(m0, .inr (4, [.int 2, .ref md, .int 0, .int (-1), .int 0, .ref mh, .ref mn, .ref mc, .int 0, .int 1, .int 0, .int 0, .ref mo, .ref mb, .ref mk, .ref ml, .ref ms, .ref mw]))]) [0] (by decide) rfl
  refine W.widen (k := 0) (n := 0) (by decide) (by decide) ?_
  exact W.iret (v := 0) hx hb hr (fun t ht hW => ⟨⟨0, fun _ => 0, rfl, rfl, by rw [ht]; exact hP9, hD9⟩, hS.F ht⟩) hS.2.2 dM_drop_17

set_option maxHeartbeats 4000000 in
set_option maxRecDepth 100000 in
theorem c_M_commit (l : Launch) (dC : Nat → ClassId) (dI : Nat → Nat → Nat) (cI cZ cJ cT : ClassId) (m0 md mh mn mc mo mb mk ml ms mw : Nat) (t9 : Int32) (sz : Nat) : Met l yM_commit (Cond.code yM_commit cM_commit 3 (some .int) :: wsA) ({ frames := 2, cells := 0, slots := 0, locals := 43 }) (va_Pc [.ref m0, .int t9] (fun U => U.heap.size = sz ∧ va_P (dC, dI) vwC [(m0, .inr (4, [.int 0, .ref md, .int 0, .int (-1), .int 0, .ref mh, .ref mn, .ref mc, .int 0, .int 1, .int 0, .int 0, .ref mo, .ref mb, .ref mk, .ref ml, .ref ms, .ref mw])), (mo, .inl (cZ, 3, .inl (fun _ => 0)))] U.heap ∧ KK dC dI cI cZ cJ cT U ∧ va_D (fun _ => True) [(m0, .inr (4, [.int 0, .ref md, .int 0, .int (-1), .int 0, .ref mh, .ref mn, .ref mc, .int 0, .int 1, .int 0, .int 0, .ref mo, .ref mb, .ref mk, .ref ml, .ref ms, .ref mw])), (mo, .inl (cZ, 3, .inl (fun _ => 0)))])) (va_Qi (S := Nat → Nat) (fun r _ => r = 0) (fun u t => va_P (dC, dI) vwC [(m0, .inr (4, [.int 2, .ref md, .int 0, .int (-1), .int 0, .ref mh, .ref mn, .ref mc, .int 0, .int 1, .int 0, .int 0, .ref mo, .ref mb, .ref mk, .ref ml, .ref ms, .ref mw]))] t.heap ∧ va_D (va_A [(m0, .inr (4, [.int 0, .ref md, .int 0, .int (-1), .int 0, .ref mh, .ref mn, .ref mc, .int 0, .int 1, .int 0, .int 0, .ref mo, .ref mb, .ref mk, .ref ml, .ref ms, .ref mw])), (mo, .inl (cZ, 3, .inl (fun _ => 0)))] sz) [(m0, .inr (4, [.int 2, .ref md, .int 0, .int (-1), .int 0, .ref mh, .ref mn, .ref mc, .int 0, .int 1, .int 0, .int 0, .ref mo, .ref mb, .ref mk, .ref ml, .ref ms, .ref mw]))]) (va_A [(m0, .inr (4, [.int 0, .ref md, .int 0, .int (-1), .int 0, .ref mh, .ref mn, .ref mc, .int 0, .int 1, .int 0, .int 0, .ref mo, .ref mb, .ref mk, .ref ml, .ref ms, .ref mw])), (mo, .inl (cZ, 3, .inl (fun _ => 0)))] sz)) 0 0 (va_A [(m0, .inr (4, [.int 0, .ref md, .int 0, .int (-1), .int 0, .ref mh, .ref mn, .ref mc, .int 0, .int 1, .int 0, .int 0, .ref mo, .ref mb, .ref mk, .ref ml, .ref ms, .ref mw])), (mo, .inl (cZ, 3, .inl (fun _ => 0)))] sz) := by
  refine Met.ofW (cc := cM_commit) (maxL := 3) (ret := (some .int)) (by decide) rfl ?_
  intro p e s m args below meth c s₁ B hml hv
  obtain ⟨rfl, hsz, hP, hKK, hD0⟩ := hv
  have hK := hKK.1
  have hx := B.exec
  have hb := B.bytes
  have hr := B.returns
  have hw : ∀ w ∈ wsA, w.before _ s = true := fun w h => atoms_spec (ws := (Cond.code yM_commit cM_commit 3 (some .int) :: wsA)) B.pre w (List.mem_cons_of_mem _ h)
  have hown : s.vm.findClass "LoggedStoreModel" = some m.cls := findClass_of_methodNamed B.named
  have hlocks := B.notSynchronized
  subst hsz
  have hD := hD0.self (sz := s.heap.size)
  generalize hAe : va_A [(m0, .inr (4, [.int 0, .ref md, .int 0, .int (-1), .int 0, .ref mh, .ref mn, .ref mc, .int 0, .int 1, .int 0, .int 0, .ref mo, .ref mb, .ref mk, .ref ml, .ref ms, .ref mw])), (mo, .inl (cZ, 3, .inl (fun _ => 0)))] s.heap.size = A at hD ⊢
  have hA : ∀ q : Nat, s.heap.size ≤ q → A q := fun q h => by rw [← hAe]; exact Or.inr h
  have hS : va_S A s.heap s.heap [] := va_S.rf
  have hl := lv_entry ([.ref m0, .int t9]) (n := 3) (Nat.le_of_ble_eq_true rfl)
  rw [lg_entry_eq]
  generalize (lg_sl ([.ref m0, .int t9]) ++ List.replicate (3 - (lg_sl ([.ref m0, .int t9])).length) Slot.unset).toArray = ls at hl ⊢
  have hl : lv_has ls 3 [(0, .ref m0), (1, .int t9)] := hl
  refine lv_aload_n hx hb dM_commit_0 rfl (lv_at hl 0 rfl) ?_
  refine lv_aload_n hx hb dM_commit_1 rfl (lv_at hl 0 rfl) ?_
  refine lv_iload_n hx hb dM_commit_2 rfl (lv_at hl 1 rfl) ?_
  have hPc := hP.sub (ws' := [(m0, .inr (4, [.int 0, .ref md, .int 0, .int (-1), .int 0, .ref mh, .ref mn, .ref mc, .int 0, .int 1, .int 0, .int 0, .ref mo, .ref mb, .ref mk, .ref ml, .ref ms, .ref mw])), (mo, .inl (cZ, 3, .inl (fun _ => 0)))]) [0, 1] rfl
  refine vp_callSi (W.runV (C := "LoggedStoreModel") (b := m0) (As := [.int t9]) (rest := [.ref m0]) ⟨hx, hb, hml, hown, hw⟩ (c_lackOf l dC dI cI cZ cJ cT m0 md mh mn mc mo mb mk ml ms mw t9) ⟨callB_of 1 hw (gA0 w689) rfl rfl rfl (hw _ w45) (hw _ w686) (by decide +kernel) ⟨Nat.le_of_ble_eq_true rfl, Nat.le_of_ble_eq_true rfl⟩, (hw _ w688), (hw _ w22)⟩ ⟨kb_S, va_recv (ci := 4) (q0 := 0) hK hP rfl rfl, fun U hU hW => ⟨rfl, by rw [hU]; exact hPc, hKK.moved hW⟩⟩ rfl rfl hl.1 rfl (lv_room (Nat.le_of_ble_eq_true rfl)) dM_commit_3 ⟨Nat.le_of_ble_eq_true rfl, Nat.le_of_ble_eq_true rfl⟩) (fun r1 e2 => ?_)
  obtain rfl : r1 = 2 := e2
  refine va_put (D := (dC, dI)) (ci := 4) (v := .int 2) (ty := .int) (C := "LoggedStoreModel") (T := uM) (N := 18) hx hb hw inM tyM tyM_ok nmM hown hK hP hD hS 0 rfl rfl 0 (by decide) (hw _ w612) (fun _ h9 => h9) rfl (by decide +kernel) rfl rfl (Nat.le_of_ble_eq_true rfl) dM_commit_6 (fun H locs hP hD hS => ?_)
  have hP : va_P (dC, dI) vwC [(m0, .inr (4, [.int 2, .ref md, .int 0, .int (-1), .int 0, .ref mh, .ref mn, .ref mc, .int 0, .int 1, .int 0, .int 0, .ref mo, .ref mb, .ref mk, .ref ml, .ref ms, .ref mw])), (mo, .inl (cZ, 3, .inl (fun _ => 0)))] H := hP
  have hD : va_D A [(m0, .inr (4, [.int 2, .ref md, .int 0, .int (-1), .int 0, .ref mh, .ref mn, .ref mc, .int 0, .int 1, .int 0, .int 0, .ref mo, .ref mb, .ref mk, .ref ml, .ref ms, .ref mw])), (mo, .inl (cZ, 3, .inl (fun _ => 0)))] := hD
  refine lv_aload_n hx hb dM_commit_9 rfl (lv_at hl 0 rfl) ?_
  refine va_get (D := (dC, dI)) (ci := 4) (v := .int 2) (C := "LoggedStoreModel") (T := uM) (N := 18) hx hb hw inM hown hK hP 0 rfl rfl 0 (by decide) (hw _ w612) (fun _ h9 => h9) rfl dM_commit_10 ?_
  refine lv_if_le (tgt := 18) hx hb dM_commit_13 (by decide) (fun h9 => absurd h9 (by decide)) (fun _ => ?_)
  refine lv_iconst (v := 0) hx hb dM_commit_16 (by decide) ?_
  have hP9 := hP.sub (ws' := [(m0, .inr (4, [.int 2, .ref md, .int 0, .int (-1), .int 0, .ref mh, .ref mn, .ref mc, .int 0, .int 1, .int 0, .int 0, .ref mo, .ref mb, .ref mk, .ref ml, .ref ms, .ref mw]))]) [0] rfl
  have hD9 := hD.sub (ws' := [(m0, .inr (4, [.int 2, .ref md, .int 0, .int (-1), .int 0, .ref mh, .ref mn, .ref mc, .int 0, .int 1, .int 0, .int 0, .ref mo, .ref mb, .ref mk, .ref ml, .ref ms, .ref mw]))]) [0] (by decide) rfl
  refine W.widen (k := 0) (n := 0) (by decide) (by decide) ?_
  exact W.iret (v := 0) hx hb hr (fun t ht hW => ⟨⟨0, fun _ => 0, rfl, rfl, by rw [ht]; exact hP9, hD9⟩, hS.F ht⟩) hS.2.2 dM_commit_17
end
section
set_option maxRecDepth 100000 in
theorem w32 : (Cond.selects "LoggedStoreModel" yM_countNow yM_countNow) ∈ wsA := List.mem_filter.mpr ⟨List.mem_of_getElem? (i := 32) rfl, rfl⟩
set_option maxRecDepth 100000 in
theorem w616 : (Cond.fieldLink "LoggedStoreModel" 58 "LoggedStoreModel" "words" "I") ∈ wsA := List.mem_filter.mpr ⟨List.mem_of_getElem? (i := 616) rfl, rfl⟩
set_option maxRecDepth 100000 in
theorem w620 : (Cond.fieldLink "LoggedStoreModel" 81 "LoggedStoreModel" "version" "I") ∈ wsA := List.mem_filter.mpr ⟨List.mem_of_getElem? (i := 620) rfl, rfl⟩
set_option maxRecDepth 100000 in
theorem w623 : (Cond.fieldLink "LoggedStoreModel" 95 "LoggedStoreModel" "logged" "I") ∈ wsA := List.mem_filter.mpr ⟨List.mem_of_getElem? (i := 623) rfl, rfl⟩
set_option maxRecDepth 100000 in
theorem w674 : (Cond.code yM_begin cM_begin 3 (some .int)) ∈ wsA := List.mem_filter.mpr ⟨List.mem_of_getElem? (i := 674) rfl, rfl⟩
set_option maxRecDepth 100000 in
theorem w750 : (Cond.methodLink "LoggedStoreModel" 117 yM_countNow) ∈ wsA := List.mem_filter.mpr ⟨List.mem_of_getElem? (i := 750) rfl, rfl⟩
set_option maxRecDepth 100000 in
theorem w752 : (Cond.instanceMethod yM_countNow) ∈ wsA := List.mem_filter.mpr ⟨List.mem_of_getElem? (i := 752) rfl, rfl⟩
set_option maxRecDepth 100000 in
theorem w753 : (Cond.code yM_countNow cM_countNow 3 (some .int)) ∈ wsA := List.mem_filter.mpr ⟨List.mem_of_getElem? (i := 753) rfl, rfl⟩
set_option maxRecDepth 100000 in
theorem w785 : (Cond.code yM_arm cM_arm 3 none) ∈ wsA := List.mem_filter.mpr ⟨List.mem_of_getElem? (i := 785) rfl, rfl⟩
set_option maxRecDepth 100000 in
theorem w789 : (Cond.code yM_isDown cM_isDown 1 (some .boolean)) ∈ wsA := List.mem_filter.mpr ⟨List.mem_of_getElem? (i := 789) rfl, rfl⟩
set_option maxRecDepth 100000 in
theorem w793 : (Cond.code yM_number cM_number 2 (some .int)) ∈ wsA := List.mem_filter.mpr ⟨List.mem_of_getElem? (i := 793) rfl, rfl⟩
set_option maxRecDepth 100000 in
theorem w797 : (Cond.code yM_count cM_count 1 (some .int)) ∈ wsA := List.mem_filter.mpr ⟨List.mem_of_getElem? (i := 797) rfl, rfl⟩
set_option maxRecDepth 100000 in
theorem w801 : (Cond.code yM_version cM_version 1 (some .int)) ∈ wsA := List.mem_filter.mpr ⟨List.mem_of_getElem? (i := 801) rfl, rfl⟩
set_option maxRecDepth 100000 in
theorem w805 : (Cond.code yM_left cM_left 1 (some .int)) ∈ wsA := List.mem_filter.mpr ⟨List.mem_of_getElem? (i := 805) rfl, rfl⟩
theorem dM_begin_0 : decode cM_begin 0 = .ok (.aload_n 0, 1) := by decide +kernel
theorem dM_begin_1 : decode cM_begin 1 = .ok (.aload_n 0, 1) := by decide +kernel
theorem dM_begin_2 : decode cM_begin 2 = .ok (.getfield 61, 3) := by decide +kernel
theorem dM_begin_5 : decode cM_begin 5 = .ok (.ifCond .eq 7, 3) := by decide +kernel
theorem dM_begin_12 : decode cM_begin 12 = .ok (.iload_n 1, 1) := by decide +kernel
theorem dM_begin_13 : decode cM_begin 13 = .ok (.iconst 0, 1) := by decide +kernel
theorem dM_begin_14 : decode cM_begin 14 = .ok (.iconst 2, 1) := by decide +kernel
theorem dM_begin_15 : decode cM_begin 15 = .ok (.invokestatic 73, 3) := by decide +kernel
theorem dM_begin_18 : decode cM_begin 18 = .ok (.ifCond .ne 7, 3) := by decide +kernel
theorem dM_begin_21 : decode cM_begin 21 = .ok (.iconst 2, 1) := by decide +kernel
theorem dM_begin_22 : decode cM_begin 22 = .ok (.goto 17, 3) := by decide +kernel
theorem dM_begin_25 : decode cM_begin 25 = .ok (.aload_n 0, 1) := by decide +kernel
theorem dM_begin_26 : decode cM_begin 26 = .ok (.getfield 30, 3) := by decide +kernel
theorem dM_begin_29 : decode cM_begin 29 = .ok (.iload_n 1, 1) := by decide +kernel
theorem dM_begin_30 : decode cM_begin 30 = .ok (.baload, 1) := by decide +kernel
theorem dM_begin_31 : decode cM_begin 31 = .ok (.ifCond .eq 7, 3) := by decide +kernel
theorem dM_begin_38 : decode cM_begin 38 = .ok (.iconst 0, 1) := by decide +kernel
theorem dM_begin_39 : decode cM_begin 39 = .ok (.putfield 52, 3) := by decide +kernel
theorem dM_begin_42 : decode cM_begin 42 = .ok (.aload_n 0, 1) := by decide +kernel
theorem dM_begin_43 : decode cM_begin 43 = .ok (.getfield 52, 3) := by decide +kernel
theorem dM_begin_46 : decode cM_begin 46 = .ok (.ifCond .le 5, 3) := by decide +kernel
theorem dM_begin_49 : decode cM_begin 49 = .ok (.iconst 0, 1) := by decide +kernel
theorem dM_begin_50 : decode cM_begin 50 = .ok (.ireturn, 1) := by decide +kernel
theorem dM_begin_51 : decode cM_begin 51 = .ok (.aload_n 0, 1) := by decide +kernel
theorem dM_begin_52 : decode cM_begin 52 = .ok (.getfield 30, 3) := by decide +kernel
theorem dM_begin_55 : decode cM_begin 55 = .ok (.iload_n 1, 1) := by decide +kernel
theorem dM_begin_56 : decode cM_begin 56 = .ok (.iconst 1, 1) := by decide +kernel
theorem dM_begin_57 : decode cM_begin 57 = .ok (.bastore, 1) := by decide +kernel
theorem dM_begin_58 : decode cM_begin 58 = .ok (.aload_n 0, 1) := by decide +kernel
theorem dM_begin_59 : decode cM_begin 59 = .ok (.getfield 33, 3) := by decide +kernel
theorem dM_begin_62 : decode cM_begin 62 = .ok (.iload_n 1, 1) := by decide +kernel
theorem dM_begin_63 : decode cM_begin 63 = .ok (.aload_n 0, 1) := by decide +kernel
theorem dM_begin_64 : decode cM_begin 64 = .ok (.getfield 81, 3) := by decide +kernel
theorem dM_begin_67 : decode cM_begin 67 = .ok (.iastore, 1) := by decide +kernel
theorem dM_begin_68 : decode cM_begin 68 = .ok (.iconst 0, 1) := by decide +kernel
theorem dM_begin_69 : decode cM_begin 69 = .ok (.istore_n 2, 1) := by decide +kernel
theorem dM_begin_70 : decode cM_begin 70 = .ok (.iload_n 2, 1) := by decide +kernel
theorem dM_begin_71 : decode cM_begin 71 = .ok (.bipush 64, 2) := by decide +kernel
theorem dM_begin_73 : decode cM_begin 73 = .ok (.if_icmp .ge 55, 3) := by decide +kernel
theorem dM_begin_76 : decode cM_begin 76 = .ok (.aload_n 0, 1) := by decide +kernel
theorem dM_begin_77 : decode cM_begin 77 = .ok (.getfield 36, 3) := by decide +kernel
theorem dM_begin_80 : decode cM_begin 80 = .ok (.bipush 64, 2) := by decide +kernel
theorem dM_begin_82 : decode cM_begin 82 = .ok (.iload_n 1, 1) := by decide +kernel
theorem dM_begin_83 : decode cM_begin 83 = .ok (.imul, 1) := by decide +kernel
theorem dM_begin_84 : decode cM_begin 84 = .ok (.iload_n 2, 1) := by decide +kernel
theorem dM_begin_85 : decode cM_begin 85 = .ok (.iadd, 1) := by decide +kernel
theorem dM_begin_86 : decode cM_begin 86 = .ok (.aload_n 0, 1) := by decide +kernel
theorem dM_begin_87 : decode cM_begin 87 = .ok (.getfield 17, 3) := by decide +kernel
theorem dM_begin_90 : decode cM_begin 90 = .ok (.iload_n 2, 1) := by decide +kernel
theorem dM_begin_91 : decode cM_begin 91 = .ok (.baload, 1) := by decide +kernel
theorem dM_begin_92 : decode cM_begin 92 = .ok (.bastore, 1) := by decide +kernel
theorem dM_begin_93 : decode cM_begin 93 = .ok (.aload_n 0, 1) := by decide +kernel
theorem dM_begin_94 : decode cM_begin 94 = .ok (.getfield 39, 3) := by decide +kernel
theorem dM_begin_97 : decode cM_begin 97 = .ok (.bipush 64, 2) := by decide +kernel
theorem dM_begin_99 : decode cM_begin 99 = .ok (.iload_n 1, 1) := by decide +kernel
theorem dM_begin_100 : decode cM_begin 100 = .ok (.imul, 1) := by decide +kernel
theorem dM_begin_101 : decode cM_begin 101 = .ok (.iload_n 2, 1) := by decide +kernel
theorem dM_begin_102 : decode cM_begin 102 = .ok (.iadd, 1) := by decide +kernel
theorem dM_begin_103 : decode cM_begin 103 = .ok (.aload_n 0, 1) := by decide +kernel
theorem dM_begin_104 : decode cM_begin 104 = .ok (.getfield 21, 3) := by decide +kernel
theorem dM_begin_107 : decode cM_begin 107 = .ok (.iload_n 2, 1) := by decide +kernel
theorem dM_begin_108 : decode cM_begin 108 = .ok (.iaload, 1) := by decide +kernel
theorem dM_begin_109 : decode cM_begin 109 = .ok (.iastore, 1) := by decide +kernel
theorem dM_begin_110 : decode cM_begin 110 = .ok (.aload_n 0, 1) := by decide +kernel
theorem dM_begin_111 : decode cM_begin 111 = .ok (.getfield 42, 3) := by decide +kernel
theorem dM_begin_114 : decode cM_begin 114 = .ok (.bipush 64, 2) := by decide +kernel
theorem dM_begin_116 : decode cM_begin 116 = .ok (.iload_n 1, 1) := by decide +kernel
theorem dM_begin_117 : decode cM_begin 117 = .ok (.imul, 1) := by decide +kernel
theorem dM_begin_118 : decode cM_begin 118 = .ok (.iload_n 2, 1) := by decide +kernel
theorem dM_begin_119 : decode cM_begin 119 = .ok (.iadd, 1) := by decide +kernel
theorem dM_begin_120 : decode cM_begin 120 = .ok (.iconst 0, 1) := by decide +kernel
theorem dM_begin_121 : decode cM_begin 121 = .ok (.iastore, 1) := by decide +kernel
theorem dM_begin_122 : decode cM_begin 122 = .ok (.iinc 2 1, 3) := by decide +kernel
theorem dM_begin_125 : decode cM_begin 125 = .ok (.goto (-55), 3) := by decide +kernel
theorem dM_begin_128 : decode cM_begin 128 = .ok (.aload_n 0, 1) := by decide +kernel
theorem dM_begin_129 : decode cM_begin 129 = .ok (.getfield 81, 3) := by decide +kernel
theorem dM_begin_132 : decode cM_begin 132 = .ok (.ireturn, 1) := by decide +kernel
theorem dM_countNow_0 : decode cM_countNow 0 = .ok (.iconst 0, 1) := by decide +kernel
theorem dM_countNow_1 : decode cM_countNow 1 = .ok (.istore_n 1, 1) := by decide +kernel
theorem dM_countNow_2 : decode cM_countNow 2 = .ok (.iconst 0, 1) := by decide +kernel
theorem dM_countNow_3 : decode cM_countNow 3 = .ok (.istore_n 2, 1) := by decide +kernel
theorem dM_countNow_4 : decode cM_countNow 4 = .ok (.iload_n 2, 1) := by decide +kernel
theorem dM_countNow_5 : decode cM_countNow 5 = .ok (.bipush 64, 2) := by decide +kernel
theorem dM_countNow_7 : decode cM_countNow 7 = .ok (.if_icmp .ge 26, 3) := by decide +kernel
theorem dM_countNow_10 : decode cM_countNow 10 = .ok (.aload_n 0, 1) := by decide +kernel
theorem dM_countNow_11 : decode cM_countNow 11 = .ok (.getfield 17, 3) := by decide +kernel
theorem dM_countNow_14 : decode cM_countNow 14 = .ok (.iload_n 2, 1) := by decide +kernel
theorem dM_countNow_15 : decode cM_countNow 15 = .ok (.baload, 1) := by decide +kernel
theorem dM_countNow_16 : decode cM_countNow 16 = .ok (.ifCond .eq 9, 3) := by decide +kernel
theorem dM_countNow_25 : decode cM_countNow 25 = .ok (.iload_n 1, 1) := by decide +kernel
theorem dM_countNow_26 : decode cM_countNow 26 = .ok (.istore_n 1, 1) := by decide +kernel
theorem dM_countNow_27 : decode cM_countNow 27 = .ok (.iinc 2 1, 3) := by decide +kernel
theorem dM_countNow_30 : decode cM_countNow 30 = .ok (.goto (-26), 3) := by decide +kernel
theorem dM_countNow_33 : decode cM_countNow 33 = .ok (.iload_n 1, 1) := by decide +kernel
theorem dM_countNow_34 : decode cM_countNow 34 = .ok (.ireturn, 1) := by decide +kernel
theorem dM_count_0 : decode cM_count 0 = .ok (.aload_n 0, 1) := by decide +kernel
theorem dM_count_1 : decode cM_count 1 = .ok (.aload_n 0, 1) := by decide +kernel
theorem dM_count_2 : decode cM_count 2 = .ok (.getfield 61, 3) := by decide +kernel
theorem dM_count_5 : decode cM_count 5 = .ok (.ifCond .eq 7, 3) := by decide +kernel
theorem dM_count_12 : decode cM_count 12 = .ok (.iconst 0, 1) := by decide +kernel
theorem dM_count_13 : decode cM_count 13 = .ok (.putfield 52, 3) := by decide +kernel
theorem dM_count_16 : decode cM_count 16 = .ok (.aload_n 0, 1) := by decide +kernel
theorem dM_count_17 : decode cM_count 17 = .ok (.getfield 61, 3) := by decide +kernel
theorem dM_count_20 : decode cM_count 20 = .ok (.ifCond .eq 7, 3) := by decide +kernel
theorem dM_count_27 : decode cM_count 27 = .ok (.aload_n 0, 1) := by decide +kernel
theorem dM_count_28 : decode cM_count 28 = .ok (.invokevirtual 117, 3) := by decide +kernel
theorem dM_count_31 : decode cM_count 31 = .ok (.ireturn, 1) := by decide +kernel
theorem dM_version_0 : decode cM_version 0 = .ok (.aload_n 0, 1) := by decide +kernel
theorem dM_version_1 : decode cM_version 1 = .ok (.aload_n 0, 1) := by decide +kernel
theorem dM_version_2 : decode cM_version 2 = .ok (.getfield 61, 3) := by decide +kernel
theorem dM_version_5 : decode cM_version 5 = .ok (.ifCond .eq 7, 3) := by decide +kernel
theorem dM_version_12 : decode cM_version 12 = .ok (.iconst 0, 1) := by decide +kernel
theorem dM_version_13 : decode cM_version 13 = .ok (.putfield 52, 3) := by decide +kernel
theorem dM_version_16 : decode cM_version 16 = .ok (.aload_n 0, 1) := by decide +kernel
theorem dM_version_17 : decode cM_version 17 = .ok (.getfield 61, 3) := by decide +kernel
theorem dM_version_20 : decode cM_version 20 = .ok (.ifCond .eq 7, 3) := by decide +kernel
theorem dM_version_27 : decode cM_version 27 = .ok (.aload_n 0, 1) := by decide +kernel
theorem dM_version_28 : decode cM_version 28 = .ok (.getfield 81, 3) := by decide +kernel
theorem dM_version_31 : decode cM_version 31 = .ok (.ireturn, 1) := by decide +kernel
theorem dM_left_0 : decode cM_left 0 = .ok (.aload_n 0, 1) := by decide +kernel
theorem dM_left_1 : decode cM_left 1 = .ok (.aload_n 0, 1) := by decide +kernel
theorem dM_left_2 : decode cM_left 2 = .ok (.getfield 61, 3) := by decide +kernel
theorem dM_left_5 : decode cM_left 5 = .ok (.ifCond .eq 7, 3) := by decide +kernel
theorem dM_left_12 : decode cM_left 12 = .ok (.iconst 0, 1) := by decide +kernel
theorem dM_left_13 : decode cM_left 13 = .ok (.putfield 52, 3) := by decide +kernel
theorem dM_left_16 : decode cM_left 16 = .ok (.aload_n 0, 1) := by decide +kernel
theorem dM_left_17 : decode cM_left 17 = .ok (.getfield 61, 3) := by decide +kernel
theorem dM_left_20 : decode cM_left 20 = .ok (.ifCond .eq 7, 3) := by decide +kernel
theorem dM_left_27 : decode cM_left 27 = .ok (.bipush 74, 2) := by decide +kernel
theorem dM_left_29 : decode cM_left 29 = .ok (.aload_n 0, 1) := by decide +kernel
theorem dM_left_30 : decode cM_left 30 = .ok (.getfield 95, 3) := by decide +kernel
theorem dM_left_33 : decode cM_left 33 = .ok (.isub, 1) := by decide +kernel
theorem dM_left_34 : decode cM_left 34 = .ok (.ireturn, 1) := by decide +kernel
theorem dM_isDown_0 : decode cM_isDown 0 = .ok (.aload_n 0, 1) := by decide +kernel
theorem dM_isDown_1 : decode cM_isDown 1 = .ok (.iconst 0, 1) := by decide +kernel
theorem dM_isDown_2 : decode cM_isDown 2 = .ok (.putfield 52, 3) := by decide +kernel
theorem dM_isDown_5 : decode cM_isDown 5 = .ok (.aload_n 0, 1) := by decide +kernel
theorem dM_isDown_6 : decode cM_isDown 6 = .ok (.getfield 61, 3) := by decide +kernel
theorem dM_isDown_9 : decode cM_isDown 9 = .ok (.ireturn, 1) := by decide +kernel
theorem dM_arm_0 : decode cM_arm 0 = .ok (.aload_n 0, 1) := by decide +kernel
theorem dM_arm_1 : decode cM_arm 1 = .ok (.iconst 0, 1) := by decide +kernel
theorem dM_arm_2 : decode cM_arm 2 = .ok (.putfield 52, 3) := by decide +kernel
theorem dM_arm_5 : decode cM_arm 5 = .ok (.aload_n 0, 1) := by decide +kernel
theorem dM_arm_6 : decode cM_arm 6 = .ok (.iload_n 1, 1) := by decide +kernel
theorem dM_arm_7 : decode cM_arm 7 = .ok (.ifCond .ge 7, 3) := by decide +kernel
theorem dM_arm_10 : decode cM_arm 10 = .ok (.iconst (-1), 1) := by decide +kernel
theorem dM_arm_11 : decode cM_arm 11 = .ok (.goto 4, 3) := by decide +kernel
theorem dM_arm_14 : decode cM_arm 14 = .ok (.iload_n 1, 1) := by decide +kernel
theorem dM_arm_15 : decode cM_arm 15 = .ok (.putfield 13, 3) := by decide +kernel
theorem dM_arm_18 : decode cM_arm 18 = .ok (.aload_n 0, 1) := by decide +kernel
theorem dM_arm_19 : decode cM_arm 19 = .ok (.iload_n 2, 1) := by decide +kernel
theorem dM_arm_20 : decode cM_arm 20 = .ok (.ifCond .ge 7, 3) := by decide +kernel
theorem dM_arm_23 : decode cM_arm 23 = .ok (.iconst 0, 1) := by decide +kernel
theorem dM_arm_24 : decode cM_arm 24 = .ok (.goto 13, 3) := by decide +kernel
theorem dM_arm_27 : decode cM_arm 27 = .ok (.iload_n 2, 1) := by decide +kernel
theorem dM_arm_28 : decode cM_arm 28 = .ok (.iconst 3, 1) := by decide +kernel
theorem dM_arm_29 : decode cM_arm 29 = .ok (.if_icmp .le 7, 3) := by decide +kernel
theorem dM_arm_32 : decode cM_arm 32 = .ok (.iconst 3, 1) := by decide +kernel
theorem dM_arm_33 : decode cM_arm 33 = .ok (.goto 4, 3) := by decide +kernel
theorem dM_arm_36 : decode cM_arm 36 = .ok (.iload_n 2, 1) := by decide +kernel
theorem dM_arm_37 : decode cM_arm 37 = .ok (.putfield 58, 3) := by decide +kernel
theorem dM_arm_40 : decode cM_arm 40 = .ok (.return_, 1) := by decide +kernel
theorem dM_number_0 : decode cM_number 0 = .ok (.aload_n 0, 1) := by decide +kernel
theorem dM_number_1 : decode cM_number 1 = .ok (.aload_n 0, 1) := by decide +kernel
theorem dM_number_2 : decode cM_number 2 = .ok (.getfield 61, 3) := by decide +kernel
theorem dM_number_5 : decode cM_number 5 = .ok (.ifCond .eq 7, 3) := by decide +kernel
theorem dM_number_12 : decode cM_number 12 = .ok (.iload_n 1, 1) := by decide +kernel
theorem dM_number_13 : decode cM_number 13 = .ok (.iconst 0, 1) := by decide +kernel
theorem dM_number_14 : decode cM_number 14 = .ok (.bipush 63, 2) := by decide +kernel
theorem dM_number_16 : decode cM_number 16 = .ok (.invokestatic 73, 3) := by decide +kernel
theorem dM_number_19 : decode cM_number 19 = .ok (.ifCond .ne 7, 3) := by decide +kernel
theorem dM_number_22 : decode cM_number 22 = .ok (.iconst 2, 1) := by decide +kernel
theorem dM_number_23 : decode cM_number 23 = .ok (.goto 17, 3) := by decide +kernel
theorem dM_number_26 : decode cM_number 26 = .ok (.aload_n 0, 1) := by decide +kernel
theorem dM_number_27 : decode cM_number 27 = .ok (.getfield 17, 3) := by decide +kernel
theorem dM_number_30 : decode cM_number 30 = .ok (.iload_n 1, 1) := by decide +kernel
theorem dM_number_31 : decode cM_number 31 = .ok (.baload, 1) := by decide +kernel
theorem dM_number_32 : decode cM_number 32 = .ok (.ifCond .eq 7, 3) := by decide +kernel
theorem dM_number_39 : decode cM_number 39 = .ok (.iconst 3, 1) := by decide +kernel
theorem dM_number_40 : decode cM_number 40 = .ok (.putfield 52, 3) := by decide +kernel
theorem dM_number_43 : decode cM_number 43 = .ok (.aload_n 0, 1) := by decide +kernel
theorem dM_number_44 : decode cM_number 44 = .ok (.getfield 52, 3) := by decide +kernel
theorem dM_number_47 : decode cM_number 47 = .ok (.ifCond .le 7, 3) := by decide +kernel
theorem dM_number_50 : decode cM_number 50 = .ok (.iconst 0, 1) := by decide +kernel
theorem dM_number_51 : decode cM_number 51 = .ok (.goto 9, 3) := by decide +kernel
theorem dM_number_60 : decode cM_number 60 = .ok (.ireturn, 1) := by decide +kernel
set_option maxHeartbeats 4000000 in
set_option maxRecDepth 100000 in
theorem c_M_begin_x (l : Launch) (dC : Nat → ClassId) (dI : Nat → Nat → Nat) (cI cZ cJ cT : ClassId) (m0 md mh mn mc mo mb mk ml ms mw : Nat) (t9 : Int32) (sz : Nat) (hb9 : t9 < 0 ∨ (¬ t9 < 0 ∧ 2 < t9)) : Met l yM_begin (Cond.code yM_begin cM_begin 3 (some .int) :: wsA) ({ frames := 1, cells := 0, slots := 0, locals := 22 }) (va_Pc [.ref m0, .int t9] (fun U => U.heap.size = sz ∧ va_P (dC, dI) vwC [(m0, .inr (4, [.int 0, .ref md, .int 0, .int (-1), .int 0, .ref mh, .ref mn, .ref mc, .int 0, .int 1, .int 0, .int 0, .ref mo, .ref mb, .ref mk, .ref ml, .ref ms, .ref mw])), (mo, .inl (cZ, 3, .inl (fun _ => 0)))] U.heap ∧ KK dC dI cI cZ cJ cT U ∧ va_D (fun _ => True) [(m0, .inr (4, [.int 0, .ref md, .int 0, .int (-1), .int 0, .ref mh, .ref mn, .ref mc, .int 0, .int 1, .int 0, .int 0, .ref mo, .ref mb, .ref mk, .ref ml, .ref ms, .ref mw])), (mo, .inl (cZ, 3, .inl (fun _ => 0)))])) (va_Qi (S := Nat → Nat) (fun r _ => r = 0) (fun u t => va_P (dC, dI) vwC [(m0, .inr (4, [.int 2, .ref md, .int 0, .int (-1), .int 0, .ref mh, .ref mn, .ref mc, .int 0, .int 1, .int 0, .int 0, .ref mo, .ref mb, .ref mk, .ref ml, .ref ms, .ref mw]))] t.heap ∧ va_D (va_A [(m0, .inr (4, [.int 0, .ref md, .int 0, .int (-1), .int 0, .ref mh, .ref mn, .ref mc, .int 0, .int 1, .int 0, .int 0, .ref mo, .ref mb, .ref mk, .ref ml, .ref ms, .ref mw])), (mo, .inl (cZ, 3, .inl (fun _ => 0)))] sz) [(m0, .inr (4, [.int 2, .ref md, .int 0, .int (-1), .int 0, .ref mh, .ref mn, .ref mc, .int 0, .int 1, .int 0, .int 0, .ref mo, .ref mb, .ref mk, .ref ml, .ref ms, .ref mw]))]) (va_A [(m0, .inr (4, [.int 0, .ref md, .int 0, .int (-1), .int 0, .ref mh, .ref mn, .ref mc, .int 0, .int 1, .int 0, .int 0, .ref mo, .ref mb, .ref mk, .ref ml, .ref ms, .ref mw])), (mo, .inl (cZ, 3, .inl (fun _ => 0)))] sz)) 0 0 (va_A [(m0, .inr (4, [.int 0, .ref md, .int 0, .int (-1), .int 0, .ref mh, .ref mn, .ref mc, .int 0, .int 1, .int 0, .int 0, .ref mo, .ref mb, .ref mk, .ref ml, .ref ms, .ref mw])), (mo, .inl (cZ, 3, .inl (fun _ => 0)))] sz) := by
  refine Met.ofW (cc := cM_begin) (maxL := 3) (ret := (some .int)) (by decide) rfl ?_
  intro p e s m args below meth c s₁ B hml hv
  obtain ⟨rfl, hsz, hP, hKK, hD0⟩ := hv
  rcases hb9 with h1 | ⟨h1, h3⟩
  · have hK := hKK.1
    have hx := B.exec
    have hb := B.bytes
    have hr := B.returns
    have hw : ∀ w ∈ wsA, w.before _ s = true := fun w h => atoms_spec (ws := (Cond.code yM_begin cM_begin 3 (some .int) :: wsA)) B.pre w (List.mem_cons_of_mem _ h)
    have hown : s.vm.findClass "LoggedStoreModel" = some m.cls := findClass_of_methodNamed B.named
    have hlocks := B.notSynchronized
    subst hsz
    have hD := hD0.self (sz := s.heap.size)
    generalize hAe : va_A [(m0, .inr (4, [.int 0, .ref md, .int 0, .int (-1), .int 0, .ref mh, .ref mn, .ref mc, .int 0, .int 1, .int 0, .int 0, .ref mo, .ref mb, .ref mk, .ref ml, .ref ms, .ref mw])), (mo, .inl (cZ, 3, .inl (fun _ => 0)))] s.heap.size = A at hD ⊢
    have hA : ∀ q : Nat, s.heap.size ≤ q → A q := fun q h => by rw [← hAe]; exact Or.inr h
    have hS : va_S A s.heap s.heap [] := va_S.rf
    have hl := lv_entry ([.ref m0, .int t9]) (n := 3) (Nat.le_of_ble_eq_true rfl)
    rw [lg_entry_eq]
    generalize (lg_sl ([.ref m0, .int t9]) ++ List.replicate (3 - (lg_sl ([.ref m0, .int t9])).length) Slot.unset).toArray = ls at hl ⊢
    have hl : lv_has ls 3 [(0, .ref m0), (1, .int t9)] := hl
    refine lv_aload_n hx hb dM_begin_0 rfl (lv_at hl 0 rfl) ?_
    refine lv_aload_n hx hb dM_begin_1 rfl (lv_at hl 0 rfl) ?_
    refine va_get (D := (dC, dI)) (ci := 4) (v := .int 0) (C := "LoggedStoreModel") (T := uM) (N := 18) hx hb hw inM hown hK hP 0 rfl rfl 2 (by decide) (hw _ w614) (fun _ h9 => h9) rfl dM_begin_2 ?_
    refine lv_if_eq (tgt := 12) hx hb dM_begin_5 (by decide) (fun _ => ?_) (fun h9 => absurd (by decide) h9)
    refine lv_iload_n hx hb dM_begin_12 rfl (lv_at hl 1 rfl) ?_
    refine lv_iconst (v := 0) hx hb dM_begin_13 (by decide) ?_
    refine lv_iconst (v := 2) hx hb dM_begin_14 (by decide) ?_
    have hPc := hP.sub (ws' := []) [] rfl
    refine vp_callSi (W.runS (As := [.int t9, .int 0, .int 2]) (rest := [.ref m0]) ⟨hx, hb, hml, hown, hw⟩ (c_within_f l dC dI cI cZ cJ cT t9 0 2 h1) ⟨callB_of 3 hw (gA0 w677) rfl rfl rfl (hw _ w45) (hw _ w675) (by decide +kernel) ⟨Nat.le_of_ble_eq_true rfl, Nat.le_of_ble_eq_true rfl⟩, (hw _ w676)⟩ ⟨kb_S, fun U hU hW => ⟨rfl, by rw [hU]; exact hPc, hKK.moved hW⟩⟩ rfl rfl hl.1 rfl (lv_room (Nat.le_of_ble_eq_true rfl)) dM_begin_15 ⟨Nat.le_of_ble_eq_true rfl, Nat.le_of_ble_eq_true rfl⟩) (fun r1 e2 => ?_)
    obtain rfl : r1 = 0 := e2
    refine lv_if_ne (tgt := 25) hx hb dM_begin_18 (by decide) (fun h9 => absurd (by decide) h9) (fun _ => ?_)
    refine lv_iconst (v := 2) hx hb dM_begin_21 (by decide) ?_
    refine lv_goto (tgt := 39) hx hb dM_begin_22 (by decide) ?_
    refine va_put (D := (dC, dI)) (ci := 4) (v := .int 2) (ty := .int) (C := "LoggedStoreModel") (T := uM) (N := 18) hx hb hw inM tyM tyM_ok nmM hown hK hP hD hS 0 rfl rfl 0 (by decide) (hw _ w612) (fun _ h9 => h9) rfl (by decide +kernel) rfl rfl (Nat.le_of_ble_eq_true rfl) dM_begin_39 (fun H locs hP hD hS => ?_)
    have hP : va_P (dC, dI) vwC [(m0, .inr (4, [.int 2, .ref md, .int 0, .int (-1), .int 0, .ref mh, .ref mn, .ref mc, .int 0, .int 1, .int 0, .int 0, .ref mo, .ref mb, .ref mk, .ref ml, .ref ms, .ref mw])), (mo, .inl (cZ, 3, .inl (fun _ => 0)))] H := hP
    have hD : va_D A [(m0, .inr (4, [.int 2, .ref md, .int 0, .int (-1), .int 0, .ref mh, .ref mn, .ref mc, .int 0, .int 1, .int 0, .int 0, .ref mo, .ref mb, .ref mk, .ref ml, .ref ms, .ref mw])), (mo, .inl (cZ, 3, .inl (fun _ => 0)))] := hD
    refine lv_aload_n hx hb dM_begin_42 rfl (lv_at hl 0 rfl) ?_
    refine va_get (D := (dC, dI)) (ci := 4) (v := .int 2) (C := "LoggedStoreModel") (T := uM) (N := 18) hx hb hw inM hown hK hP 0 rfl rfl 0 (by decide) (hw _ w612) (fun _ h9 => h9) rfl dM_begin_43 ?_
    refine lv_if_le (tgt := 51) hx hb dM_begin_46 (by decide) (fun h9 => absurd h9 (by decide)) (fun _ => ?_)
    refine lv_iconst (v := 0) hx hb dM_begin_49 (by decide) ?_
    have hP9 := hP.sub (ws' := [(m0, .inr (4, [.int 2, .ref md, .int 0, .int (-1), .int 0, .ref mh, .ref mn, .ref mc, .int 0, .int 1, .int 0, .int 0, .ref mo, .ref mb, .ref mk, .ref ml, .ref ms, .ref mw]))]) [0] rfl
    have hD9 := hD.sub (ws' := [(m0, .inr (4, [.int 2, .ref md, .int 0, .int (-1), .int 0, .ref mh, .ref mn, .ref mc, .int 0, .int 1, .int 0, .int 0, .ref mo, .ref mb, .ref mk, .ref ml, .ref ms, .ref mw]))]) [0] (by decide) rfl
    refine W.widen (k := 0) (n := 0) (by decide) (by decide) ?_
    exact W.iret (v := 0) hx hb hr (fun t ht hW => ⟨⟨0, fun _ => 0, rfl, rfl, by rw [ht]; exact hP9, hD9⟩, hS.F ht⟩) hS.2.2 dM_begin_50
  · have hK := hKK.1
    have hx := B.exec
    have hb := B.bytes
    have hr := B.returns
    have hw : ∀ w ∈ wsA, w.before _ s = true := fun w h => atoms_spec (ws := (Cond.code yM_begin cM_begin 3 (some .int) :: wsA)) B.pre w (List.mem_cons_of_mem _ h)
    have hown : s.vm.findClass "LoggedStoreModel" = some m.cls := findClass_of_methodNamed B.named
    have hlocks := B.notSynchronized
    subst hsz
    have hD := hD0.self (sz := s.heap.size)
    generalize hAe : va_A [(m0, .inr (4, [.int 0, .ref md, .int 0, .int (-1), .int 0, .ref mh, .ref mn, .ref mc, .int 0, .int 1, .int 0, .int 0, .ref mo, .ref mb, .ref mk, .ref ml, .ref ms, .ref mw])), (mo, .inl (cZ, 3, .inl (fun _ => 0)))] s.heap.size = A at hD ⊢
    have hA : ∀ q : Nat, s.heap.size ≤ q → A q := fun q h => by rw [← hAe]; exact Or.inr h
    have hS : va_S A s.heap s.heap [] := va_S.rf
    have hl := lv_entry ([.ref m0, .int t9]) (n := 3) (Nat.le_of_ble_eq_true rfl)
    rw [lg_entry_eq]
    generalize (lg_sl ([.ref m0, .int t9]) ++ List.replicate (3 - (lg_sl ([.ref m0, .int t9])).length) Slot.unset).toArray = ls at hl ⊢
    have hl : lv_has ls 3 [(0, .ref m0), (1, .int t9)] := hl
    refine lv_aload_n hx hb dM_begin_0 rfl (lv_at hl 0 rfl) ?_
    refine lv_aload_n hx hb dM_begin_1 rfl (lv_at hl 0 rfl) ?_
    refine va_get (D := (dC, dI)) (ci := 4) (v := .int 0) (C := "LoggedStoreModel") (T := uM) (N := 18) hx hb hw inM hown hK hP 0 rfl rfl 2 (by decide) (hw _ w614) (fun _ h9 => h9) rfl dM_begin_2 ?_
    refine lv_if_eq (tgt := 12) hx hb dM_begin_5 (by decide) (fun _ => ?_) (fun h9 => absurd (by decide) h9)
    refine lv_iload_n hx hb dM_begin_12 rfl (lv_at hl 1 rfl) ?_
    refine lv_iconst (v := 0) hx hb dM_begin_13 (by decide) ?_
    refine lv_iconst (v := 2) hx hb dM_begin_14 (by decide) ?_
    have hPc := hP.sub (ws' := []) [] rfl
    refine vp_callSi (W.runS (As := [.int t9, .int 0, .int 2]) (rest := [.ref m0]) ⟨hx, hb, hml, hown, hw⟩ (c_within_g l dC dI cI cZ cJ cT t9 0 2 h1 h3) ⟨callB_of 3 hw (gA0 w677) rfl rfl rfl (hw _ w45) (hw _ w675) (by decide +kernel) ⟨Nat.le_of_ble_eq_true rfl, Nat.le_of_ble_eq_true rfl⟩, (hw _ w676)⟩ ⟨kb_S, fun U hU hW => ⟨rfl, by rw [hU]; exact hPc, hKK.moved hW⟩⟩ rfl rfl hl.1 rfl (lv_room (Nat.le_of_ble_eq_true rfl)) dM_begin_15 ⟨Nat.le_of_ble_eq_true rfl, Nat.le_of_ble_eq_true rfl⟩) (fun r1 e2 => ?_)
    obtain rfl : r1 = 0 := e2
    refine lv_if_ne (tgt := 25) hx hb dM_begin_18 (by decide) (fun h9 => absurd (by decide) h9) (fun _ => ?_)
    refine lv_iconst (v := 2) hx hb dM_begin_21 (by decide) ?_
    refine lv_goto (tgt := 39) hx hb dM_begin_22 (by decide) ?_
    refine va_put (D := (dC, dI)) (ci := 4) (v := .int 2) (ty := .int) (C := "LoggedStoreModel") (T := uM) (N := 18) hx hb hw inM tyM tyM_ok nmM hown hK hP hD hS 0 rfl rfl 0 (by decide) (hw _ w612) (fun _ h9 => h9) rfl (by decide +kernel) rfl rfl (Nat.le_of_ble_eq_true rfl) dM_begin_39 (fun H locs hP hD hS => ?_)
    have hP : va_P (dC, dI) vwC [(m0, .inr (4, [.int 2, .ref md, .int 0, .int (-1), .int 0, .ref mh, .ref mn, .ref mc, .int 0, .int 1, .int 0, .int 0, .ref mo, .ref mb, .ref mk, .ref ml, .ref ms, .ref mw])), (mo, .inl (cZ, 3, .inl (fun _ => 0)))] H := hP
    have hD : va_D A [(m0, .inr (4, [.int 2, .ref md, .int 0, .int (-1), .int 0, .ref mh, .ref mn, .ref mc, .int 0, .int 1, .int 0, .int 0, .ref mo, .ref mb, .ref mk, .ref ml, .ref ms, .ref mw])), (mo, .inl (cZ, 3, .inl (fun _ => 0)))] := hD
    refine lv_aload_n hx hb dM_begin_42 rfl (lv_at hl 0 rfl) ?_
    refine va_get (D := (dC, dI)) (ci := 4) (v := .int 2) (C := "LoggedStoreModel") (T := uM) (N := 18) hx hb hw inM hown hK hP 0 rfl rfl 0 (by decide) (hw _ w612) (fun _ h9 => h9) rfl dM_begin_43 ?_
    refine lv_if_le (tgt := 51) hx hb dM_begin_46 (by decide) (fun h9 => absurd h9 (by decide)) (fun _ => ?_)
    refine lv_iconst (v := 0) hx hb dM_begin_49 (by decide) ?_
    have hP9 := hP.sub (ws' := [(m0, .inr (4, [.int 2, .ref md, .int 0, .int (-1), .int 0, .ref mh, .ref mn, .ref mc, .int 0, .int 1, .int 0, .int 0, .ref mo, .ref mb, .ref mk, .ref ml, .ref ms, .ref mw]))]) [0] rfl
    have hD9 := hD.sub (ws' := [(m0, .inr (4, [.int 2, .ref md, .int 0, .int (-1), .int 0, .ref mh, .ref mn, .ref mc, .int 0, .int 1, .int 0, .int 0, .ref mo, .ref mb, .ref mk, .ref ml, .ref ms, .ref mw]))]) [0] (by decide) rfl
    refine W.widen (k := 0) (n := 0) (by decide) (by decide) ?_
    exact W.iret (v := 0) hx hb hr (fun t ht hW => ⟨⟨0, fun _ => 0, rfl, rfl, by rw [ht]; exact hP9, hD9⟩, hS.F ht⟩) hS.2.2 dM_begin_50

set_option maxHeartbeats 4000000 in
set_option maxRecDepth 100000 in
theorem c_M_begin_0 (l : Launch) (dC : Nat → ClassId) (dI : Nat → Nat → Nat) (cI cZ cJ cT : ClassId) (m0 md mh mn mc mo mb mk ml ms mw : Nat) (sz : Nat) : Met l yM_begin (Cond.code yM_begin cM_begin 3 (some .int) :: wsA) ({ frames := 1, cells := 0, slots := 0, locals := 22 }) (va_Pc [.ref m0, .int 0] (fun U => U.heap.size = sz ∧ va_P (dC, dI) vwC [(m0, .inr (4, [.int 0, .ref md, .int 0, .int (-1), .int 0, .ref mh, .ref mn, .ref mc, .int 0, .int 1, .int 0, .int 0, .ref mo, .ref mb, .ref mk, .ref ml, .ref ms, .ref mw])), (mo, .inl (cZ, 3, .inl (fun _ => 0))), (mb, .inl (cI, 3, .inl (fun _ => 0))), (mk, .inl (cZ, 192, .inl (fun _ => 0))), (mh, .inl (cZ, 64, .inl (fun _ => 0))), (ml, .inl (cI, 192, .inl (fun _ => 0))), (mn, .inl (cI, 64, .inl (fun _ => 0))), (ms, .inl (cI, 192, .inl (fun _ => 0)))] U.heap ∧ KK dC dI cI cZ cJ cT U ∧ va_D (fun _ => True) [(m0, .inr (4, [.int 0, .ref md, .int 0, .int (-1), .int 0, .ref mh, .ref mn, .ref mc, .int 0, .int 1, .int 0, .int 0, .ref mo, .ref mb, .ref mk, .ref ml, .ref ms, .ref mw])), (mo, .inl (cZ, 3, .inl (fun _ => 0))), (mb, .inl (cI, 3, .inl (fun _ => 0))), (mk, .inl (cZ, 192, .inl (fun _ => 0))), (mh, .inl (cZ, 64, .inl (fun _ => 0))), (ml, .inl (cI, 192, .inl (fun _ => 0))), (mn, .inl (cI, 64, .inl (fun _ => 0))), (ms, .inl (cI, 192, .inl (fun _ => 0)))])) (va_Qi (S := Nat → Nat) (fun r _ => r = 0) (fun u t => va_P (dC, dI) vwC [(m0, .inr (4, [.int 0, .ref md, .int 0, .int (-1), .int 0, .ref mh, .ref mn, .ref mc, .int 0, .int 1, .int 0, .int 0, .ref mo, .ref mb, .ref mk, .ref ml, .ref ms, .ref mw]))] t.heap ∧ va_D (va_A [(m0, .inr (4, [.int 0, .ref md, .int 0, .int (-1), .int 0, .ref mh, .ref mn, .ref mc, .int 0, .int 1, .int 0, .int 0, .ref mo, .ref mb, .ref mk, .ref ml, .ref ms, .ref mw])), (mo, .inl (cZ, 3, .inl (fun _ => 0))), (mb, .inl (cI, 3, .inl (fun _ => 0))), (mk, .inl (cZ, 192, .inl (fun _ => 0))), (mh, .inl (cZ, 64, .inl (fun _ => 0))), (ml, .inl (cI, 192, .inl (fun _ => 0))), (mn, .inl (cI, 64, .inl (fun _ => 0))), (ms, .inl (cI, 192, .inl (fun _ => 0)))] sz) [(m0, .inr (4, [.int 0, .ref md, .int 0, .int (-1), .int 0, .ref mh, .ref mn, .ref mc, .int 0, .int 1, .int 0, .int 0, .ref mo, .ref mb, .ref mk, .ref ml, .ref ms, .ref mw]))]) (va_A [(m0, .inr (4, [.int 0, .ref md, .int 0, .int (-1), .int 0, .ref mh, .ref mn, .ref mc, .int 0, .int 1, .int 0, .int 0, .ref mo, .ref mb, .ref mk, .ref ml, .ref ms, .ref mw])), (mo, .inl (cZ, 3, .inl (fun _ => 0))), (mb, .inl (cI, 3, .inl (fun _ => 0))), (mk, .inl (cZ, 192, .inl (fun _ => 0))), (mh, .inl (cZ, 64, .inl (fun _ => 0))), (ml, .inl (cI, 192, .inl (fun _ => 0))), (mn, .inl (cI, 64, .inl (fun _ => 0))), (ms, .inl (cI, 192, .inl (fun _ => 0)))] sz)) 0 0 (va_A [(m0, .inr (4, [.int 0, .ref md, .int 0, .int (-1), .int 0, .ref mh, .ref mn, .ref mc, .int 0, .int 1, .int 0, .int 0, .ref mo, .ref mb, .ref mk, .ref ml, .ref ms, .ref mw])), (mo, .inl (cZ, 3, .inl (fun _ => 0))), (mb, .inl (cI, 3, .inl (fun _ => 0))), (mk, .inl (cZ, 192, .inl (fun _ => 0))), (mh, .inl (cZ, 64, .inl (fun _ => 0))), (ml, .inl (cI, 192, .inl (fun _ => 0))), (mn, .inl (cI, 64, .inl (fun _ => 0))), (ms, .inl (cI, 192, .inl (fun _ => 0)))] sz) := by
  refine Met.ofW (cc := cM_begin) (maxL := 3) (ret := (some .int)) (by decide) rfl ?_
  intro p e s m args below meth c s₁ B hml hv
  obtain ⟨rfl, hsz, hP, hKK, hD0⟩ := hv
  have hK := hKK.1
  have hx := B.exec
  have hb := B.bytes
  have hr := B.returns
  have hw : ∀ w ∈ wsA, w.before _ s = true := fun w h => atoms_spec (ws := (Cond.code yM_begin cM_begin 3 (some .int) :: wsA)) B.pre w (List.mem_cons_of_mem _ h)
  have hown : s.vm.findClass "LoggedStoreModel" = some m.cls := findClass_of_methodNamed B.named
  have hlocks := B.notSynchronized
  subst hsz
  have hD := hD0.self (sz := s.heap.size)
  generalize hAe : va_A [(m0, .inr (4, [.int 0, .ref md, .int 0, .int (-1), .int 0, .ref mh, .ref mn, .ref mc, .int 0, .int 1, .int 0, .int 0, .ref mo, .ref mb, .ref mk, .ref ml, .ref ms, .ref mw])), (mo, .inl (cZ, 3, .inl (fun _ => 0))), (mb, .inl (cI, 3, .inl (fun _ => 0))), (mk, .inl (cZ, 192, .inl (fun _ => 0))), (mh, .inl (cZ, 64, .inl (fun _ => 0))), (ml, .inl (cI, 192, .inl (fun _ => 0))), (mn, .inl (cI, 64, .inl (fun _ => 0))), (ms, .inl (cI, 192, .inl (fun _ => 0)))] s.heap.size = A at hD ⊢
  have hA : ∀ q : Nat, s.heap.size ≤ q → A q := fun q h => by rw [← hAe]; exact Or.inr h
  have hS : va_S A s.heap s.heap [] := va_S.rf
  have hl := lv_entry ([.ref m0, .int 0]) (n := 3) (Nat.le_of_ble_eq_true rfl)
  rw [lg_entry_eq]
  generalize (lg_sl ([.ref m0, .int 0]) ++ List.replicate (3 - (lg_sl ([.ref m0, .int 0])).length) Slot.unset).toArray = ls at hl ⊢
  have hl : lv_has ls 3 [(0, .ref m0), (1, .int 0)] := hl
  refine lv_aload_n hx hb dM_begin_0 rfl (lv_at hl 0 rfl) ?_
  refine lv_aload_n hx hb dM_begin_1 rfl (lv_at hl 0 rfl) ?_
  refine va_get (D := (dC, dI)) (ci := 4) (v := .int 0) (C := "LoggedStoreModel") (T := uM) (N := 18) hx hb hw inM hown hK hP 0 rfl rfl 2 (by decide) (hw _ w614) (fun _ h9 => h9) rfl dM_begin_2 ?_
  refine lv_if_eq (tgt := 12) hx hb dM_begin_5 (by decide) (fun _ => ?_) (fun h9 => absurd (by decide) h9)
  refine lv_iload_n hx hb dM_begin_12 rfl (lv_at hl 1 rfl) ?_
  refine lv_iconst (v := 0) hx hb dM_begin_13 (by decide) ?_
  refine lv_iconst (v := 2) hx hb dM_begin_14 (by decide) ?_
  have hPc := hP.sub (ws' := []) [] rfl
  refine vp_callSi (W.runS (As := [.int 0, .int 0, .int 2]) (rest := [.ref m0]) ⟨hx, hb, hml, hown, hw⟩ (c_within_t l dC dI cI cZ cJ cT 0 0 2 (by decide) (by decide)) ⟨callB_of 3 hw (gA0 w677) rfl rfl rfl (hw _ w45) (hw _ w675) (by decide +kernel) ⟨Nat.le_of_ble_eq_true rfl, Nat.le_of_ble_eq_true rfl⟩, (hw _ w676)⟩ ⟨kb_S, fun U hU hW => ⟨rfl, by rw [hU]; exact hPc, hKK.moved hW⟩⟩ rfl rfl hl.1 rfl (lv_room (Nat.le_of_ble_eq_true rfl)) dM_begin_15 ⟨Nat.le_of_ble_eq_true rfl, Nat.le_of_ble_eq_true rfl⟩) (fun r1 e2 => ?_)
  obtain rfl : r1 = 1 := e2
  refine lv_if_ne (tgt := 25) hx hb dM_begin_18 (by decide) (fun _ => ?_) (fun h9 => absurd h9 (by decide))
  refine lv_aload_n hx hb dM_begin_25 rfl (lv_at hl 0 rfl) ?_
  refine va_get (D := (dC, dI)) (ci := 4) (v := .ref mo) (C := "LoggedStoreModel") (T := uM) (N := 18) hx hb hw inM hown hK hP 0 rfl rfl 12 (by decide) (hw _ w624) (fun _ h9 => h9) rfl dM_begin_26 ?_
  refine lv_iload_n hx hb dM_begin_29 rfl (lv_at hl 1 rfl) ?_
  refine va_zald hx hb hK hP 1 1 rfl rfl (tv_in (by decide +kernel)) dM_begin_30 ?_
  refine lv_topi (nm_r (e' := 0) (rfl) ?_)
  refine lv_if_eq (tgt := 38) hx hb dM_begin_31 (by decide) (fun _ => ?_) (fun h9 => absurd (by decide) h9)
  refine lv_iconst (v := 0) hx hb dM_begin_38 (by decide) ?_
  refine va_put (D := (dC, dI)) (ci := 4) (v := .int 0) (ty := .int) (C := "LoggedStoreModel") (T := uM) (N := 18) hx hb hw inM tyM tyM_ok nmM hown hK hP hD hS 0 rfl rfl 0 (by decide) (hw _ w612) (fun _ h9 => h9) rfl (by decide +kernel) rfl rfl (Nat.le_of_ble_eq_true rfl) dM_begin_39 (fun H locs hP hD hS => ?_)
  have hP : va_P (dC, dI) vwC [(m0, .inr (4, [.int 0, .ref md, .int 0, .int (-1), .int 0, .ref mh, .ref mn, .ref mc, .int 0, .int 1, .int 0, .int 0, .ref mo, .ref mb, .ref mk, .ref ml, .ref ms, .ref mw])), (mo, .inl (cZ, 3, .inl (fun _ => 0))), (mb, .inl (cI, 3, .inl (fun _ => 0))), (mk, .inl (cZ, 192, .inl (fun _ => 0))), (mh, .inl (cZ, 64, .inl (fun _ => 0))), (ml, .inl (cI, 192, .inl (fun _ => 0))), (mn, .inl (cI, 64, .inl (fun _ => 0))), (ms, .inl (cI, 192, .inl (fun _ => 0)))] H := hP
  have hD : va_D A [(m0, .inr (4, [.int 0, .ref md, .int 0, .int (-1), .int 0, .ref mh, .ref mn, .ref mc, .int 0, .int 1, .int 0, .int 0, .ref mo, .ref mb, .ref mk, .ref ml, .ref ms, .ref mw])), (mo, .inl (cZ, 3, .inl (fun _ => 0))), (mb, .inl (cI, 3, .inl (fun _ => 0))), (mk, .inl (cZ, 192, .inl (fun _ => 0))), (mh, .inl (cZ, 64, .inl (fun _ => 0))), (ml, .inl (cI, 192, .inl (fun _ => 0))), (mn, .inl (cI, 64, .inl (fun _ => 0))), (ms, .inl (cI, 192, .inl (fun _ => 0)))] := hD
  refine lv_aload_n hx hb dM_begin_42 rfl (lv_at hl 0 rfl) ?_
  refine va_get (D := (dC, dI)) (ci := 4) (v := .int 0) (C := "LoggedStoreModel") (T := uM) (N := 18) hx hb hw inM hown hK hP 0 rfl rfl 0 (by decide) (hw _ w612) (fun _ h9 => h9) rfl dM_begin_43 ?_
  refine lv_if_le (tgt := 51) hx hb dM_begin_46 (by decide) (fun _ => ?_) (fun h9 => absurd (by decide) h9)
  refine lv_aload_n hx hb dM_begin_51 rfl (lv_at hl 0 rfl) ?_
  refine va_get (D := (dC, dI)) (ci := 4) (v := .ref mo) (C := "LoggedStoreModel") (T := uM) (N := 18) hx hb hw inM hown hK hP 0 rfl rfl 12 (by decide) (hw _ w624) (fun _ h9 => h9) rfl dM_begin_52 ?_
  refine lv_iload_n hx hb dM_begin_55 rfl (lv_at hl 1 rfl) ?_
  refine lv_iconst (v := 1) hx hb dM_begin_56 (by decide) ?_
  refine va_zast hx hb hK hP hD hS 1 1 rfl rfl (tv_in (by decide +kernel)) dM_begin_57 (fun H locs hP hD hS => ?_)
  have hP : va_P (dC, dI) vwC [(m0, .inr (4, [.int 0, .ref md, .int 0, .int (-1), .int 0, .ref mh, .ref mn, .ref mc, .int 0, .int 1, .int 0, .int 0, .ref mo, .ref mb, .ref mk, .ref ml, .ref ms, .ref mw])), (mo, .inl (cZ, 3, .inl (upd (fun _ => 0) (0 : Int32).toNatClampNeg (vp_nar .boolean 1)))), (mb, .inl (cI, 3, .inl (fun _ => 0))), (mk, .inl (cZ, 192, .inl (fun _ => 0))), (mh, .inl (cZ, 64, .inl (fun _ => 0))), (ml, .inl (cI, 192, .inl (fun _ => 0))), (mn, .inl (cI, 64, .inl (fun _ => 0))), (ms, .inl (cI, 192, .inl (fun _ => 0)))] H := hP
  have hD : va_D A [(m0, .inr (4, [.int 0, .ref md, .int 0, .int (-1), .int 0, .ref mh, .ref mn, .ref mc, .int 0, .int 1, .int 0, .int 0, .ref mo, .ref mb, .ref mk, .ref ml, .ref ms, .ref mw])), (mo, .inl (cZ, 3, .inl (upd (fun _ => 0) (0 : Int32).toNatClampNeg (vp_nar .boolean 1)))), (mb, .inl (cI, 3, .inl (fun _ => 0))), (mk, .inl (cZ, 192, .inl (fun _ => 0))), (mh, .inl (cZ, 64, .inl (fun _ => 0))), (ml, .inl (cI, 192, .inl (fun _ => 0))), (mn, .inl (cI, 64, .inl (fun _ => 0))), (ms, .inl (cI, 192, .inl (fun _ => 0)))] := hD
  refine lv_aload_n hx hb dM_begin_58 rfl (lv_at hl 0 rfl) ?_
  refine va_get (D := (dC, dI)) (ci := 4) (v := .ref mb) (C := "LoggedStoreModel") (T := uM) (N := 18) hx hb hw inM hown hK hP 0 rfl rfl 13 (by decide) (hw _ w625) (fun _ h9 => h9) rfl dM_begin_59 ?_
  refine lv_iload_n hx hb dM_begin_62 rfl (lv_at hl 1 rfl) ?_
  refine lv_aload_n hx hb dM_begin_63 rfl (lv_at hl 0 rfl) ?_
  refine va_get (D := (dC, dI)) (ci := 4) (v := .int 0) (C := "LoggedStoreModel") (T := uM) (N := 18) hx hb hw inM hown hK hP 0 rfl rfl 8 (by decide) (hw _ w620) (fun _ h9 => h9) rfl dM_begin_64 ?_
  refine va_iast hx hb hK hP hD hS 2 0 rfl rfl (tv_in (by decide +kernel)) dM_begin_67 (fun H locs hP hD hS => ?_)
  have hP : va_P (dC, dI) vwC [(m0, .inr (4, [.int 0, .ref md, .int 0, .int (-1), .int 0, .ref mh, .ref mn, .ref mc, .int 0, .int 1, .int 0, .int 0, .ref mo, .ref mb, .ref mk, .ref ml, .ref ms, .ref mw])), (mo, .inl (cZ, 3, .inl (upd (fun _ => 0) (0 : Int32).toNatClampNeg (vp_nar .boolean 1)))), (mb, .inl (cI, 3, .inl (upd (fun _ => 0) (0 : Int32).toNatClampNeg 0))), (mk, .inl (cZ, 192, .inl (fun _ => 0))), (mh, .inl (cZ, 64, .inl (fun _ => 0))), (ml, .inl (cI, 192, .inl (fun _ => 0))), (mn, .inl (cI, 64, .inl (fun _ => 0))), (ms, .inl (cI, 192, .inl (fun _ => 0)))] H := hP
  have hD : va_D A [(m0, .inr (4, [.int 0, .ref md, .int 0, .int (-1), .int 0, .ref mh, .ref mn, .ref mc, .int 0, .int 1, .int 0, .int 0, .ref mo, .ref mb, .ref mk, .ref ml, .ref ms, .ref mw])), (mo, .inl (cZ, 3, .inl (upd (fun _ => 0) (0 : Int32).toNatClampNeg (vp_nar .boolean 1)))), (mb, .inl (cI, 3, .inl (upd (fun _ => 0) (0 : Int32).toNatClampNeg 0))), (mk, .inl (cZ, 192, .inl (fun _ => 0))), (mh, .inl (cZ, 64, .inl (fun _ => 0))), (ml, .inl (cI, 192, .inl (fun _ => 0))), (mn, .inl (cI, 64, .inl (fun _ => 0))), (ms, .inl (cI, 192, .inl (fun _ => 0)))] := hD
  refine lv_iconst (v := 0) hx hb dM_begin_68 (by decide) ?_
  refine lv_istore_n hx hb dM_begin_69 rfl hl (by decide) rfl (fun ls hl => ?_)
  have hl : lv_has ls 3 [(2, .int 0), (0, .ref m0), (1, .int 0)] := hl
  refine tk_forW (nL := 3) (D := (dC, dI)) (cl := vwC) (A := A) (H0 := s.heap) (σ := (Nat → Int32) × (Nat → Int32) × (Nat → Int32)) (G := fun ls H locs => W p l e _ s m _ below meth c H locs _ _ _ (F0 m 70 ls [])) (fun i => [(2, .int (nI i)), (0, .ref m0), (1, .int 0)]) (fun z => [(m0, .inr (4, [.int 0, .ref md, .int 0, .int (-1), .int 0, .ref mh, .ref mn, .ref mc, .int 0, .int 1, .int 0, .int 0, .ref mo, .ref mb, .ref mk, .ref ml, .ref ms, .ref mw])), (mo, .inl (cZ, 3, .inl (upd (fun _ => 0) (0 : Int32).toNatClampNeg (vp_nar .boolean 1)))), (mb, .inl (cI, 3, .inl (upd (fun _ => 0) (0 : Int32).toNatClampNeg 0))), (mk, .inl (cZ, 192, .inl z.1)), (mh, .inl (cZ, 64, .inl (fun _ => 0))), (ml, .inl (cI, 192, .inl z.2.1)), (mn, .inl (cI, 64, .inl (fun _ => 0))), (ms, .inl (cI, 192, .inl z.2.2))]) 64 ?_ ?_ (fun _ => 0, fun _ => 0, fun _ => 0) ls H locs hl hP hD hS
  · intro z ls H locs hl hP hD hS
    have hl : lv_has ls 3 [(2, .int (nI 64)), (0, .ref m0), (1, .int 0)] := hl
    have hP : va_P (dC, dI) vwC [(m0, .inr (4, [.int 0, .ref md, .int 0, .int (-1), .int 0, .ref mh, .ref mn, .ref mc, .int 0, .int 1, .int 0, .int 0, .ref mo, .ref mb, .ref mk, .ref ml, .ref ms, .ref mw])), (mo, .inl (cZ, 3, .inl (upd (fun _ => 0) (0 : Int32).toNatClampNeg (vp_nar .boolean 1)))), (mb, .inl (cI, 3, .inl (upd (fun _ => 0) (0 : Int32).toNatClampNeg 0))), (mk, .inl (cZ, 192, .inl z.1)), (mh, .inl (cZ, 64, .inl (fun _ => 0))), (ml, .inl (cI, 192, .inl z.2.1)), (mn, .inl (cI, 64, .inl (fun _ => 0))), (ms, .inl (cI, 192, .inl z.2.2))] H := hP
    have hD : va_D A [(m0, .inr (4, [.int 0, .ref md, .int 0, .int (-1), .int 0, .ref mh, .ref mn, .ref mc, .int 0, .int 1, .int 0, .int 0, .ref mo, .ref mb, .ref mk, .ref ml, .ref ms, .ref mw])), (mo, .inl (cZ, 3, .inl (upd (fun _ => 0) (0 : Int32).toNatClampNeg (vp_nar .boolean 1)))), (mb, .inl (cI, 3, .inl (upd (fun _ => 0) (0 : Int32).toNatClampNeg 0))), (mk, .inl (cZ, 192, .inl z.1)), (mh, .inl (cZ, 64, .inl (fun _ => 0))), (ml, .inl (cI, 192, .inl z.2.1)), (mn, .inl (cI, 64, .inl (fun _ => 0))), (ms, .inl (cI, 192, .inl z.2.2))] := hD
    refine lv_iload_n hx hb dM_begin_70 rfl (lv_at hl 0 rfl) ?_
    refine lv_bipush (v := 64) hx hb dM_begin_71 (by decide) ?_
    refine lv_icmp_ge (tgt := 128) hx hb dM_begin_73 (by decide) (fun _ => ?_) (fun h9 => absurd (by decide +kernel) h9)
    refine lv_aload_n hx hb dM_begin_128 rfl (lv_at hl 1 rfl) ?_
    refine va_get (D := (dC, dI)) (ci := 4) (v := .int 0) (C := "LoggedStoreModel") (T := uM) (N := 18) hx hb hw inM hown hK hP 0 rfl rfl 8 (by decide) (hw _ w620) (fun _ h9 => h9) rfl dM_begin_129 ?_
    have hP9 := hP.sub (ws' := [(m0, .inr (4, [.int 0, .ref md, .int 0, .int (-1), .int 0, .ref mh, .ref mn, .ref mc, .int 0, .int 1, .int 0, .int 0, .ref mo, .ref mb, .ref mk, .ref ml, .ref ms, .ref mw]))]) [0] rfl
    have hD9 := hD.sub (ws' := [(m0, .inr (4, [.int 0, .ref md, .int 0, .int (-1), .int 0, .ref mh, .ref mn, .ref mc, .int 0, .int 1, .int 0, .int 0, .ref mo, .ref mb, .ref mk, .ref ml, .ref ms, .ref mw]))]) [0] (by decide) rfl
    refine W.widen (k := 0) (n := 0) (by decide) (by decide) ?_
    exact W.iret (v := 0) hx hb hr (fun t ht hW => ⟨⟨0, fun _ => 0, rfl, rfl, by rw [ht]; exact hP9, hD9⟩, hS.F ht⟩) hS.2.2 dM_begin_132
  · intro i hi z ls H locs hl hP hD hS ih
    have hl : lv_has ls 3 [(2, .int (nI i)), (0, .ref m0), (1, .int 0)] := hl
    have hP : va_P (dC, dI) vwC [(m0, .inr (4, [.int 0, .ref md, .int 0, .int (-1), .int 0, .ref mh, .ref mn, .ref mc, .int 0, .int 1, .int 0, .int 0, .ref mo, .ref mb, .ref mk, .ref ml, .ref ms, .ref mw])), (mo, .inl (cZ, 3, .inl (upd (fun _ => 0) (0 : Int32).toNatClampNeg (vp_nar .boolean 1)))), (mb, .inl (cI, 3, .inl (upd (fun _ => 0) (0 : Int32).toNatClampNeg 0))), (mk, .inl (cZ, 192, .inl z.1)), (mh, .inl (cZ, 64, .inl (fun _ => 0))), (ml, .inl (cI, 192, .inl z.2.1)), (mn, .inl (cI, 64, .inl (fun _ => 0))), (ms, .inl (cI, 192, .inl z.2.2))] H := hP
    have hD : va_D A [(m0, .inr (4, [.int 0, .ref md, .int 0, .int (-1), .int 0, .ref mh, .ref mn, .ref mc, .int 0, .int 1, .int 0, .int 0, .ref mo, .ref mb, .ref mk, .ref ml, .ref ms, .ref mw])), (mo, .inl (cZ, 3, .inl (upd (fun _ => 0) (0 : Int32).toNatClampNeg (vp_nar .boolean 1)))), (mb, .inl (cI, 3, .inl (upd (fun _ => 0) (0 : Int32).toNatClampNeg 0))), (mk, .inl (cZ, 192, .inl z.1)), (mh, .inl (cZ, 64, .inl (fun _ => 0))), (ml, .inl (cI, 192, .inl z.2.1)), (mn, .inl (cI, 64, .inl (fun _ => 0))), (ms, .inl (cI, 192, .inl z.2.2))] := hD
    refine lv_iload_n hx hb dM_begin_70 rfl (lv_at hl 0 rfl) ?_
    refine lv_bipush (v := 64) hx hb dM_begin_71 (by decide) ?_
    refine lv_icmp_ge (tgt := 128) hx hb dM_begin_73 (by decide) (fun h9 => absurd h9 (nI_ge hi (by decide))) (fun _ => ?_)
    refine lv_aload_n hx hb dM_begin_76 rfl (lv_at hl 1 rfl) ?_
    refine va_get (D := (dC, dI)) (ci := 4) (v := .ref mk) (C := "LoggedStoreModel") (T := uM) (N := 18) hx hb hw inM hown hK hP 0 rfl rfl 14 (by decide) (hw _ w626) (fun _ h9 => h9) rfl dM_begin_77 ?_
    refine lv_bipush (v := 64) hx hb dM_begin_80 (by decide) ?_
    refine lv_iload_n hx hb dM_begin_82 rfl (lv_at hl 2 rfl) ?_
    refine lv_imul hx hb dM_begin_83 ?_
    refine lv_topi (nm_r (e' := 0) (by decide +kernel) ?_)
    refine lv_iload_n hx hb dM_begin_84 rfl (lv_at hl 0 rfl) ?_
    refine lv_iadd hx hb dM_begin_85 ?_
    refine lv_aload_n hx hb dM_begin_86 rfl (lv_at hl 1 rfl) ?_
    refine va_get (D := (dC, dI)) (ci := 4) (v := .ref mh) (C := "LoggedStoreModel") (T := uM) (N := 18) hx hb hw inM hown hK hP 0 rfl rfl 5 (by decide) (hw _ w617) (fun _ h9 => h9) rfl dM_begin_87 ?_
    refine lv_iload_n hx hb dM_begin_90 rfl (lv_at hl 0 rfl) ?_
    refine va_zald hx hb hK hP 4 1 rfl rfl (vp_in_nI hi (by decide)) dM_begin_91 ?_
    refine lv_topi (nm_r (e' := 0) (rfl) ?_)
    refine va_zast hx hb hK hP hD hS 3 1 rfl rfl (by rw [show (0 : Int32) + nI i = nI (0 + i) from nI_add 0 i]; exact vp_in_nI (by omega) (by decide)) dM_begin_92 (fun H locs hP hD hS => ?_)
    have hP : va_P (dC, dI) vwC [(m0, .inr (4, [.int 0, .ref md, .int 0, .int (-1), .int 0, .ref mh, .ref mn, .ref mc, .int 0, .int 1, .int 0, .int 0, .ref mo, .ref mb, .ref mk, .ref ml, .ref ms, .ref mw])), (mo, .inl (cZ, 3, .inl (upd (fun _ => 0) (0 : Int32).toNatClampNeg (vp_nar .boolean 1)))), (mb, .inl (cI, 3, .inl (upd (fun _ => 0) (0 : Int32).toNatClampNeg 0))), (mk, .inl (cZ, 192, .inl (upd z.1 ((0 + (nI i)) : Int32).toNatClampNeg (vp_nar .boolean 0)))), (mh, .inl (cZ, 64, .inl (fun _ => 0))), (ml, .inl (cI, 192, .inl z.2.1)), (mn, .inl (cI, 64, .inl (fun _ => 0))), (ms, .inl (cI, 192, .inl z.2.2))] H := hP
    have hD : va_D A [(m0, .inr (4, [.int 0, .ref md, .int 0, .int (-1), .int 0, .ref mh, .ref mn, .ref mc, .int 0, .int 1, .int 0, .int 0, .ref mo, .ref mb, .ref mk, .ref ml, .ref ms, .ref mw])), (mo, .inl (cZ, 3, .inl (upd (fun _ => 0) (0 : Int32).toNatClampNeg (vp_nar .boolean 1)))), (mb, .inl (cI, 3, .inl (upd (fun _ => 0) (0 : Int32).toNatClampNeg 0))), (mk, .inl (cZ, 192, .inl (upd z.1 ((0 + (nI i)) : Int32).toNatClampNeg (vp_nar .boolean 0)))), (mh, .inl (cZ, 64, .inl (fun _ => 0))), (ml, .inl (cI, 192, .inl z.2.1)), (mn, .inl (cI, 64, .inl (fun _ => 0))), (ms, .inl (cI, 192, .inl z.2.2))] := hD
    refine lv_aload_n hx hb dM_begin_93 rfl (lv_at hl 1 rfl) ?_
    refine va_get (D := (dC, dI)) (ci := 4) (v := .ref ml) (C := "LoggedStoreModel") (T := uM) (N := 18) hx hb hw inM hown hK hP 0 rfl rfl 15 (by decide) (hw _ w627) (fun _ h9 => h9) rfl dM_begin_94 ?_
    refine lv_bipush (v := 64) hx hb dM_begin_97 (by decide) ?_
    refine lv_iload_n hx hb dM_begin_99 rfl (lv_at hl 2 rfl) ?_
    refine lv_imul hx hb dM_begin_100 ?_
    refine lv_topi (nm_r (e' := 0) (by decide +kernel) ?_)
    refine lv_iload_n hx hb dM_begin_101 rfl (lv_at hl 0 rfl) ?_
    refine lv_iadd hx hb dM_begin_102 ?_
    refine lv_aload_n hx hb dM_begin_103 rfl (lv_at hl 1 rfl) ?_
    refine va_get (D := (dC, dI)) (ci := 4) (v := .ref mn) (C := "LoggedStoreModel") (T := uM) (N := 18) hx hb hw inM hown hK hP 0 rfl rfl 6 (by decide) (hw _ w618) (fun _ h9 => h9) rfl dM_begin_104 ?_
    refine lv_iload_n hx hb dM_begin_107 rfl (lv_at hl 0 rfl) ?_
    refine va_iald hx hb hK hP 6 0 rfl rfl (vp_in_nI hi (by decide)) dM_begin_108 ?_
    refine lv_topi (nm_r (e' := 0) (rfl) ?_)
    refine va_iast hx hb hK hP hD hS 5 0 rfl rfl (by rw [show (0 : Int32) + nI i = nI (0 + i) from nI_add 0 i]; exact vp_in_nI (by omega) (by decide)) dM_begin_109 (fun H locs hP hD hS => ?_)
    have hP : va_P (dC, dI) vwC [(m0, .inr (4, [.int 0, .ref md, .int 0, .int (-1), .int 0, .ref mh, .ref mn, .ref mc, .int 0, .int 1, .int 0, .int 0, .ref mo, .ref mb, .ref mk, .ref ml, .ref ms, .ref mw])), (mo, .inl (cZ, 3, .inl (upd (fun _ => 0) (0 : Int32).toNatClampNeg (vp_nar .boolean 1)))), (mb, .inl (cI, 3, .inl (upd (fun _ => 0) (0 : Int32).toNatClampNeg 0))), (mk, .inl (cZ, 192, .inl (upd z.1 ((0 + (nI i)) : Int32).toNatClampNeg (vp_nar .boolean 0)))), (mh, .inl (cZ, 64, .inl (fun _ => 0))), (ml, .inl (cI, 192, .inl (upd z.2.1 ((0 + (nI i)) : Int32).toNatClampNeg 0))), (mn, .inl (cI, 64, .inl (fun _ => 0))), (ms, .inl (cI, 192, .inl z.2.2))] H := hP
    have hD : va_D A [(m0, .inr (4, [.int 0, .ref md, .int 0, .int (-1), .int 0, .ref mh, .ref mn, .ref mc, .int 0, .int 1, .int 0, .int 0, .ref mo, .ref mb, .ref mk, .ref ml, .ref ms, .ref mw])), (mo, .inl (cZ, 3, .inl (upd (fun _ => 0) (0 : Int32).toNatClampNeg (vp_nar .boolean 1)))), (mb, .inl (cI, 3, .inl (upd (fun _ => 0) (0 : Int32).toNatClampNeg 0))), (mk, .inl (cZ, 192, .inl (upd z.1 ((0 + (nI i)) : Int32).toNatClampNeg (vp_nar .boolean 0)))), (mh, .inl (cZ, 64, .inl (fun _ => 0))), (ml, .inl (cI, 192, .inl (upd z.2.1 ((0 + (nI i)) : Int32).toNatClampNeg 0))), (mn, .inl (cI, 64, .inl (fun _ => 0))), (ms, .inl (cI, 192, .inl z.2.2))] := hD
    refine lv_aload_n hx hb dM_begin_110 rfl (lv_at hl 1 rfl) ?_
    refine va_get (D := (dC, dI)) (ci := 4) (v := .ref ms) (C := "LoggedStoreModel") (T := uM) (N := 18) hx hb hw inM hown hK hP 0 rfl rfl 16 (by decide) (hw _ w628) (fun _ h9 => h9) rfl dM_begin_111 ?_
    refine lv_bipush (v := 64) hx hb dM_begin_114 (by decide) ?_
    refine lv_iload_n hx hb dM_begin_116 rfl (lv_at hl 2 rfl) ?_
    refine lv_imul hx hb dM_begin_117 ?_
    refine lv_topi (nm_r (e' := 0) (by decide +kernel) ?_)
    refine lv_iload_n hx hb dM_begin_118 rfl (lv_at hl 0 rfl) ?_
    refine lv_iadd hx hb dM_begin_119 ?_
    refine lv_iconst (v := 0) hx hb dM_begin_120 (by decide) ?_
    refine va_iast hx hb hK hP hD hS 7 0 rfl rfl (by rw [show (0 : Int32) + nI i = nI (0 + i) from nI_add 0 i]; exact vp_in_nI (by omega) (by decide)) dM_begin_121 (fun H locs hP hD hS => ?_)
    have hP : va_P (dC, dI) vwC [(m0, .inr (4, [.int 0, .ref md, .int 0, .int (-1), .int 0, .ref mh, .ref mn, .ref mc, .int 0, .int 1, .int 0, .int 0, .ref mo, .ref mb, .ref mk, .ref ml, .ref ms, .ref mw])), (mo, .inl (cZ, 3, .inl (upd (fun _ => 0) (0 : Int32).toNatClampNeg (vp_nar .boolean 1)))), (mb, .inl (cI, 3, .inl (upd (fun _ => 0) (0 : Int32).toNatClampNeg 0))), (mk, .inl (cZ, 192, .inl (upd z.1 ((0 + (nI i)) : Int32).toNatClampNeg (vp_nar .boolean 0)))), (mh, .inl (cZ, 64, .inl (fun _ => 0))), (ml, .inl (cI, 192, .inl (upd z.2.1 ((0 + (nI i)) : Int32).toNatClampNeg 0))), (mn, .inl (cI, 64, .inl (fun _ => 0))), (ms, .inl (cI, 192, .inl (upd z.2.2 ((0 + (nI i)) : Int32).toNatClampNeg 0)))] H := hP
    have hD : va_D A [(m0, .inr (4, [.int 0, .ref md, .int 0, .int (-1), .int 0, .ref mh, .ref mn, .ref mc, .int 0, .int 1, .int 0, .int 0, .ref mo, .ref mb, .ref mk, .ref ml, .ref ms, .ref mw])), (mo, .inl (cZ, 3, .inl (upd (fun _ => 0) (0 : Int32).toNatClampNeg (vp_nar .boolean 1)))), (mb, .inl (cI, 3, .inl (upd (fun _ => 0) (0 : Int32).toNatClampNeg 0))), (mk, .inl (cZ, 192, .inl (upd z.1 ((0 + (nI i)) : Int32).toNatClampNeg (vp_nar .boolean 0)))), (mh, .inl (cZ, 64, .inl (fun _ => 0))), (ml, .inl (cI, 192, .inl (upd z.2.1 ((0 + (nI i)) : Int32).toNatClampNeg 0))), (mn, .inl (cI, 64, .inl (fun _ => 0))), (ms, .inl (cI, 192, .inl (upd z.2.2 ((0 + (nI i)) : Int32).toNatClampNeg 0)))] := hD
    refine lv_iinc (k := 0) (v := nI (i + 1)) hx hb dM_begin_122 hl rfl (nI_1 i) (by decide) rfl (fun ls hl => ?_)
    have hl : lv_has ls 3 [(2, .int (nI (i + 1))), (0, .ref m0), (1, .int 0)] := hl
    refine lv_goto (tgt := 70) hx hb dM_begin_125 (by decide) ?_
    exact ih (upd z.1 ((0 + (nI i)) : Int32).toNatClampNeg (vp_nar .boolean 0), upd z.2.1 ((0 + (nI i)) : Int32).toNatClampNeg 0, upd z.2.2 ((0 + (nI i)) : Int32).toNatClampNeg 0) ls H locs hl hP hD hS

set_option maxHeartbeats 4000000 in
set_option maxRecDepth 100000 in
theorem c_M_begin_1 (l : Launch) (dC : Nat → ClassId) (dI : Nat → Nat → Nat) (cI cZ cJ cT : ClassId) (m0 md mh mn mc mo mb mk ml ms mw : Nat) (sz : Nat) : Met l yM_begin (Cond.code yM_begin cM_begin 3 (some .int) :: wsA) ({ frames := 1, cells := 0, slots := 0, locals := 22 }) (va_Pc [.ref m0, .int 1] (fun U => U.heap.size = sz ∧ va_P (dC, dI) vwC [(m0, .inr (4, [.int 0, .ref md, .int 0, .int (-1), .int 0, .ref mh, .ref mn, .ref mc, .int 0, .int 1, .int 0, .int 0, .ref mo, .ref mb, .ref mk, .ref ml, .ref ms, .ref mw])), (mo, .inl (cZ, 3, .inl (fun _ => 0))), (mb, .inl (cI, 3, .inl (fun _ => 0))), (mk, .inl (cZ, 192, .inl (fun _ => 0))), (mh, .inl (cZ, 64, .inl (fun _ => 0))), (ml, .inl (cI, 192, .inl (fun _ => 0))), (mn, .inl (cI, 64, .inl (fun _ => 0))), (ms, .inl (cI, 192, .inl (fun _ => 0)))] U.heap ∧ KK dC dI cI cZ cJ cT U ∧ va_D (fun _ => True) [(m0, .inr (4, [.int 0, .ref md, .int 0, .int (-1), .int 0, .ref mh, .ref mn, .ref mc, .int 0, .int 1, .int 0, .int 0, .ref mo, .ref mb, .ref mk, .ref ml, .ref ms, .ref mw])), (mo, .inl (cZ, 3, .inl (fun _ => 0))), (mb, .inl (cI, 3, .inl (fun _ => 0))), (mk, .inl (cZ, 192, .inl (fun _ => 0))), (mh, .inl (cZ, 64, .inl (fun _ => 0))), (ml, .inl (cI, 192, .inl (fun _ => 0))), (mn, .inl (cI, 64, .inl (fun _ => 0))), (ms, .inl (cI, 192, .inl (fun _ => 0)))])) (va_Qi (S := Nat → Nat) (fun r _ => r = 0) (fun u t => va_P (dC, dI) vwC [(m0, .inr (4, [.int 0, .ref md, .int 0, .int (-1), .int 0, .ref mh, .ref mn, .ref mc, .int 0, .int 1, .int 0, .int 0, .ref mo, .ref mb, .ref mk, .ref ml, .ref ms, .ref mw]))] t.heap ∧ va_D (va_A [(m0, .inr (4, [.int 0, .ref md, .int 0, .int (-1), .int 0, .ref mh, .ref mn, .ref mc, .int 0, .int 1, .int 0, .int 0, .ref mo, .ref mb, .ref mk, .ref ml, .ref ms, .ref mw])), (mo, .inl (cZ, 3, .inl (fun _ => 0))), (mb, .inl (cI, 3, .inl (fun _ => 0))), (mk, .inl (cZ, 192, .inl (fun _ => 0))), (mh, .inl (cZ, 64, .inl (fun _ => 0))), (ml, .inl (cI, 192, .inl (fun _ => 0))), (mn, .inl (cI, 64, .inl (fun _ => 0))), (ms, .inl (cI, 192, .inl (fun _ => 0)))] sz) [(m0, .inr (4, [.int 0, .ref md, .int 0, .int (-1), .int 0, .ref mh, .ref mn, .ref mc, .int 0, .int 1, .int 0, .int 0, .ref mo, .ref mb, .ref mk, .ref ml, .ref ms, .ref mw]))]) (va_A [(m0, .inr (4, [.int 0, .ref md, .int 0, .int (-1), .int 0, .ref mh, .ref mn, .ref mc, .int 0, .int 1, .int 0, .int 0, .ref mo, .ref mb, .ref mk, .ref ml, .ref ms, .ref mw])), (mo, .inl (cZ, 3, .inl (fun _ => 0))), (mb, .inl (cI, 3, .inl (fun _ => 0))), (mk, .inl (cZ, 192, .inl (fun _ => 0))), (mh, .inl (cZ, 64, .inl (fun _ => 0))), (ml, .inl (cI, 192, .inl (fun _ => 0))), (mn, .inl (cI, 64, .inl (fun _ => 0))), (ms, .inl (cI, 192, .inl (fun _ => 0)))] sz)) 0 0 (va_A [(m0, .inr (4, [.int 0, .ref md, .int 0, .int (-1), .int 0, .ref mh, .ref mn, .ref mc, .int 0, .int 1, .int 0, .int 0, .ref mo, .ref mb, .ref mk, .ref ml, .ref ms, .ref mw])), (mo, .inl (cZ, 3, .inl (fun _ => 0))), (mb, .inl (cI, 3, .inl (fun _ => 0))), (mk, .inl (cZ, 192, .inl (fun _ => 0))), (mh, .inl (cZ, 64, .inl (fun _ => 0))), (ml, .inl (cI, 192, .inl (fun _ => 0))), (mn, .inl (cI, 64, .inl (fun _ => 0))), (ms, .inl (cI, 192, .inl (fun _ => 0)))] sz) := by
  refine Met.ofW (cc := cM_begin) (maxL := 3) (ret := (some .int)) (by decide) rfl ?_
  intro p e s m args below meth c s₁ B hml hv
  obtain ⟨rfl, hsz, hP, hKK, hD0⟩ := hv
  have hK := hKK.1
  have hx := B.exec
  have hb := B.bytes
  have hr := B.returns
  have hw : ∀ w ∈ wsA, w.before _ s = true := fun w h => atoms_spec (ws := (Cond.code yM_begin cM_begin 3 (some .int) :: wsA)) B.pre w (List.mem_cons_of_mem _ h)
  have hown : s.vm.findClass "LoggedStoreModel" = some m.cls := findClass_of_methodNamed B.named
  have hlocks := B.notSynchronized
  subst hsz
  have hD := hD0.self (sz := s.heap.size)
  generalize hAe : va_A [(m0, .inr (4, [.int 0, .ref md, .int 0, .int (-1), .int 0, .ref mh, .ref mn, .ref mc, .int 0, .int 1, .int 0, .int 0, .ref mo, .ref mb, .ref mk, .ref ml, .ref ms, .ref mw])), (mo, .inl (cZ, 3, .inl (fun _ => 0))), (mb, .inl (cI, 3, .inl (fun _ => 0))), (mk, .inl (cZ, 192, .inl (fun _ => 0))), (mh, .inl (cZ, 64, .inl (fun _ => 0))), (ml, .inl (cI, 192, .inl (fun _ => 0))), (mn, .inl (cI, 64, .inl (fun _ => 0))), (ms, .inl (cI, 192, .inl (fun _ => 0)))] s.heap.size = A at hD ⊢
  have hA : ∀ q : Nat, s.heap.size ≤ q → A q := fun q h => by rw [← hAe]; exact Or.inr h
  have hS : va_S A s.heap s.heap [] := va_S.rf
  have hl := lv_entry ([.ref m0, .int 1]) (n := 3) (Nat.le_of_ble_eq_true rfl)
  rw [lg_entry_eq]
  generalize (lg_sl ([.ref m0, .int 1]) ++ List.replicate (3 - (lg_sl ([.ref m0, .int 1])).length) Slot.unset).toArray = ls at hl ⊢
  have hl : lv_has ls 3 [(0, .ref m0), (1, .int 1)] := hl
  refine lv_aload_n hx hb dM_begin_0 rfl (lv_at hl 0 rfl) ?_
  refine lv_aload_n hx hb dM_begin_1 rfl (lv_at hl 0 rfl) ?_
  refine va_get (D := (dC, dI)) (ci := 4) (v := .int 0) (C := "LoggedStoreModel") (T := uM) (N := 18) hx hb hw inM hown hK hP 0 rfl rfl 2 (by decide) (hw _ w614) (fun _ h9 => h9) rfl dM_begin_2 ?_
  refine lv_if_eq (tgt := 12) hx hb dM_begin_5 (by decide) (fun _ => ?_) (fun h9 => absurd (by decide) h9)
  refine lv_iload_n hx hb dM_begin_12 rfl (lv_at hl 1 rfl) ?_
  refine lv_iconst (v := 0) hx hb dM_begin_13 (by decide) ?_
  refine lv_iconst (v := 2) hx hb dM_begin_14 (by decide) ?_
  have hPc := hP.sub (ws' := []) [] rfl
  refine vp_callSi (W.runS (As := [.int 1, .int 0, .int 2]) (rest := [.ref m0]) ⟨hx, hb, hml, hown, hw⟩ (c_within_t l dC dI cI cZ cJ cT 1 0 2 (by decide) (by decide)) ⟨callB_of 3 hw (gA0 w677) rfl rfl rfl (hw _ w45) (hw _ w675) (by decide +kernel) ⟨Nat.le_of_ble_eq_true rfl, Nat.le_of_ble_eq_true rfl⟩, (hw _ w676)⟩ ⟨kb_S, fun U hU hW => ⟨rfl, by rw [hU]; exact hPc, hKK.moved hW⟩⟩ rfl rfl hl.1 rfl (lv_room (Nat.le_of_ble_eq_true rfl)) dM_begin_15 ⟨Nat.le_of_ble_eq_true rfl, Nat.le_of_ble_eq_true rfl⟩) (fun r1 e2 => ?_)
  obtain rfl : r1 = 1 := e2
  refine lv_if_ne (tgt := 25) hx hb dM_begin_18 (by decide) (fun _ => ?_) (fun h9 => absurd h9 (by decide))
  refine lv_aload_n hx hb dM_begin_25 rfl (lv_at hl 0 rfl) ?_
  refine va_get (D := (dC, dI)) (ci := 4) (v := .ref mo) (C := "LoggedStoreModel") (T := uM) (N := 18) hx hb hw inM hown hK hP 0 rfl rfl 12 (by decide) (hw _ w624) (fun _ h9 => h9) rfl dM_begin_26 ?_
  refine lv_iload_n hx hb dM_begin_29 rfl (lv_at hl 1 rfl) ?_
  refine va_zald hx hb hK hP 1 1 rfl rfl (tv_in (by decide +kernel)) dM_begin_30 ?_
  refine lv_topi (nm_r (e' := 0) (rfl) ?_)
  refine lv_if_eq (tgt := 38) hx hb dM_begin_31 (by decide) (fun _ => ?_) (fun h9 => absurd (by decide) h9)
  refine lv_iconst (v := 0) hx hb dM_begin_38 (by decide) ?_
  refine va_put (D := (dC, dI)) (ci := 4) (v := .int 0) (ty := .int) (C := "LoggedStoreModel") (T := uM) (N := 18) hx hb hw inM tyM tyM_ok nmM hown hK hP hD hS 0 rfl rfl 0 (by decide) (hw _ w612) (fun _ h9 => h9) rfl (by decide +kernel) rfl rfl (Nat.le_of_ble_eq_true rfl) dM_begin_39 (fun H locs hP hD hS => ?_)
  have hP : va_P (dC, dI) vwC [(m0, .inr (4, [.int 0, .ref md, .int 0, .int (-1), .int 0, .ref mh, .ref mn, .ref mc, .int 0, .int 1, .int 0, .int 0, .ref mo, .ref mb, .ref mk, .ref ml, .ref ms, .ref mw])), (mo, .inl (cZ, 3, .inl (fun _ => 0))), (mb, .inl (cI, 3, .inl (fun _ => 0))), (mk, .inl (cZ, 192, .inl (fun _ => 0))), (mh, .inl (cZ, 64, .inl (fun _ => 0))), (ml, .inl (cI, 192, .inl (fun _ => 0))), (mn, .inl (cI, 64, .inl (fun _ => 0))), (ms, .inl (cI, 192, .inl (fun _ => 0)))] H := hP
  have hD : va_D A [(m0, .inr (4, [.int 0, .ref md, .int 0, .int (-1), .int 0, .ref mh, .ref mn, .ref mc, .int 0, .int 1, .int 0, .int 0, .ref mo, .ref mb, .ref mk, .ref ml, .ref ms, .ref mw])), (mo, .inl (cZ, 3, .inl (fun _ => 0))), (mb, .inl (cI, 3, .inl (fun _ => 0))), (mk, .inl (cZ, 192, .inl (fun _ => 0))), (mh, .inl (cZ, 64, .inl (fun _ => 0))), (ml, .inl (cI, 192, .inl (fun _ => 0))), (mn, .inl (cI, 64, .inl (fun _ => 0))), (ms, .inl (cI, 192, .inl (fun _ => 0)))] := hD
  refine lv_aload_n hx hb dM_begin_42 rfl (lv_at hl 0 rfl) ?_
  refine va_get (D := (dC, dI)) (ci := 4) (v := .int 0) (C := "LoggedStoreModel") (T := uM) (N := 18) hx hb hw inM hown hK hP 0 rfl rfl 0 (by decide) (hw _ w612) (fun _ h9 => h9) rfl dM_begin_43 ?_
  refine lv_if_le (tgt := 51) hx hb dM_begin_46 (by decide) (fun _ => ?_) (fun h9 => absurd (by decide) h9)
  refine lv_aload_n hx hb dM_begin_51 rfl (lv_at hl 0 rfl) ?_
  refine va_get (D := (dC, dI)) (ci := 4) (v := .ref mo) (C := "LoggedStoreModel") (T := uM) (N := 18) hx hb hw inM hown hK hP 0 rfl rfl 12 (by decide) (hw _ w624) (fun _ h9 => h9) rfl dM_begin_52 ?_
  refine lv_iload_n hx hb dM_begin_55 rfl (lv_at hl 1 rfl) ?_
  refine lv_iconst (v := 1) hx hb dM_begin_56 (by decide) ?_
  refine va_zast hx hb hK hP hD hS 1 1 rfl rfl (tv_in (by decide +kernel)) dM_begin_57 (fun H locs hP hD hS => ?_)
  have hP : va_P (dC, dI) vwC [(m0, .inr (4, [.int 0, .ref md, .int 0, .int (-1), .int 0, .ref mh, .ref mn, .ref mc, .int 0, .int 1, .int 0, .int 0, .ref mo, .ref mb, .ref mk, .ref ml, .ref ms, .ref mw])), (mo, .inl (cZ, 3, .inl (upd (fun _ => 0) (1 : Int32).toNatClampNeg (vp_nar .boolean 1)))), (mb, .inl (cI, 3, .inl (fun _ => 0))), (mk, .inl (cZ, 192, .inl (fun _ => 0))), (mh, .inl (cZ, 64, .inl (fun _ => 0))), (ml, .inl (cI, 192, .inl (fun _ => 0))), (mn, .inl (cI, 64, .inl (fun _ => 0))), (ms, .inl (cI, 192, .inl (fun _ => 0)))] H := hP
  have hD : va_D A [(m0, .inr (4, [.int 0, .ref md, .int 0, .int (-1), .int 0, .ref mh, .ref mn, .ref mc, .int 0, .int 1, .int 0, .int 0, .ref mo, .ref mb, .ref mk, .ref ml, .ref ms, .ref mw])), (mo, .inl (cZ, 3, .inl (upd (fun _ => 0) (1 : Int32).toNatClampNeg (vp_nar .boolean 1)))), (mb, .inl (cI, 3, .inl (fun _ => 0))), (mk, .inl (cZ, 192, .inl (fun _ => 0))), (mh, .inl (cZ, 64, .inl (fun _ => 0))), (ml, .inl (cI, 192, .inl (fun _ => 0))), (mn, .inl (cI, 64, .inl (fun _ => 0))), (ms, .inl (cI, 192, .inl (fun _ => 0)))] := hD
  refine lv_aload_n hx hb dM_begin_58 rfl (lv_at hl 0 rfl) ?_
  refine va_get (D := (dC, dI)) (ci := 4) (v := .ref mb) (C := "LoggedStoreModel") (T := uM) (N := 18) hx hb hw inM hown hK hP 0 rfl rfl 13 (by decide) (hw _ w625) (fun _ h9 => h9) rfl dM_begin_59 ?_
  refine lv_iload_n hx hb dM_begin_62 rfl (lv_at hl 1 rfl) ?_
  refine lv_aload_n hx hb dM_begin_63 rfl (lv_at hl 0 rfl) ?_
  refine va_get (D := (dC, dI)) (ci := 4) (v := .int 0) (C := "LoggedStoreModel") (T := uM) (N := 18) hx hb hw inM hown hK hP 0 rfl rfl 8 (by decide) (hw _ w620) (fun _ h9 => h9) rfl dM_begin_64 ?_
  refine va_iast hx hb hK hP hD hS 2 0 rfl rfl (tv_in (by decide +kernel)) dM_begin_67 (fun H locs hP hD hS => ?_)
  have hP : va_P (dC, dI) vwC [(m0, .inr (4, [.int 0, .ref md, .int 0, .int (-1), .int 0, .ref mh, .ref mn, .ref mc, .int 0, .int 1, .int 0, .int 0, .ref mo, .ref mb, .ref mk, .ref ml, .ref ms, .ref mw])), (mo, .inl (cZ, 3, .inl (upd (fun _ => 0) (1 : Int32).toNatClampNeg (vp_nar .boolean 1)))), (mb, .inl (cI, 3, .inl (upd (fun _ => 0) (1 : Int32).toNatClampNeg 0))), (mk, .inl (cZ, 192, .inl (fun _ => 0))), (mh, .inl (cZ, 64, .inl (fun _ => 0))), (ml, .inl (cI, 192, .inl (fun _ => 0))), (mn, .inl (cI, 64, .inl (fun _ => 0))), (ms, .inl (cI, 192, .inl (fun _ => 0)))] H := hP
  have hD : va_D A [(m0, .inr (4, [.int 0, .ref md, .int 0, .int (-1), .int 0, .ref mh, .ref mn, .ref mc, .int 0, .int 1, .int 0, .int 0, .ref mo, .ref mb, .ref mk, .ref ml, .ref ms, .ref mw])), (mo, .inl (cZ, 3, .inl (upd (fun _ => 0) (1 : Int32).toNatClampNeg (vp_nar .boolean 1)))), (mb, .inl (cI, 3, .inl (upd (fun _ => 0) (1 : Int32).toNatClampNeg 0))), (mk, .inl (cZ, 192, .inl (fun _ => 0))), (mh, .inl (cZ, 64, .inl (fun _ => 0))), (ml, .inl (cI, 192, .inl (fun _ => 0))), (mn, .inl (cI, 64, .inl (fun _ => 0))), (ms, .inl (cI, 192, .inl (fun _ => 0)))] := hD
  refine lv_iconst (v := 0) hx hb dM_begin_68 (by decide) ?_
  refine lv_istore_n hx hb dM_begin_69 rfl hl (by decide) rfl (fun ls hl => ?_)
  have hl : lv_has ls 3 [(2, .int 0), (0, .ref m0), (1, .int 1)] := hl
  refine tk_forW (nL := 3) (D := (dC, dI)) (cl := vwC) (A := A) (H0 := s.heap) (σ := (Nat → Int32) × (Nat → Int32) × (Nat → Int32)) (G := fun ls H locs => W p l e _ s m _ below meth c H locs _ _ _ (F0 m 70 ls [])) (fun i => [(2, .int (nI i)), (0, .ref m0), (1, .int 1)]) (fun z => [(m0, .inr (4, [.int 0, .ref md, .int 0, .int (-1), .int 0, .ref mh, .ref mn, .ref mc, .int 0, .int 1, .int 0, .int 0, .ref mo, .ref mb, .ref mk, .ref ml, .ref ms, .ref mw])), (mo, .inl (cZ, 3, .inl (upd (fun _ => 0) (1 : Int32).toNatClampNeg (vp_nar .boolean 1)))), (mb, .inl (cI, 3, .inl (upd (fun _ => 0) (1 : Int32).toNatClampNeg 0))), (mk, .inl (cZ, 192, .inl z.1)), (mh, .inl (cZ, 64, .inl (fun _ => 0))), (ml, .inl (cI, 192, .inl z.2.1)), (mn, .inl (cI, 64, .inl (fun _ => 0))), (ms, .inl (cI, 192, .inl z.2.2))]) 64 ?_ ?_ (fun _ => 0, fun _ => 0, fun _ => 0) ls H locs hl hP hD hS
  · intro z ls H locs hl hP hD hS
    have hl : lv_has ls 3 [(2, .int (nI 64)), (0, .ref m0), (1, .int 1)] := hl
    have hP : va_P (dC, dI) vwC [(m0, .inr (4, [.int 0, .ref md, .int 0, .int (-1), .int 0, .ref mh, .ref mn, .ref mc, .int 0, .int 1, .int 0, .int 0, .ref mo, .ref mb, .ref mk, .ref ml, .ref ms, .ref mw])), (mo, .inl (cZ, 3, .inl (upd (fun _ => 0) (1 : Int32).toNatClampNeg (vp_nar .boolean 1)))), (mb, .inl (cI, 3, .inl (upd (fun _ => 0) (1 : Int32).toNatClampNeg 0))), (mk, .inl (cZ, 192, .inl z.1)), (mh, .inl (cZ, 64, .inl (fun _ => 0))), (ml, .inl (cI, 192, .inl z.2.1)), (mn, .inl (cI, 64, .inl (fun _ => 0))), (ms, .inl (cI, 192, .inl z.2.2))] H := hP
    have hD : va_D A [(m0, .inr (4, [.int 0, .ref md, .int 0, .int (-1), .int 0, .ref mh, .ref mn, .ref mc, .int 0, .int 1, .int 0, .int 0, .ref mo, .ref mb, .ref mk, .ref ml, .ref ms, .ref mw])), (mo, .inl (cZ, 3, .inl (upd (fun _ => 0) (1 : Int32).toNatClampNeg (vp_nar .boolean 1)))), (mb, .inl (cI, 3, .inl (upd (fun _ => 0) (1 : Int32).toNatClampNeg 0))), (mk, .inl (cZ, 192, .inl z.1)), (mh, .inl (cZ, 64, .inl (fun _ => 0))), (ml, .inl (cI, 192, .inl z.2.1)), (mn, .inl (cI, 64, .inl (fun _ => 0))), (ms, .inl (cI, 192, .inl z.2.2))] := hD
    refine lv_iload_n hx hb dM_begin_70 rfl (lv_at hl 0 rfl) ?_
    refine lv_bipush (v := 64) hx hb dM_begin_71 (by decide) ?_
    refine lv_icmp_ge (tgt := 128) hx hb dM_begin_73 (by decide) (fun _ => ?_) (fun h9 => absurd (by decide +kernel) h9)
    refine lv_aload_n hx hb dM_begin_128 rfl (lv_at hl 1 rfl) ?_
    refine va_get (D := (dC, dI)) (ci := 4) (v := .int 0) (C := "LoggedStoreModel") (T := uM) (N := 18) hx hb hw inM hown hK hP 0 rfl rfl 8 (by decide) (hw _ w620) (fun _ h9 => h9) rfl dM_begin_129 ?_
    have hP9 := hP.sub (ws' := [(m0, .inr (4, [.int 0, .ref md, .int 0, .int (-1), .int 0, .ref mh, .ref mn, .ref mc, .int 0, .int 1, .int 0, .int 0, .ref mo, .ref mb, .ref mk, .ref ml, .ref ms, .ref mw]))]) [0] rfl
    have hD9 := hD.sub (ws' := [(m0, .inr (4, [.int 0, .ref md, .int 0, .int (-1), .int 0, .ref mh, .ref mn, .ref mc, .int 0, .int 1, .int 0, .int 0, .ref mo, .ref mb, .ref mk, .ref ml, .ref ms, .ref mw]))]) [0] (by decide) rfl
    refine W.widen (k := 0) (n := 0) (by decide) (by decide) ?_
    exact W.iret (v := 0) hx hb hr (fun t ht hW => ⟨⟨0, fun _ => 0, rfl, rfl, by rw [ht]; exact hP9, hD9⟩, hS.F ht⟩) hS.2.2 dM_begin_132
  · intro i hi z ls H locs hl hP hD hS ih
    have hl : lv_has ls 3 [(2, .int (nI i)), (0, .ref m0), (1, .int 1)] := hl
    have hP : va_P (dC, dI) vwC [(m0, .inr (4, [.int 0, .ref md, .int 0, .int (-1), .int 0, .ref mh, .ref mn, .ref mc, .int 0, .int 1, .int 0, .int 0, .ref mo, .ref mb, .ref mk, .ref ml, .ref ms, .ref mw])), (mo, .inl (cZ, 3, .inl (upd (fun _ => 0) (1 : Int32).toNatClampNeg (vp_nar .boolean 1)))), (mb, .inl (cI, 3, .inl (upd (fun _ => 0) (1 : Int32).toNatClampNeg 0))), (mk, .inl (cZ, 192, .inl z.1)), (mh, .inl (cZ, 64, .inl (fun _ => 0))), (ml, .inl (cI, 192, .inl z.2.1)), (mn, .inl (cI, 64, .inl (fun _ => 0))), (ms, .inl (cI, 192, .inl z.2.2))] H := hP
    have hD : va_D A [(m0, .inr (4, [.int 0, .ref md, .int 0, .int (-1), .int 0, .ref mh, .ref mn, .ref mc, .int 0, .int 1, .int 0, .int 0, .ref mo, .ref mb, .ref mk, .ref ml, .ref ms, .ref mw])), (mo, .inl (cZ, 3, .inl (upd (fun _ => 0) (1 : Int32).toNatClampNeg (vp_nar .boolean 1)))), (mb, .inl (cI, 3, .inl (upd (fun _ => 0) (1 : Int32).toNatClampNeg 0))), (mk, .inl (cZ, 192, .inl z.1)), (mh, .inl (cZ, 64, .inl (fun _ => 0))), (ml, .inl (cI, 192, .inl z.2.1)), (mn, .inl (cI, 64, .inl (fun _ => 0))), (ms, .inl (cI, 192, .inl z.2.2))] := hD
    refine lv_iload_n hx hb dM_begin_70 rfl (lv_at hl 0 rfl) ?_
    refine lv_bipush (v := 64) hx hb dM_begin_71 (by decide) ?_
    refine lv_icmp_ge (tgt := 128) hx hb dM_begin_73 (by decide) (fun h9 => absurd h9 (nI_ge hi (by decide))) (fun _ => ?_)
    refine lv_aload_n hx hb dM_begin_76 rfl (lv_at hl 1 rfl) ?_
    refine va_get (D := (dC, dI)) (ci := 4) (v := .ref mk) (C := "LoggedStoreModel") (T := uM) (N := 18) hx hb hw inM hown hK hP 0 rfl rfl 14 (by decide) (hw _ w626) (fun _ h9 => h9) rfl dM_begin_77 ?_
    refine lv_bipush (v := 64) hx hb dM_begin_80 (by decide) ?_
    refine lv_iload_n hx hb dM_begin_82 rfl (lv_at hl 2 rfl) ?_
    refine lv_imul hx hb dM_begin_83 ?_
    refine lv_topi (nm_r (e' := 64) (by decide +kernel) ?_)
    refine lv_iload_n hx hb dM_begin_84 rfl (lv_at hl 0 rfl) ?_
    refine lv_iadd hx hb dM_begin_85 ?_
    refine lv_aload_n hx hb dM_begin_86 rfl (lv_at hl 1 rfl) ?_
    refine va_get (D := (dC, dI)) (ci := 4) (v := .ref mh) (C := "LoggedStoreModel") (T := uM) (N := 18) hx hb hw inM hown hK hP 0 rfl rfl 5 (by decide) (hw _ w617) (fun _ h9 => h9) rfl dM_begin_87 ?_
    refine lv_iload_n hx hb dM_begin_90 rfl (lv_at hl 0 rfl) ?_
    refine va_zald hx hb hK hP 4 1 rfl rfl (vp_in_nI hi (by decide)) dM_begin_91 ?_
    refine lv_topi (nm_r (e' := 0) (rfl) ?_)
    refine va_zast hx hb hK hP hD hS 3 1 rfl rfl (by rw [show (64 : Int32) + nI i = nI (64 + i) from nI_add 64 i]; exact vp_in_nI (by omega) (by decide)) dM_begin_92 (fun H locs hP hD hS => ?_)
    have hP : va_P (dC, dI) vwC [(m0, .inr (4, [.int 0, .ref md, .int 0, .int (-1), .int 0, .ref mh, .ref mn, .ref mc, .int 0, .int 1, .int 0, .int 0, .ref mo, .ref mb, .ref mk, .ref ml, .ref ms, .ref mw])), (mo, .inl (cZ, 3, .inl (upd (fun _ => 0) (1 : Int32).toNatClampNeg (vp_nar .boolean 1)))), (mb, .inl (cI, 3, .inl (upd (fun _ => 0) (1 : Int32).toNatClampNeg 0))), (mk, .inl (cZ, 192, .inl (upd z.1 ((64 + (nI i)) : Int32).toNatClampNeg (vp_nar .boolean 0)))), (mh, .inl (cZ, 64, .inl (fun _ => 0))), (ml, .inl (cI, 192, .inl z.2.1)), (mn, .inl (cI, 64, .inl (fun _ => 0))), (ms, .inl (cI, 192, .inl z.2.2))] H := hP
    have hD : va_D A [(m0, .inr (4, [.int 0, .ref md, .int 0, .int (-1), .int 0, .ref mh, .ref mn, .ref mc, .int 0, .int 1, .int 0, .int 0, .ref mo, .ref mb, .ref mk, .ref ml, .ref ms, .ref mw])), (mo, .inl (cZ, 3, .inl (upd (fun _ => 0) (1 : Int32).toNatClampNeg (vp_nar .boolean 1)))), (mb, .inl (cI, 3, .inl (upd (fun _ => 0) (1 : Int32).toNatClampNeg 0))), (mk, .inl (cZ, 192, .inl (upd z.1 ((64 + (nI i)) : Int32).toNatClampNeg (vp_nar .boolean 0)))), (mh, .inl (cZ, 64, .inl (fun _ => 0))), (ml, .inl (cI, 192, .inl z.2.1)), (mn, .inl (cI, 64, .inl (fun _ => 0))), (ms, .inl (cI, 192, .inl z.2.2))] := hD
    refine lv_aload_n hx hb dM_begin_93 rfl (lv_at hl 1 rfl) ?_
    refine va_get (D := (dC, dI)) (ci := 4) (v := .ref ml) (C := "LoggedStoreModel") (T := uM) (N := 18) hx hb hw inM hown hK hP 0 rfl rfl 15 (by decide) (hw _ w627) (fun _ h9 => h9) rfl dM_begin_94 ?_
    refine lv_bipush (v := 64) hx hb dM_begin_97 (by decide) ?_
    refine lv_iload_n hx hb dM_begin_99 rfl (lv_at hl 2 rfl) ?_
    refine lv_imul hx hb dM_begin_100 ?_
    refine lv_topi (nm_r (e' := 64) (by decide +kernel) ?_)
    refine lv_iload_n hx hb dM_begin_101 rfl (lv_at hl 0 rfl) ?_
    refine lv_iadd hx hb dM_begin_102 ?_
    refine lv_aload_n hx hb dM_begin_103 rfl (lv_at hl 1 rfl) ?_
    refine va_get (D := (dC, dI)) (ci := 4) (v := .ref mn) (C := "LoggedStoreModel") (T := uM) (N := 18) hx hb hw inM hown hK hP 0 rfl rfl 6 (by decide) (hw _ w618) (fun _ h9 => h9) rfl dM_begin_104 ?_
    refine lv_iload_n hx hb dM_begin_107 rfl (lv_at hl 0 rfl) ?_
    refine va_iald hx hb hK hP 6 0 rfl rfl (vp_in_nI hi (by decide)) dM_begin_108 ?_
    refine lv_topi (nm_r (e' := 0) (rfl) ?_)
    refine va_iast hx hb hK hP hD hS 5 0 rfl rfl (by rw [show (64 : Int32) + nI i = nI (64 + i) from nI_add 64 i]; exact vp_in_nI (by omega) (by decide)) dM_begin_109 (fun H locs hP hD hS => ?_)
    have hP : va_P (dC, dI) vwC [(m0, .inr (4, [.int 0, .ref md, .int 0, .int (-1), .int 0, .ref mh, .ref mn, .ref mc, .int 0, .int 1, .int 0, .int 0, .ref mo, .ref mb, .ref mk, .ref ml, .ref ms, .ref mw])), (mo, .inl (cZ, 3, .inl (upd (fun _ => 0) (1 : Int32).toNatClampNeg (vp_nar .boolean 1)))), (mb, .inl (cI, 3, .inl (upd (fun _ => 0) (1 : Int32).toNatClampNeg 0))), (mk, .inl (cZ, 192, .inl (upd z.1 ((64 + (nI i)) : Int32).toNatClampNeg (vp_nar .boolean 0)))), (mh, .inl (cZ, 64, .inl (fun _ => 0))), (ml, .inl (cI, 192, .inl (upd z.2.1 ((64 + (nI i)) : Int32).toNatClampNeg 0))), (mn, .inl (cI, 64, .inl (fun _ => 0))), (ms, .inl (cI, 192, .inl z.2.2))] H := hP
    have hD : va_D A [(m0, .inr (4, [.int 0, .ref md, .int 0, .int (-1), .int 0, .ref mh, .ref mn, .ref mc, .int 0, .int 1, .int 0, .int 0, .ref mo, .ref mb, .ref mk, .ref ml, .ref ms, .ref mw])), (mo, .inl (cZ, 3, .inl (upd (fun _ => 0) (1 : Int32).toNatClampNeg (vp_nar .boolean 1)))), (mb, .inl (cI, 3, .inl (upd (fun _ => 0) (1 : Int32).toNatClampNeg 0))), (mk, .inl (cZ, 192, .inl (upd z.1 ((64 + (nI i)) : Int32).toNatClampNeg (vp_nar .boolean 0)))), (mh, .inl (cZ, 64, .inl (fun _ => 0))), (ml, .inl (cI, 192, .inl (upd z.2.1 ((64 + (nI i)) : Int32).toNatClampNeg 0))), (mn, .inl (cI, 64, .inl (fun _ => 0))), (ms, .inl (cI, 192, .inl z.2.2))] := hD
    refine lv_aload_n hx hb dM_begin_110 rfl (lv_at hl 1 rfl) ?_
    refine va_get (D := (dC, dI)) (ci := 4) (v := .ref ms) (C := "LoggedStoreModel") (T := uM) (N := 18) hx hb hw inM hown hK hP 0 rfl rfl 16 (by decide) (hw _ w628) (fun _ h9 => h9) rfl dM_begin_111 ?_
    refine lv_bipush (v := 64) hx hb dM_begin_114 (by decide) ?_
    refine lv_iload_n hx hb dM_begin_116 rfl (lv_at hl 2 rfl) ?_
    refine lv_imul hx hb dM_begin_117 ?_
    refine lv_topi (nm_r (e' := 64) (by decide +kernel) ?_)
    refine lv_iload_n hx hb dM_begin_118 rfl (lv_at hl 0 rfl) ?_
    refine lv_iadd hx hb dM_begin_119 ?_
    refine lv_iconst (v := 0) hx hb dM_begin_120 (by decide) ?_
    refine va_iast hx hb hK hP hD hS 7 0 rfl rfl (by rw [show (64 : Int32) + nI i = nI (64 + i) from nI_add 64 i]; exact vp_in_nI (by omega) (by decide)) dM_begin_121 (fun H locs hP hD hS => ?_)
    have hP : va_P (dC, dI) vwC [(m0, .inr (4, [.int 0, .ref md, .int 0, .int (-1), .int 0, .ref mh, .ref mn, .ref mc, .int 0, .int 1, .int 0, .int 0, .ref mo, .ref mb, .ref mk, .ref ml, .ref ms, .ref mw])), (mo, .inl (cZ, 3, .inl (upd (fun _ => 0) (1 : Int32).toNatClampNeg (vp_nar .boolean 1)))), (mb, .inl (cI, 3, .inl (upd (fun _ => 0) (1 : Int32).toNatClampNeg 0))), (mk, .inl (cZ, 192, .inl (upd z.1 ((64 + (nI i)) : Int32).toNatClampNeg (vp_nar .boolean 0)))), (mh, .inl (cZ, 64, .inl (fun _ => 0))), (ml, .inl (cI, 192, .inl (upd z.2.1 ((64 + (nI i)) : Int32).toNatClampNeg 0))), (mn, .inl (cI, 64, .inl (fun _ => 0))), (ms, .inl (cI, 192, .inl (upd z.2.2 ((64 + (nI i)) : Int32).toNatClampNeg 0)))] H := hP
    have hD : va_D A [(m0, .inr (4, [.int 0, .ref md, .int 0, .int (-1), .int 0, .ref mh, .ref mn, .ref mc, .int 0, .int 1, .int 0, .int 0, .ref mo, .ref mb, .ref mk, .ref ml, .ref ms, .ref mw])), (mo, .inl (cZ, 3, .inl (upd (fun _ => 0) (1 : Int32).toNatClampNeg (vp_nar .boolean 1)))), (mb, .inl (cI, 3, .inl (upd (fun _ => 0) (1 : Int32).toNatClampNeg 0))), (mk, .inl (cZ, 192, .inl (upd z.1 ((64 + (nI i)) : Int32).toNatClampNeg (vp_nar .boolean 0)))), (mh, .inl (cZ, 64, .inl (fun _ => 0))), (ml, .inl (cI, 192, .inl (upd z.2.1 ((64 + (nI i)) : Int32).toNatClampNeg 0))), (mn, .inl (cI, 64, .inl (fun _ => 0))), (ms, .inl (cI, 192, .inl (upd z.2.2 ((64 + (nI i)) : Int32).toNatClampNeg 0)))] := hD
    refine lv_iinc (k := 0) (v := nI (i + 1)) hx hb dM_begin_122 hl rfl (nI_1 i) (by decide) rfl (fun ls hl => ?_)
    have hl : lv_has ls 3 [(2, .int (nI (i + 1))), (0, .ref m0), (1, .int 1)] := hl
    refine lv_goto (tgt := 70) hx hb dM_begin_125 (by decide) ?_
    exact ih (upd z.1 ((64 + (nI i)) : Int32).toNatClampNeg (vp_nar .boolean 0), upd z.2.1 ((64 + (nI i)) : Int32).toNatClampNeg 0, upd z.2.2 ((64 + (nI i)) : Int32).toNatClampNeg 0) ls H locs hl hP hD hS

set_option maxHeartbeats 4000000 in
set_option maxRecDepth 100000 in
theorem c_M_begin_2 (l : Launch) (dC : Nat → ClassId) (dI : Nat → Nat → Nat) (cI cZ cJ cT : ClassId) (m0 md mh mn mc mo mb mk ml ms mw : Nat) (sz : Nat) : Met l yM_begin (Cond.code yM_begin cM_begin 3 (some .int) :: wsA) ({ frames := 1, cells := 0, slots := 0, locals := 22 }) (va_Pc [.ref m0, .int 2] (fun U => U.heap.size = sz ∧ va_P (dC, dI) vwC [(m0, .inr (4, [.int 0, .ref md, .int 0, .int (-1), .int 0, .ref mh, .ref mn, .ref mc, .int 0, .int 1, .int 0, .int 0, .ref mo, .ref mb, .ref mk, .ref ml, .ref ms, .ref mw])), (mo, .inl (cZ, 3, .inl (fun _ => 0))), (mb, .inl (cI, 3, .inl (fun _ => 0))), (mk, .inl (cZ, 192, .inl (fun _ => 0))), (mh, .inl (cZ, 64, .inl (fun _ => 0))), (ml, .inl (cI, 192, .inl (fun _ => 0))), (mn, .inl (cI, 64, .inl (fun _ => 0))), (ms, .inl (cI, 192, .inl (fun _ => 0)))] U.heap ∧ KK dC dI cI cZ cJ cT U ∧ va_D (fun _ => True) [(m0, .inr (4, [.int 0, .ref md, .int 0, .int (-1), .int 0, .ref mh, .ref mn, .ref mc, .int 0, .int 1, .int 0, .int 0, .ref mo, .ref mb, .ref mk, .ref ml, .ref ms, .ref mw])), (mo, .inl (cZ, 3, .inl (fun _ => 0))), (mb, .inl (cI, 3, .inl (fun _ => 0))), (mk, .inl (cZ, 192, .inl (fun _ => 0))), (mh, .inl (cZ, 64, .inl (fun _ => 0))), (ml, .inl (cI, 192, .inl (fun _ => 0))), (mn, .inl (cI, 64, .inl (fun _ => 0))), (ms, .inl (cI, 192, .inl (fun _ => 0)))])) (va_Qi (S := Nat → Nat) (fun r _ => r = 0) (fun u t => va_P (dC, dI) vwC [(m0, .inr (4, [.int 0, .ref md, .int 0, .int (-1), .int 0, .ref mh, .ref mn, .ref mc, .int 0, .int 1, .int 0, .int 0, .ref mo, .ref mb, .ref mk, .ref ml, .ref ms, .ref mw]))] t.heap ∧ va_D (va_A [(m0, .inr (4, [.int 0, .ref md, .int 0, .int (-1), .int 0, .ref mh, .ref mn, .ref mc, .int 0, .int 1, .int 0, .int 0, .ref mo, .ref mb, .ref mk, .ref ml, .ref ms, .ref mw])), (mo, .inl (cZ, 3, .inl (fun _ => 0))), (mb, .inl (cI, 3, .inl (fun _ => 0))), (mk, .inl (cZ, 192, .inl (fun _ => 0))), (mh, .inl (cZ, 64, .inl (fun _ => 0))), (ml, .inl (cI, 192, .inl (fun _ => 0))), (mn, .inl (cI, 64, .inl (fun _ => 0))), (ms, .inl (cI, 192, .inl (fun _ => 0)))] sz) [(m0, .inr (4, [.int 0, .ref md, .int 0, .int (-1), .int 0, .ref mh, .ref mn, .ref mc, .int 0, .int 1, .int 0, .int 0, .ref mo, .ref mb, .ref mk, .ref ml, .ref ms, .ref mw]))]) (va_A [(m0, .inr (4, [.int 0, .ref md, .int 0, .int (-1), .int 0, .ref mh, .ref mn, .ref mc, .int 0, .int 1, .int 0, .int 0, .ref mo, .ref mb, .ref mk, .ref ml, .ref ms, .ref mw])), (mo, .inl (cZ, 3, .inl (fun _ => 0))), (mb, .inl (cI, 3, .inl (fun _ => 0))), (mk, .inl (cZ, 192, .inl (fun _ => 0))), (mh, .inl (cZ, 64, .inl (fun _ => 0))), (ml, .inl (cI, 192, .inl (fun _ => 0))), (mn, .inl (cI, 64, .inl (fun _ => 0))), (ms, .inl (cI, 192, .inl (fun _ => 0)))] sz)) 0 0 (va_A [(m0, .inr (4, [.int 0, .ref md, .int 0, .int (-1), .int 0, .ref mh, .ref mn, .ref mc, .int 0, .int 1, .int 0, .int 0, .ref mo, .ref mb, .ref mk, .ref ml, .ref ms, .ref mw])), (mo, .inl (cZ, 3, .inl (fun _ => 0))), (mb, .inl (cI, 3, .inl (fun _ => 0))), (mk, .inl (cZ, 192, .inl (fun _ => 0))), (mh, .inl (cZ, 64, .inl (fun _ => 0))), (ml, .inl (cI, 192, .inl (fun _ => 0))), (mn, .inl (cI, 64, .inl (fun _ => 0))), (ms, .inl (cI, 192, .inl (fun _ => 0)))] sz) := by
  refine Met.ofW (cc := cM_begin) (maxL := 3) (ret := (some .int)) (by decide) rfl ?_
  intro p e s m args below meth c s₁ B hml hv
  obtain ⟨rfl, hsz, hP, hKK, hD0⟩ := hv
  have hK := hKK.1
  have hx := B.exec
  have hb := B.bytes
  have hr := B.returns
  have hw : ∀ w ∈ wsA, w.before _ s = true := fun w h => atoms_spec (ws := (Cond.code yM_begin cM_begin 3 (some .int) :: wsA)) B.pre w (List.mem_cons_of_mem _ h)
  have hown : s.vm.findClass "LoggedStoreModel" = some m.cls := findClass_of_methodNamed B.named
  have hlocks := B.notSynchronized
  subst hsz
  have hD := hD0.self (sz := s.heap.size)
  generalize hAe : va_A [(m0, .inr (4, [.int 0, .ref md, .int 0, .int (-1), .int 0, .ref mh, .ref mn, .ref mc, .int 0, .int 1, .int 0, .int 0, .ref mo, .ref mb, .ref mk, .ref ml, .ref ms, .ref mw])), (mo, .inl (cZ, 3, .inl (fun _ => 0))), (mb, .inl (cI, 3, .inl (fun _ => 0))), (mk, .inl (cZ, 192, .inl (fun _ => 0))), (mh, .inl (cZ, 64, .inl (fun _ => 0))), (ml, .inl (cI, 192, .inl (fun _ => 0))), (mn, .inl (cI, 64, .inl (fun _ => 0))), (ms, .inl (cI, 192, .inl (fun _ => 0)))] s.heap.size = A at hD ⊢
  have hA : ∀ q : Nat, s.heap.size ≤ q → A q := fun q h => by rw [← hAe]; exact Or.inr h
  have hS : va_S A s.heap s.heap [] := va_S.rf
  have hl := lv_entry ([.ref m0, .int 2]) (n := 3) (Nat.le_of_ble_eq_true rfl)
  rw [lg_entry_eq]
  generalize (lg_sl ([.ref m0, .int 2]) ++ List.replicate (3 - (lg_sl ([.ref m0, .int 2])).length) Slot.unset).toArray = ls at hl ⊢
  have hl : lv_has ls 3 [(0, .ref m0), (1, .int 2)] := hl
  refine lv_aload_n hx hb dM_begin_0 rfl (lv_at hl 0 rfl) ?_
  refine lv_aload_n hx hb dM_begin_1 rfl (lv_at hl 0 rfl) ?_
  refine va_get (D := (dC, dI)) (ci := 4) (v := .int 0) (C := "LoggedStoreModel") (T := uM) (N := 18) hx hb hw inM hown hK hP 0 rfl rfl 2 (by decide) (hw _ w614) (fun _ h9 => h9) rfl dM_begin_2 ?_
  refine lv_if_eq (tgt := 12) hx hb dM_begin_5 (by decide) (fun _ => ?_) (fun h9 => absurd (by decide) h9)
  refine lv_iload_n hx hb dM_begin_12 rfl (lv_at hl 1 rfl) ?_
  refine lv_iconst (v := 0) hx hb dM_begin_13 (by decide) ?_
  refine lv_iconst (v := 2) hx hb dM_begin_14 (by decide) ?_
  have hPc := hP.sub (ws' := []) [] rfl
  refine vp_callSi (W.runS (As := [.int 2, .int 0, .int 2]) (rest := [.ref m0]) ⟨hx, hb, hml, hown, hw⟩ (c_within_t l dC dI cI cZ cJ cT 2 0 2 (by decide) (by decide)) ⟨callB_of 3 hw (gA0 w677) rfl rfl rfl (hw _ w45) (hw _ w675) (by decide +kernel) ⟨Nat.le_of_ble_eq_true rfl, Nat.le_of_ble_eq_true rfl⟩, (hw _ w676)⟩ ⟨kb_S, fun U hU hW => ⟨rfl, by rw [hU]; exact hPc, hKK.moved hW⟩⟩ rfl rfl hl.1 rfl (lv_room (Nat.le_of_ble_eq_true rfl)) dM_begin_15 ⟨Nat.le_of_ble_eq_true rfl, Nat.le_of_ble_eq_true rfl⟩) (fun r1 e2 => ?_)
  obtain rfl : r1 = 1 := e2
  refine lv_if_ne (tgt := 25) hx hb dM_begin_18 (by decide) (fun _ => ?_) (fun h9 => absurd h9 (by decide))
  refine lv_aload_n hx hb dM_begin_25 rfl (lv_at hl 0 rfl) ?_
  refine va_get (D := (dC, dI)) (ci := 4) (v := .ref mo) (C := "LoggedStoreModel") (T := uM) (N := 18) hx hb hw inM hown hK hP 0 rfl rfl 12 (by decide) (hw _ w624) (fun _ h9 => h9) rfl dM_begin_26 ?_
  refine lv_iload_n hx hb dM_begin_29 rfl (lv_at hl 1 rfl) ?_
  refine va_zald hx hb hK hP 1 1 rfl rfl (tv_in (by decide +kernel)) dM_begin_30 ?_
  refine lv_topi (nm_r (e' := 0) (rfl) ?_)
  refine lv_if_eq (tgt := 38) hx hb dM_begin_31 (by decide) (fun _ => ?_) (fun h9 => absurd (by decide) h9)
  refine lv_iconst (v := 0) hx hb dM_begin_38 (by decide) ?_
  refine va_put (D := (dC, dI)) (ci := 4) (v := .int 0) (ty := .int) (C := "LoggedStoreModel") (T := uM) (N := 18) hx hb hw inM tyM tyM_ok nmM hown hK hP hD hS 0 rfl rfl 0 (by decide) (hw _ w612) (fun _ h9 => h9) rfl (by decide +kernel) rfl rfl (Nat.le_of_ble_eq_true rfl) dM_begin_39 (fun H locs hP hD hS => ?_)
  have hP : va_P (dC, dI) vwC [(m0, .inr (4, [.int 0, .ref md, .int 0, .int (-1), .int 0, .ref mh, .ref mn, .ref mc, .int 0, .int 1, .int 0, .int 0, .ref mo, .ref mb, .ref mk, .ref ml, .ref ms, .ref mw])), (mo, .inl (cZ, 3, .inl (fun _ => 0))), (mb, .inl (cI, 3, .inl (fun _ => 0))), (mk, .inl (cZ, 192, .inl (fun _ => 0))), (mh, .inl (cZ, 64, .inl (fun _ => 0))), (ml, .inl (cI, 192, .inl (fun _ => 0))), (mn, .inl (cI, 64, .inl (fun _ => 0))), (ms, .inl (cI, 192, .inl (fun _ => 0)))] H := hP
  have hD : va_D A [(m0, .inr (4, [.int 0, .ref md, .int 0, .int (-1), .int 0, .ref mh, .ref mn, .ref mc, .int 0, .int 1, .int 0, .int 0, .ref mo, .ref mb, .ref mk, .ref ml, .ref ms, .ref mw])), (mo, .inl (cZ, 3, .inl (fun _ => 0))), (mb, .inl (cI, 3, .inl (fun _ => 0))), (mk, .inl (cZ, 192, .inl (fun _ => 0))), (mh, .inl (cZ, 64, .inl (fun _ => 0))), (ml, .inl (cI, 192, .inl (fun _ => 0))), (mn, .inl (cI, 64, .inl (fun _ => 0))), (ms, .inl (cI, 192, .inl (fun _ => 0)))] := hD
  refine lv_aload_n hx hb dM_begin_42 rfl (lv_at hl 0 rfl) ?_
  refine va_get (D := (dC, dI)) (ci := 4) (v := .int 0) (C := "LoggedStoreModel") (T := uM) (N := 18) hx hb hw inM hown hK hP 0 rfl rfl 0 (by decide) (hw _ w612) (fun _ h9 => h9) rfl dM_begin_43 ?_
  refine lv_if_le (tgt := 51) hx hb dM_begin_46 (by decide) (fun _ => ?_) (fun h9 => absurd (by decide) h9)
  refine lv_aload_n hx hb dM_begin_51 rfl (lv_at hl 0 rfl) ?_
  refine va_get (D := (dC, dI)) (ci := 4) (v := .ref mo) (C := "LoggedStoreModel") (T := uM) (N := 18) hx hb hw inM hown hK hP 0 rfl rfl 12 (by decide) (hw _ w624) (fun _ h9 => h9) rfl dM_begin_52 ?_
  refine lv_iload_n hx hb dM_begin_55 rfl (lv_at hl 1 rfl) ?_
  refine lv_iconst (v := 1) hx hb dM_begin_56 (by decide) ?_
  refine va_zast hx hb hK hP hD hS 1 1 rfl rfl (tv_in (by decide +kernel)) dM_begin_57 (fun H locs hP hD hS => ?_)
  have hP : va_P (dC, dI) vwC [(m0, .inr (4, [.int 0, .ref md, .int 0, .int (-1), .int 0, .ref mh, .ref mn, .ref mc, .int 0, .int 1, .int 0, .int 0, .ref mo, .ref mb, .ref mk, .ref ml, .ref ms, .ref mw])), (mo, .inl (cZ, 3, .inl (upd (fun _ => 0) (2 : Int32).toNatClampNeg (vp_nar .boolean 1)))), (mb, .inl (cI, 3, .inl (fun _ => 0))), (mk, .inl (cZ, 192, .inl (fun _ => 0))), (mh, .inl (cZ, 64, .inl (fun _ => 0))), (ml, .inl (cI, 192, .inl (fun _ => 0))), (mn, .inl (cI, 64, .inl (fun _ => 0))), (ms, .inl (cI, 192, .inl (fun _ => 0)))] H := hP
  have hD : va_D A [(m0, .inr (4, [.int 0, .ref md, .int 0, .int (-1), .int 0, .ref mh, .ref mn, .ref mc, .int 0, .int 1, .int 0, .int 0, .ref mo, .ref mb, .ref mk, .ref ml, .ref ms, .ref mw])), (mo, .inl (cZ, 3, .inl (upd (fun _ => 0) (2 : Int32).toNatClampNeg (vp_nar .boolean 1)))), (mb, .inl (cI, 3, .inl (fun _ => 0))), (mk, .inl (cZ, 192, .inl (fun _ => 0))), (mh, .inl (cZ, 64, .inl (fun _ => 0))), (ml, .inl (cI, 192, .inl (fun _ => 0))), (mn, .inl (cI, 64, .inl (fun _ => 0))), (ms, .inl (cI, 192, .inl (fun _ => 0)))] := hD
  refine lv_aload_n hx hb dM_begin_58 rfl (lv_at hl 0 rfl) ?_
  refine va_get (D := (dC, dI)) (ci := 4) (v := .ref mb) (C := "LoggedStoreModel") (T := uM) (N := 18) hx hb hw inM hown hK hP 0 rfl rfl 13 (by decide) (hw _ w625) (fun _ h9 => h9) rfl dM_begin_59 ?_
  refine lv_iload_n hx hb dM_begin_62 rfl (lv_at hl 1 rfl) ?_
  refine lv_aload_n hx hb dM_begin_63 rfl (lv_at hl 0 rfl) ?_
  refine va_get (D := (dC, dI)) (ci := 4) (v := .int 0) (C := "LoggedStoreModel") (T := uM) (N := 18) hx hb hw inM hown hK hP 0 rfl rfl 8 (by decide) (hw _ w620) (fun _ h9 => h9) rfl dM_begin_64 ?_
  refine va_iast hx hb hK hP hD hS 2 0 rfl rfl (tv_in (by decide +kernel)) dM_begin_67 (fun H locs hP hD hS => ?_)
  have hP : va_P (dC, dI) vwC [(m0, .inr (4, [.int 0, .ref md, .int 0, .int (-1), .int 0, .ref mh, .ref mn, .ref mc, .int 0, .int 1, .int 0, .int 0, .ref mo, .ref mb, .ref mk, .ref ml, .ref ms, .ref mw])), (mo, .inl (cZ, 3, .inl (upd (fun _ => 0) (2 : Int32).toNatClampNeg (vp_nar .boolean 1)))), (mb, .inl (cI, 3, .inl (upd (fun _ => 0) (2 : Int32).toNatClampNeg 0))), (mk, .inl (cZ, 192, .inl (fun _ => 0))), (mh, .inl (cZ, 64, .inl (fun _ => 0))), (ml, .inl (cI, 192, .inl (fun _ => 0))), (mn, .inl (cI, 64, .inl (fun _ => 0))), (ms, .inl (cI, 192, .inl (fun _ => 0)))] H := hP
  have hD : va_D A [(m0, .inr (4, [.int 0, .ref md, .int 0, .int (-1), .int 0, .ref mh, .ref mn, .ref mc, .int 0, .int 1, .int 0, .int 0, .ref mo, .ref mb, .ref mk, .ref ml, .ref ms, .ref mw])), (mo, .inl (cZ, 3, .inl (upd (fun _ => 0) (2 : Int32).toNatClampNeg (vp_nar .boolean 1)))), (mb, .inl (cI, 3, .inl (upd (fun _ => 0) (2 : Int32).toNatClampNeg 0))), (mk, .inl (cZ, 192, .inl (fun _ => 0))), (mh, .inl (cZ, 64, .inl (fun _ => 0))), (ml, .inl (cI, 192, .inl (fun _ => 0))), (mn, .inl (cI, 64, .inl (fun _ => 0))), (ms, .inl (cI, 192, .inl (fun _ => 0)))] := hD
  refine lv_iconst (v := 0) hx hb dM_begin_68 (by decide) ?_
  refine lv_istore_n hx hb dM_begin_69 rfl hl (by decide) rfl (fun ls hl => ?_)
  have hl : lv_has ls 3 [(2, .int 0), (0, .ref m0), (1, .int 2)] := hl
  refine tk_forW (nL := 3) (D := (dC, dI)) (cl := vwC) (A := A) (H0 := s.heap) (σ := (Nat → Int32) × (Nat → Int32) × (Nat → Int32)) (G := fun ls H locs => W p l e _ s m _ below meth c H locs _ _ _ (F0 m 70 ls [])) (fun i => [(2, .int (nI i)), (0, .ref m0), (1, .int 2)]) (fun z => [(m0, .inr (4, [.int 0, .ref md, .int 0, .int (-1), .int 0, .ref mh, .ref mn, .ref mc, .int 0, .int 1, .int 0, .int 0, .ref mo, .ref mb, .ref mk, .ref ml, .ref ms, .ref mw])), (mo, .inl (cZ, 3, .inl (upd (fun _ => 0) (2 : Int32).toNatClampNeg (vp_nar .boolean 1)))), (mb, .inl (cI, 3, .inl (upd (fun _ => 0) (2 : Int32).toNatClampNeg 0))), (mk, .inl (cZ, 192, .inl z.1)), (mh, .inl (cZ, 64, .inl (fun _ => 0))), (ml, .inl (cI, 192, .inl z.2.1)), (mn, .inl (cI, 64, .inl (fun _ => 0))), (ms, .inl (cI, 192, .inl z.2.2))]) 64 ?_ ?_ (fun _ => 0, fun _ => 0, fun _ => 0) ls H locs hl hP hD hS
  · intro z ls H locs hl hP hD hS
    have hl : lv_has ls 3 [(2, .int (nI 64)), (0, .ref m0), (1, .int 2)] := hl
    have hP : va_P (dC, dI) vwC [(m0, .inr (4, [.int 0, .ref md, .int 0, .int (-1), .int 0, .ref mh, .ref mn, .ref mc, .int 0, .int 1, .int 0, .int 0, .ref mo, .ref mb, .ref mk, .ref ml, .ref ms, .ref mw])), (mo, .inl (cZ, 3, .inl (upd (fun _ => 0) (2 : Int32).toNatClampNeg (vp_nar .boolean 1)))), (mb, .inl (cI, 3, .inl (upd (fun _ => 0) (2 : Int32).toNatClampNeg 0))), (mk, .inl (cZ, 192, .inl z.1)), (mh, .inl (cZ, 64, .inl (fun _ => 0))), (ml, .inl (cI, 192, .inl z.2.1)), (mn, .inl (cI, 64, .inl (fun _ => 0))), (ms, .inl (cI, 192, .inl z.2.2))] H := hP
    have hD : va_D A [(m0, .inr (4, [.int 0, .ref md, .int 0, .int (-1), .int 0, .ref mh, .ref mn, .ref mc, .int 0, .int 1, .int 0, .int 0, .ref mo, .ref mb, .ref mk, .ref ml, .ref ms, .ref mw])), (mo, .inl (cZ, 3, .inl (upd (fun _ => 0) (2 : Int32).toNatClampNeg (vp_nar .boolean 1)))), (mb, .inl (cI, 3, .inl (upd (fun _ => 0) (2 : Int32).toNatClampNeg 0))), (mk, .inl (cZ, 192, .inl z.1)), (mh, .inl (cZ, 64, .inl (fun _ => 0))), (ml, .inl (cI, 192, .inl z.2.1)), (mn, .inl (cI, 64, .inl (fun _ => 0))), (ms, .inl (cI, 192, .inl z.2.2))] := hD
    refine lv_iload_n hx hb dM_begin_70 rfl (lv_at hl 0 rfl) ?_
    refine lv_bipush (v := 64) hx hb dM_begin_71 (by decide) ?_
    refine lv_icmp_ge (tgt := 128) hx hb dM_begin_73 (by decide) (fun _ => ?_) (fun h9 => absurd (by decide +kernel) h9)
    refine lv_aload_n hx hb dM_begin_128 rfl (lv_at hl 1 rfl) ?_
    refine va_get (D := (dC, dI)) (ci := 4) (v := .int 0) (C := "LoggedStoreModel") (T := uM) (N := 18) hx hb hw inM hown hK hP 0 rfl rfl 8 (by decide) (hw _ w620) (fun _ h9 => h9) rfl dM_begin_129 ?_
    have hP9 := hP.sub (ws' := [(m0, .inr (4, [.int 0, .ref md, .int 0, .int (-1), .int 0, .ref mh, .ref mn, .ref mc, .int 0, .int 1, .int 0, .int 0, .ref mo, .ref mb, .ref mk, .ref ml, .ref ms, .ref mw]))]) [0] rfl
    have hD9 := hD.sub (ws' := [(m0, .inr (4, [.int 0, .ref md, .int 0, .int (-1), .int 0, .ref mh, .ref mn, .ref mc, .int 0, .int 1, .int 0, .int 0, .ref mo, .ref mb, .ref mk, .ref ml, .ref ms, .ref mw]))]) [0] (by decide) rfl
    refine W.widen (k := 0) (n := 0) (by decide) (by decide) ?_
    exact W.iret (v := 0) hx hb hr (fun t ht hW => ⟨⟨0, fun _ => 0, rfl, rfl, by rw [ht]; exact hP9, hD9⟩, hS.F ht⟩) hS.2.2 dM_begin_132
  · intro i hi z ls H locs hl hP hD hS ih
    have hl : lv_has ls 3 [(2, .int (nI i)), (0, .ref m0), (1, .int 2)] := hl
    have hP : va_P (dC, dI) vwC [(m0, .inr (4, [.int 0, .ref md, .int 0, .int (-1), .int 0, .ref mh, .ref mn, .ref mc, .int 0, .int 1, .int 0, .int 0, .ref mo, .ref mb, .ref mk, .ref ml, .ref ms, .ref mw])), (mo, .inl (cZ, 3, .inl (upd (fun _ => 0) (2 : Int32).toNatClampNeg (vp_nar .boolean 1)))), (mb, .inl (cI, 3, .inl (upd (fun _ => 0) (2 : Int32).toNatClampNeg 0))), (mk, .inl (cZ, 192, .inl z.1)), (mh, .inl (cZ, 64, .inl (fun _ => 0))), (ml, .inl (cI, 192, .inl z.2.1)), (mn, .inl (cI, 64, .inl (fun _ => 0))), (ms, .inl (cI, 192, .inl z.2.2))] H := hP
    have hD : va_D A [(m0, .inr (4, [.int 0, .ref md, .int 0, .int (-1), .int 0, .ref mh, .ref mn, .ref mc, .int 0, .int 1, .int 0, .int 0, .ref mo, .ref mb, .ref mk, .ref ml, .ref ms, .ref mw])), (mo, .inl (cZ, 3, .inl (upd (fun _ => 0) (2 : Int32).toNatClampNeg (vp_nar .boolean 1)))), (mb, .inl (cI, 3, .inl (upd (fun _ => 0) (2 : Int32).toNatClampNeg 0))), (mk, .inl (cZ, 192, .inl z.1)), (mh, .inl (cZ, 64, .inl (fun _ => 0))), (ml, .inl (cI, 192, .inl z.2.1)), (mn, .inl (cI, 64, .inl (fun _ => 0))), (ms, .inl (cI, 192, .inl z.2.2))] := hD
    refine lv_iload_n hx hb dM_begin_70 rfl (lv_at hl 0 rfl) ?_
    refine lv_bipush (v := 64) hx hb dM_begin_71 (by decide) ?_
    refine lv_icmp_ge (tgt := 128) hx hb dM_begin_73 (by decide) (fun h9 => absurd h9 (nI_ge hi (by decide))) (fun _ => ?_)
    refine lv_aload_n hx hb dM_begin_76 rfl (lv_at hl 1 rfl) ?_
    refine va_get (D := (dC, dI)) (ci := 4) (v := .ref mk) (C := "LoggedStoreModel") (T := uM) (N := 18) hx hb hw inM hown hK hP 0 rfl rfl 14 (by decide) (hw _ w626) (fun _ h9 => h9) rfl dM_begin_77 ?_
    refine lv_bipush (v := 64) hx hb dM_begin_80 (by decide) ?_
    refine lv_iload_n hx hb dM_begin_82 rfl (lv_at hl 2 rfl) ?_
    refine lv_imul hx hb dM_begin_83 ?_
    refine lv_topi (nm_r (e' := 128) (by decide +kernel) ?_)
    refine lv_iload_n hx hb dM_begin_84 rfl (lv_at hl 0 rfl) ?_
    refine lv_iadd hx hb dM_begin_85 ?_
    refine lv_aload_n hx hb dM_begin_86 rfl (lv_at hl 1 rfl) ?_
    refine va_get (D := (dC, dI)) (ci := 4) (v := .ref mh) (C := "LoggedStoreModel") (T := uM) (N := 18) hx hb hw inM hown hK hP 0 rfl rfl 5 (by decide) (hw _ w617) (fun _ h9 => h9) rfl dM_begin_87 ?_
    refine lv_iload_n hx hb dM_begin_90 rfl (lv_at hl 0 rfl) ?_
    refine va_zald hx hb hK hP 4 1 rfl rfl (vp_in_nI hi (by decide)) dM_begin_91 ?_
    refine lv_topi (nm_r (e' := 0) (rfl) ?_)
    refine va_zast hx hb hK hP hD hS 3 1 rfl rfl (by rw [show (128 : Int32) + nI i = nI (128 + i) from nI_add 128 i]; exact vp_in_nI (by omega) (by decide)) dM_begin_92 (fun H locs hP hD hS => ?_)
    have hP : va_P (dC, dI) vwC [(m0, .inr (4, [.int 0, .ref md, .int 0, .int (-1), .int 0, .ref mh, .ref mn, .ref mc, .int 0, .int 1, .int 0, .int 0, .ref mo, .ref mb, .ref mk, .ref ml, .ref ms, .ref mw])), (mo, .inl (cZ, 3, .inl (upd (fun _ => 0) (2 : Int32).toNatClampNeg (vp_nar .boolean 1)))), (mb, .inl (cI, 3, .inl (upd (fun _ => 0) (2 : Int32).toNatClampNeg 0))), (mk, .inl (cZ, 192, .inl (upd z.1 ((128 + (nI i)) : Int32).toNatClampNeg (vp_nar .boolean 0)))), (mh, .inl (cZ, 64, .inl (fun _ => 0))), (ml, .inl (cI, 192, .inl z.2.1)), (mn, .inl (cI, 64, .inl (fun _ => 0))), (ms, .inl (cI, 192, .inl z.2.2))] H := hP
    have hD : va_D A [(m0, .inr (4, [.int 0, .ref md, .int 0, .int (-1), .int 0, .ref mh, .ref mn, .ref mc, .int 0, .int 1, .int 0, .int 0, .ref mo, .ref mb, .ref mk, .ref ml, .ref ms, .ref mw])), (mo, .inl (cZ, 3, .inl (upd (fun _ => 0) (2 : Int32).toNatClampNeg (vp_nar .boolean 1)))), (mb, .inl (cI, 3, .inl (upd (fun _ => 0) (2 : Int32).toNatClampNeg 0))), (mk, .inl (cZ, 192, .inl (upd z.1 ((128 + (nI i)) : Int32).toNatClampNeg (vp_nar .boolean 0)))), (mh, .inl (cZ, 64, .inl (fun _ => 0))), (ml, .inl (cI, 192, .inl z.2.1)), (mn, .inl (cI, 64, .inl (fun _ => 0))), (ms, .inl (cI, 192, .inl z.2.2))] := hD
    refine lv_aload_n hx hb dM_begin_93 rfl (lv_at hl 1 rfl) ?_
    refine va_get (D := (dC, dI)) (ci := 4) (v := .ref ml) (C := "LoggedStoreModel") (T := uM) (N := 18) hx hb hw inM hown hK hP 0 rfl rfl 15 (by decide) (hw _ w627) (fun _ h9 => h9) rfl dM_begin_94 ?_
    refine lv_bipush (v := 64) hx hb dM_begin_97 (by decide) ?_
    refine lv_iload_n hx hb dM_begin_99 rfl (lv_at hl 2 rfl) ?_
    refine lv_imul hx hb dM_begin_100 ?_
    refine lv_topi (nm_r (e' := 128) (by decide +kernel) ?_)
    refine lv_iload_n hx hb dM_begin_101 rfl (lv_at hl 0 rfl) ?_
    refine lv_iadd hx hb dM_begin_102 ?_
    refine lv_aload_n hx hb dM_begin_103 rfl (lv_at hl 1 rfl) ?_
    refine va_get (D := (dC, dI)) (ci := 4) (v := .ref mn) (C := "LoggedStoreModel") (T := uM) (N := 18) hx hb hw inM hown hK hP 0 rfl rfl 6 (by decide) (hw _ w618) (fun _ h9 => h9) rfl dM_begin_104 ?_
    refine lv_iload_n hx hb dM_begin_107 rfl (lv_at hl 0 rfl) ?_
    refine va_iald hx hb hK hP 6 0 rfl rfl (vp_in_nI hi (by decide)) dM_begin_108 ?_
    refine lv_topi (nm_r (e' := 0) (rfl) ?_)
    refine va_iast hx hb hK hP hD hS 5 0 rfl rfl (by rw [show (128 : Int32) + nI i = nI (128 + i) from nI_add 128 i]; exact vp_in_nI (by omega) (by decide)) dM_begin_109 (fun H locs hP hD hS => ?_)
    have hP : va_P (dC, dI) vwC [(m0, .inr (4, [.int 0, .ref md, .int 0, .int (-1), .int 0, .ref mh, .ref mn, .ref mc, .int 0, .int 1, .int 0, .int 0, .ref mo, .ref mb, .ref mk, .ref ml, .ref ms, .ref mw])), (mo, .inl (cZ, 3, .inl (upd (fun _ => 0) (2 : Int32).toNatClampNeg (vp_nar .boolean 1)))), (mb, .inl (cI, 3, .inl (upd (fun _ => 0) (2 : Int32).toNatClampNeg 0))), (mk, .inl (cZ, 192, .inl (upd z.1 ((128 + (nI i)) : Int32).toNatClampNeg (vp_nar .boolean 0)))), (mh, .inl (cZ, 64, .inl (fun _ => 0))), (ml, .inl (cI, 192, .inl (upd z.2.1 ((128 + (nI i)) : Int32).toNatClampNeg 0))), (mn, .inl (cI, 64, .inl (fun _ => 0))), (ms, .inl (cI, 192, .inl z.2.2))] H := hP
    have hD : va_D A [(m0, .inr (4, [.int 0, .ref md, .int 0, .int (-1), .int 0, .ref mh, .ref mn, .ref mc, .int 0, .int 1, .int 0, .int 0, .ref mo, .ref mb, .ref mk, .ref ml, .ref ms, .ref mw])), (mo, .inl (cZ, 3, .inl (upd (fun _ => 0) (2 : Int32).toNatClampNeg (vp_nar .boolean 1)))), (mb, .inl (cI, 3, .inl (upd (fun _ => 0) (2 : Int32).toNatClampNeg 0))), (mk, .inl (cZ, 192, .inl (upd z.1 ((128 + (nI i)) : Int32).toNatClampNeg (vp_nar .boolean 0)))), (mh, .inl (cZ, 64, .inl (fun _ => 0))), (ml, .inl (cI, 192, .inl (upd z.2.1 ((128 + (nI i)) : Int32).toNatClampNeg 0))), (mn, .inl (cI, 64, .inl (fun _ => 0))), (ms, .inl (cI, 192, .inl z.2.2))] := hD
    refine lv_aload_n hx hb dM_begin_110 rfl (lv_at hl 1 rfl) ?_
    refine va_get (D := (dC, dI)) (ci := 4) (v := .ref ms) (C := "LoggedStoreModel") (T := uM) (N := 18) hx hb hw inM hown hK hP 0 rfl rfl 16 (by decide) (hw _ w628) (fun _ h9 => h9) rfl dM_begin_111 ?_
    refine lv_bipush (v := 64) hx hb dM_begin_114 (by decide) ?_
    refine lv_iload_n hx hb dM_begin_116 rfl (lv_at hl 2 rfl) ?_
    refine lv_imul hx hb dM_begin_117 ?_
    refine lv_topi (nm_r (e' := 128) (by decide +kernel) ?_)
    refine lv_iload_n hx hb dM_begin_118 rfl (lv_at hl 0 rfl) ?_
    refine lv_iadd hx hb dM_begin_119 ?_
    refine lv_iconst (v := 0) hx hb dM_begin_120 (by decide) ?_
    refine va_iast hx hb hK hP hD hS 7 0 rfl rfl (by rw [show (128 : Int32) + nI i = nI (128 + i) from nI_add 128 i]; exact vp_in_nI (by omega) (by decide)) dM_begin_121 (fun H locs hP hD hS => ?_)
    have hP : va_P (dC, dI) vwC [(m0, .inr (4, [.int 0, .ref md, .int 0, .int (-1), .int 0, .ref mh, .ref mn, .ref mc, .int 0, .int 1, .int 0, .int 0, .ref mo, .ref mb, .ref mk, .ref ml, .ref ms, .ref mw])), (mo, .inl (cZ, 3, .inl (upd (fun _ => 0) (2 : Int32).toNatClampNeg (vp_nar .boolean 1)))), (mb, .inl (cI, 3, .inl (upd (fun _ => 0) (2 : Int32).toNatClampNeg 0))), (mk, .inl (cZ, 192, .inl (upd z.1 ((128 + (nI i)) : Int32).toNatClampNeg (vp_nar .boolean 0)))), (mh, .inl (cZ, 64, .inl (fun _ => 0))), (ml, .inl (cI, 192, .inl (upd z.2.1 ((128 + (nI i)) : Int32).toNatClampNeg 0))), (mn, .inl (cI, 64, .inl (fun _ => 0))), (ms, .inl (cI, 192, .inl (upd z.2.2 ((128 + (nI i)) : Int32).toNatClampNeg 0)))] H := hP
    have hD : va_D A [(m0, .inr (4, [.int 0, .ref md, .int 0, .int (-1), .int 0, .ref mh, .ref mn, .ref mc, .int 0, .int 1, .int 0, .int 0, .ref mo, .ref mb, .ref mk, .ref ml, .ref ms, .ref mw])), (mo, .inl (cZ, 3, .inl (upd (fun _ => 0) (2 : Int32).toNatClampNeg (vp_nar .boolean 1)))), (mb, .inl (cI, 3, .inl (upd (fun _ => 0) (2 : Int32).toNatClampNeg 0))), (mk, .inl (cZ, 192, .inl (upd z.1 ((128 + (nI i)) : Int32).toNatClampNeg (vp_nar .boolean 0)))), (mh, .inl (cZ, 64, .inl (fun _ => 0))), (ml, .inl (cI, 192, .inl (upd z.2.1 ((128 + (nI i)) : Int32).toNatClampNeg 0))), (mn, .inl (cI, 64, .inl (fun _ => 0))), (ms, .inl (cI, 192, .inl (upd z.2.2 ((128 + (nI i)) : Int32).toNatClampNeg 0)))] := hD
    refine lv_iinc (k := 0) (v := nI (i + 1)) hx hb dM_begin_122 hl rfl (nI_1 i) (by decide) rfl (fun ls hl => ?_)
    have hl : lv_has ls 3 [(2, .int (nI (i + 1))), (0, .ref m0), (1, .int 2)] := hl
    refine lv_goto (tgt := 70) hx hb dM_begin_125 (by decide) ?_
    exact ih (upd z.1 ((128 + (nI i)) : Int32).toNatClampNeg (vp_nar .boolean 0), upd z.2.1 ((128 + (nI i)) : Int32).toNatClampNeg 0, upd z.2.2 ((128 + (nI i)) : Int32).toNatClampNeg 0) ls H locs hl hP hD hS

set_option maxHeartbeats 4000000 in
set_option maxRecDepth 100000 in
theorem c_countNow (l : Launch) (dC : Nat → ClassId) (dI : Nat → Nat → Nat) (cI cZ cJ cT : ClassId) (m0 md mh mn mc mo mb mk ml ms mw : Nat) : Met l yM_countNow (Cond.code yM_countNow cM_countNow 3 (some .int) :: wsA) ({ frames := 0, cells := 0, slots := 0, locals := 0 }) (va_Pc [.ref m0] (fun U => va_P (dC, dI) vwC [(m0, .inr (4, [.int 0, .ref md, .int 0, .int (-1), .int 0, .ref mh, .ref mn, .ref mc, .int 0, .int 1, .int 0, .int 0, .ref mo, .ref mb, .ref mk, .ref ml, .ref ms, .ref mw])), (mh, .inl (cZ, 64, .inl (fun _ => 0)))] U.heap ∧ KK dC dI cI cZ cJ cT U)) (vp_Si (fun r => r = 0)) 0 0 (fun _ => False) := by
  refine Met.ofW (cc := cM_countNow) (maxL := 3) (ret := (some .int)) (by decide) rfl ?_
  intro p e s m args below meth c s₁ B hml hv
  obtain ⟨rfl, hP, hKK⟩ := hv
  have hK := hKK.1
  have hx := B.exec
  have hb := B.bytes
  have hr := B.returns
  have hw : ∀ w ∈ wsA, w.before _ s = true := fun w h => atoms_spec (ws := (Cond.code yM_countNow cM_countNow 3 (some .int) :: wsA)) B.pre w (List.mem_cons_of_mem _ h)
  have hown : s.vm.findClass "LoggedStoreModel" = some m.cls := findClass_of_methodNamed B.named
  have hlocks := B.notSynchronized
  have hl := lv_entry ([.ref m0]) (n := 3) (Nat.le_of_ble_eq_true rfl)
  rw [lg_entry_eq]
  generalize (lg_sl ([.ref m0]) ++ List.replicate (3 - (lg_sl ([.ref m0])).length) Slot.unset).toArray = ls at hl ⊢
  have hl : lv_has ls 3 [(0, .ref m0)] := hl
  refine lv_iconst (v := 0) hx hb dM_countNow_0 (by decide) ?_
  refine lv_istore_n hx hb dM_countNow_1 rfl hl (by decide) rfl (fun ls hl => ?_)
  have hl : lv_has ls 3 [(1, .int 0), (0, .ref m0)] := hl
  refine lv_iconst (v := 0) hx hb dM_countNow_2 (by decide) ?_
  refine lv_istore_n hx hb dM_countNow_3 rfl hl (by decide) rfl (fun ls hl => ?_)
  have hl : lv_has ls 3 [(2, .int 0), (1, .int 0), (0, .ref m0)] := hl
  refine tk_for (nL := 3) (G := fun ls => W p l e _ s m _ below meth c _ _ _ _ _ (F0 m 4 ls [])) (fun i => [(2, .int (nI i)), (1, .int 0), (0, .ref m0)]) 64 ?_ ?_ ls hl
  · intro ls hl
    have hl : lv_has ls 3 [(2, .int (nI 64)), (1, .int 0), (0, .ref m0)] := hl
    refine lv_iload_n hx hb dM_countNow_4 rfl (lv_at hl 0 rfl) ?_
    refine lv_bipush (v := 64) hx hb dM_countNow_5 (by decide) ?_
    refine lv_icmp_ge (tgt := 33) hx hb dM_countNow_7 (by decide) (fun _ => ?_) (fun h9 => absurd (by decide +kernel) h9)
    refine lv_iload_n hx hb dM_countNow_33 rfl (lv_at hl 1 rfl) ?_
    exact W.iret (v := 0) hx hb hr (fun t ht hW => ⟨0, rfl, rfl, ht⟩) (fun q h => by cases h) dM_countNow_34
  · intro i hi ls hl ih
    have hl : lv_has ls 3 [(2, .int (nI i)), (1, .int 0), (0, .ref m0)] := hl
    refine lv_iload_n hx hb dM_countNow_4 rfl (lv_at hl 0 rfl) ?_
    refine lv_bipush (v := 64) hx hb dM_countNow_5 (by decide) ?_
    refine lv_icmp_ge (tgt := 33) hx hb dM_countNow_7 (by decide) (fun h9 => absurd h9 (nI_ge hi (by decide))) (fun _ => ?_)
    refine lv_aload_n hx hb dM_countNow_10 rfl (lv_at hl 2 rfl) ?_
    refine va_get (D := (dC, dI)) (ci := 4) (v := .ref mh) (C := "LoggedStoreModel") (T := uM) (N := 18) hx hb hw inM hown hK hP 0 rfl rfl 5 (by decide) (hw _ w617) (fun _ h9 => h9) rfl dM_countNow_11 ?_
    refine lv_iload_n hx hb dM_countNow_14 rfl (lv_at hl 0 rfl) ?_
    refine va_zald hx hb hK hP 1 1 rfl rfl (vp_in_nI hi (by decide)) dM_countNow_15 ?_
    refine lv_topi (nm_r (e' := 0) (rfl) ?_)
    refine lv_if_eq (tgt := 25) hx hb dM_countNow_16 (by decide) (fun _ => ?_) (fun h9 => absurd (by decide) h9)
    refine lv_iload_n hx hb dM_countNow_25 rfl (lv_at hl 1 rfl) ?_
    refine lv_istore_n hx hb dM_countNow_26 rfl hl (by decide) rfl (fun ls hl => ?_)
    have hl : lv_has ls 3 [(1, .int 0), (2, .int (nI i)), (0, .ref m0)] := hl
    refine lv_iinc (k := 1) (v := nI (i + 1)) hx hb dM_countNow_27 hl rfl (nI_1 i) (by decide) rfl (fun ls hl => ?_)
    have hl : lv_has ls 3 [(2, .int (nI (i + 1))), (1, .int 0), (0, .ref m0)] := hl
    refine lv_goto (tgt := 4) hx hb dM_countNow_30 (by decide) ?_
    exact ih ls hl

set_option maxHeartbeats 4000000 in
set_option maxRecDepth 100000 in
theorem c_M_count (l : Launch) (dC : Nat → ClassId) (dI : Nat → Nat → Nat) (cI cZ cJ cT : ClassId) (m0 md mh mn mc mo mb mk ml ms mw : Nat) (sz : Nat) : Met l yM_count (Cond.code yM_count cM_count 1 (some .int) :: wsA) ({ frames := 1, cells := 0, slots := 0, locals := 22 }) (va_Pc [.ref m0] (fun U => U.heap.size = sz ∧ va_P (dC, dI) vwC [(m0, .inr (4, [.int 0, .ref md, .int 0, .int (-1), .int 0, .ref mh, .ref mn, .ref mc, .int 0, .int 1, .int 0, .int 0, .ref mo, .ref mb, .ref mk, .ref ml, .ref ms, .ref mw])), (mh, .inl (cZ, 64, .inl (fun _ => 0)))] U.heap ∧ KK dC dI cI cZ cJ cT U ∧ va_D (fun _ => True) [(m0, .inr (4, [.int 0, .ref md, .int 0, .int (-1), .int 0, .ref mh, .ref mn, .ref mc, .int 0, .int 1, .int 0, .int 0, .ref mo, .ref mb, .ref mk, .ref ml, .ref ms, .ref mw])), (mh, .inl (cZ, 64, .inl (fun _ => 0)))])) (va_Qi (S := Nat → Nat) (fun r _ => r = 0) (fun u t => va_P (dC, dI) vwC [(m0, .inr (4, [.int 0, .ref md, .int 0, .int (-1), .int 0, .ref mh, .ref mn, .ref mc, .int 0, .int 1, .int 0, .int 0, .ref mo, .ref mb, .ref mk, .ref ml, .ref ms, .ref mw]))] t.heap ∧ va_D (va_A [(m0, .inr (4, [.int 0, .ref md, .int 0, .int (-1), .int 0, .ref mh, .ref mn, .ref mc, .int 0, .int 1, .int 0, .int 0, .ref mo, .ref mb, .ref mk, .ref ml, .ref ms, .ref mw])), (mh, .inl (cZ, 64, .inl (fun _ => 0)))] sz) [(m0, .inr (4, [.int 0, .ref md, .int 0, .int (-1), .int 0, .ref mh, .ref mn, .ref mc, .int 0, .int 1, .int 0, .int 0, .ref mo, .ref mb, .ref mk, .ref ml, .ref ms, .ref mw]))]) (va_A [(m0, .inr (4, [.int 0, .ref md, .int 0, .int (-1), .int 0, .ref mh, .ref mn, .ref mc, .int 0, .int 1, .int 0, .int 0, .ref mo, .ref mb, .ref mk, .ref ml, .ref ms, .ref mw])), (mh, .inl (cZ, 64, .inl (fun _ => 0)))] sz)) 0 0 (va_A [(m0, .inr (4, [.int 0, .ref md, .int 0, .int (-1), .int 0, .ref mh, .ref mn, .ref mc, .int 0, .int 1, .int 0, .int 0, .ref mo, .ref mb, .ref mk, .ref ml, .ref ms, .ref mw])), (mh, .inl (cZ, 64, .inl (fun _ => 0)))] sz) := by
  refine Met.ofW (cc := cM_count) (maxL := 1) (ret := (some .int)) (by decide) rfl ?_
  intro p e s m args below meth c s₁ B hml hv
  obtain ⟨rfl, hsz, hP, hKK, hD0⟩ := hv
  have hK := hKK.1
  have hx := B.exec
  have hb := B.bytes
  have hr := B.returns
  have hw : ∀ w ∈ wsA, w.before _ s = true := fun w h => atoms_spec (ws := (Cond.code yM_count cM_count 1 (some .int) :: wsA)) B.pre w (List.mem_cons_of_mem _ h)
  have hown : s.vm.findClass "LoggedStoreModel" = some m.cls := findClass_of_methodNamed B.named
  have hlocks := B.notSynchronized
  subst hsz
  have hD := hD0.self (sz := s.heap.size)
  generalize hAe : va_A [(m0, .inr (4, [.int 0, .ref md, .int 0, .int (-1), .int 0, .ref mh, .ref mn, .ref mc, .int 0, .int 1, .int 0, .int 0, .ref mo, .ref mb, .ref mk, .ref ml, .ref ms, .ref mw])), (mh, .inl (cZ, 64, .inl (fun _ => 0)))] s.heap.size = A at hD ⊢
  have hA : ∀ q : Nat, s.heap.size ≤ q → A q := fun q h => by rw [← hAe]; exact Or.inr h
  have hS : va_S A s.heap s.heap [] := va_S.rf
  have hl := lv_entry ([.ref m0]) (n := 1) (Nat.le_of_ble_eq_true rfl)
  rw [lg_entry_eq]
  generalize (lg_sl ([.ref m0]) ++ List.replicate (1 - (lg_sl ([.ref m0])).length) Slot.unset).toArray = ls at hl ⊢
  have hl : lv_has ls 1 [(0, .ref m0)] := hl
  refine lv_aload_n hx hb dM_count_0 rfl (lv_at hl 0 rfl) ?_
  refine lv_aload_n hx hb dM_count_1 rfl (lv_at hl 0 rfl) ?_
  refine va_get (D := (dC, dI)) (ci := 4) (v := .int 0) (C := "LoggedStoreModel") (T := uM) (N := 18) hx hb hw inM hown hK hP 0 rfl rfl 2 (by decide) (hw _ w614) (fun _ h9 => h9) rfl dM_count_2 ?_
  refine lv_if_eq (tgt := 12) hx hb dM_count_5 (by decide) (fun _ => ?_) (fun h9 => absurd (by decide) h9)
  refine lv_iconst (v := 0) hx hb dM_count_12 (by decide) ?_
  refine va_put (D := (dC, dI)) (ci := 4) (v := .int 0) (ty := .int) (C := "LoggedStoreModel") (T := uM) (N := 18) hx hb hw inM tyM tyM_ok nmM hown hK hP hD hS 0 rfl rfl 0 (by decide) (hw _ w612) (fun _ h9 => h9) rfl (by decide +kernel) rfl rfl (Nat.le_of_ble_eq_true rfl) dM_count_13 (fun H locs hP hD hS => ?_)
  have hP : va_P (dC, dI) vwC [(m0, .inr (4, [.int 0, .ref md, .int 0, .int (-1), .int 0, .ref mh, .ref mn, .ref mc, .int 0, .int 1, .int 0, .int 0, .ref mo, .ref mb, .ref mk, .ref ml, .ref ms, .ref mw])), (mh, .inl (cZ, 64, .inl (fun _ => 0)))] H := hP
  have hD : va_D A [(m0, .inr (4, [.int 0, .ref md, .int 0, .int (-1), .int 0, .ref mh, .ref mn, .ref mc, .int 0, .int 1, .int 0, .int 0, .ref mo, .ref mb, .ref mk, .ref ml, .ref ms, .ref mw])), (mh, .inl (cZ, 64, .inl (fun _ => 0)))] := hD
  refine lv_aload_n hx hb dM_count_16 rfl (lv_at hl 0 rfl) ?_
  refine va_get (D := (dC, dI)) (ci := 4) (v := .int 0) (C := "LoggedStoreModel") (T := uM) (N := 18) hx hb hw inM hown hK hP 0 rfl rfl 2 (by decide) (hw _ w614) (fun _ h9 => h9) rfl dM_count_17 ?_
  refine lv_if_eq (tgt := 27) hx hb dM_count_20 (by decide) (fun _ => ?_) (fun h9 => absurd (by decide) h9)
  refine lv_aload_n hx hb dM_count_27 rfl (lv_at hl 0 rfl) ?_
  have hPc := hP.sub (ws' := [(m0, .inr (4, [.int 0, .ref md, .int 0, .int (-1), .int 0, .ref mh, .ref mn, .ref mc, .int 0, .int 1, .int 0, .int 0, .ref mo, .ref mb, .ref mk, .ref ml, .ref ms, .ref mw])), (mh, .inl (cZ, 64, .inl (fun _ => 0)))]) [0, 1] rfl
  refine vp_callSi (W.runV (C := "LoggedStoreModel") (b := m0) (As := []) (rest := []) ⟨hx, hb, hml, hown, hw⟩ (c_countNow l dC dI cI cZ cJ cT m0 md mh mn mc mo mb mk ml ms mw) ⟨callB_of 0 hw (gA0 w753) rfl rfl rfl (hw _ w45) (hw _ w750) (by decide +kernel) ⟨Nat.le_of_ble_eq_true rfl, Nat.le_of_ble_eq_true rfl⟩, (hw _ w752), (hw _ w32)⟩ ⟨kb_S, va_recv (ci := 4) (q0 := 0) hK hP rfl rfl, fun U hU hW => ⟨rfl, by rw [hU]; exact hPc, hKK.moved hW⟩⟩ rfl rfl hl.1 rfl (lv_room (Nat.le_of_ble_eq_true rfl)) dM_count_28 ⟨Nat.le_of_ble_eq_true rfl, Nat.le_of_ble_eq_true rfl⟩) (fun r1 e2 => ?_)
  obtain rfl : r1 = 0 := e2
  have hP9 := hP.sub (ws' := [(m0, .inr (4, [.int 0, .ref md, .int 0, .int (-1), .int 0, .ref mh, .ref mn, .ref mc, .int 0, .int 1, .int 0, .int 0, .ref mo, .ref mb, .ref mk, .ref ml, .ref ms, .ref mw]))]) [0] rfl
  have hD9 := hD.sub (ws' := [(m0, .inr (4, [.int 0, .ref md, .int 0, .int (-1), .int 0, .ref mh, .ref mn, .ref mc, .int 0, .int 1, .int 0, .int 0, .ref mo, .ref mb, .ref mk, .ref ml, .ref ms, .ref mw]))]) [0] (by decide) rfl
  refine W.widen (k := 0) (n := 0) (by decide) (by decide) ?_
  exact W.iret (v := 0) hx hb hr (fun t ht hW => ⟨⟨0, fun _ => 0, rfl, rfl, by rw [ht]; exact hP9, hD9⟩, hS.F ht⟩) hS.2.2 dM_count_31

set_option maxHeartbeats 4000000 in
set_option maxRecDepth 100000 in
theorem c_M_version (l : Launch) (dC : Nat → ClassId) (dI : Nat → Nat → Nat) (cI cZ cJ cT : ClassId) (m0 md mh mn mc mo mb mk ml ms mw : Nat) (sz : Nat) : Met l yM_version (Cond.code yM_version cM_version 1 (some .int) :: wsA) ({ frames := 0, cells := 0, slots := 0, locals := 0 }) (va_Pc [.ref m0] (fun U => U.heap.size = sz ∧ va_P (dC, dI) vwC [(m0, .inr (4, [.int 0, .ref md, .int 0, .int (-1), .int 0, .ref mh, .ref mn, .ref mc, .int 0, .int 1, .int 0, .int 0, .ref mo, .ref mb, .ref mk, .ref ml, .ref ms, .ref mw]))] U.heap ∧ KK dC dI cI cZ cJ cT U ∧ va_D (fun _ => True) [(m0, .inr (4, [.int 0, .ref md, .int 0, .int (-1), .int 0, .ref mh, .ref mn, .ref mc, .int 0, .int 1, .int 0, .int 0, .ref mo, .ref mb, .ref mk, .ref ml, .ref ms, .ref mw]))])) (va_Qi (S := Nat → Nat) (fun r _ => r = 0) (fun u t => va_P (dC, dI) vwC [(m0, .inr (4, [.int 0, .ref md, .int 0, .int (-1), .int 0, .ref mh, .ref mn, .ref mc, .int 0, .int 1, .int 0, .int 0, .ref mo, .ref mb, .ref mk, .ref ml, .ref ms, .ref mw]))] t.heap ∧ va_D (va_A [(m0, .inr (4, [.int 0, .ref md, .int 0, .int (-1), .int 0, .ref mh, .ref mn, .ref mc, .int 0, .int 1, .int 0, .int 0, .ref mo, .ref mb, .ref mk, .ref ml, .ref ms, .ref mw]))] sz) [(m0, .inr (4, [.int 0, .ref md, .int 0, .int (-1), .int 0, .ref mh, .ref mn, .ref mc, .int 0, .int 1, .int 0, .int 0, .ref mo, .ref mb, .ref mk, .ref ml, .ref ms, .ref mw]))]) (va_A [(m0, .inr (4, [.int 0, .ref md, .int 0, .int (-1), .int 0, .ref mh, .ref mn, .ref mc, .int 0, .int 1, .int 0, .int 0, .ref mo, .ref mb, .ref mk, .ref ml, .ref ms, .ref mw]))] sz)) 0 0 (va_A [(m0, .inr (4, [.int 0, .ref md, .int 0, .int (-1), .int 0, .ref mh, .ref mn, .ref mc, .int 0, .int 1, .int 0, .int 0, .ref mo, .ref mb, .ref mk, .ref ml, .ref ms, .ref mw]))] sz) := by
  refine Met.ofW (cc := cM_version) (maxL := 1) (ret := (some .int)) (by decide) rfl ?_
  intro p e s m args below meth c s₁ B hml hv
  obtain ⟨rfl, hsz, hP, hKK, hD0⟩ := hv
  have hK := hKK.1
  have hx := B.exec
  have hb := B.bytes
  have hr := B.returns
  have hw : ∀ w ∈ wsA, w.before _ s = true := fun w h => atoms_spec (ws := (Cond.code yM_version cM_version 1 (some .int) :: wsA)) B.pre w (List.mem_cons_of_mem _ h)
  have hown : s.vm.findClass "LoggedStoreModel" = some m.cls := findClass_of_methodNamed B.named
  have hlocks := B.notSynchronized
  subst hsz
  have hD := hD0.self (sz := s.heap.size)
  generalize hAe : va_A [(m0, .inr (4, [.int 0, .ref md, .int 0, .int (-1), .int 0, .ref mh, .ref mn, .ref mc, .int 0, .int 1, .int 0, .int 0, .ref mo, .ref mb, .ref mk, .ref ml, .ref ms, .ref mw]))] s.heap.size = A at hD ⊢
  have hA : ∀ q : Nat, s.heap.size ≤ q → A q := fun q h => by rw [← hAe]; exact Or.inr h
  have hS : va_S A s.heap s.heap [] := va_S.rf
  have hl := lv_entry ([.ref m0]) (n := 1) (Nat.le_of_ble_eq_true rfl)
  rw [lg_entry_eq]
  generalize (lg_sl ([.ref m0]) ++ List.replicate (1 - (lg_sl ([.ref m0])).length) Slot.unset).toArray = ls at hl ⊢
  have hl : lv_has ls 1 [(0, .ref m0)] := hl
  refine lv_aload_n hx hb dM_version_0 rfl (lv_at hl 0 rfl) ?_
  refine lv_aload_n hx hb dM_version_1 rfl (lv_at hl 0 rfl) ?_
  refine va_get (D := (dC, dI)) (ci := 4) (v := .int 0) (C := "LoggedStoreModel") (T := uM) (N := 18) hx hb hw inM hown hK hP 0 rfl rfl 2 (by decide) (hw _ w614) (fun _ h9 => h9) rfl dM_version_2 ?_
  refine lv_if_eq (tgt := 12) hx hb dM_version_5 (by decide) (fun _ => ?_) (fun h9 => absurd (by decide) h9)
  refine lv_iconst (v := 0) hx hb dM_version_12 (by decide) ?_
  refine va_put (D := (dC, dI)) (ci := 4) (v := .int 0) (ty := .int) (C := "LoggedStoreModel") (T := uM) (N := 18) hx hb hw inM tyM tyM_ok nmM hown hK hP hD hS 0 rfl rfl 0 (by decide) (hw _ w612) (fun _ h9 => h9) rfl (by decide +kernel) rfl rfl (Nat.le_of_ble_eq_true rfl) dM_version_13 (fun H locs hP hD hS => ?_)
  have hP : va_P (dC, dI) vwC [(m0, .inr (4, [.int 0, .ref md, .int 0, .int (-1), .int 0, .ref mh, .ref mn, .ref mc, .int 0, .int 1, .int 0, .int 0, .ref mo, .ref mb, .ref mk, .ref ml, .ref ms, .ref mw]))] H := hP
  have hD : va_D A [(m0, .inr (4, [.int 0, .ref md, .int 0, .int (-1), .int 0, .ref mh, .ref mn, .ref mc, .int 0, .int 1, .int 0, .int 0, .ref mo, .ref mb, .ref mk, .ref ml, .ref ms, .ref mw]))] := hD
  refine lv_aload_n hx hb dM_version_16 rfl (lv_at hl 0 rfl) ?_
  refine va_get (D := (dC, dI)) (ci := 4) (v := .int 0) (C := "LoggedStoreModel") (T := uM) (N := 18) hx hb hw inM hown hK hP 0 rfl rfl 2 (by decide) (hw _ w614) (fun _ h9 => h9) rfl dM_version_17 ?_
  refine lv_if_eq (tgt := 27) hx hb dM_version_20 (by decide) (fun _ => ?_) (fun h9 => absurd (by decide) h9)
  refine lv_aload_n hx hb dM_version_27 rfl (lv_at hl 0 rfl) ?_
  refine va_get (D := (dC, dI)) (ci := 4) (v := .int 0) (C := "LoggedStoreModel") (T := uM) (N := 18) hx hb hw inM hown hK hP 0 rfl rfl 8 (by decide) (hw _ w620) (fun _ h9 => h9) rfl dM_version_28 ?_
  have hP9 := hP.sub (ws' := [(m0, .inr (4, [.int 0, .ref md, .int 0, .int (-1), .int 0, .ref mh, .ref mn, .ref mc, .int 0, .int 1, .int 0, .int 0, .ref mo, .ref mb, .ref mk, .ref ml, .ref ms, .ref mw]))]) [0] rfl
  have hD9 := hD.sub (ws' := [(m0, .inr (4, [.int 0, .ref md, .int 0, .int (-1), .int 0, .ref mh, .ref mn, .ref mc, .int 0, .int 1, .int 0, .int 0, .ref mo, .ref mb, .ref mk, .ref ml, .ref ms, .ref mw]))]) [0] (by decide) rfl
  refine W.widen (k := 0) (n := 0) (by decide) (by decide) ?_
  exact W.iret (v := 0) hx hb hr (fun t ht hW => ⟨⟨0, fun _ => 0, rfl, rfl, by rw [ht]; exact hP9, hD9⟩, hS.F ht⟩) hS.2.2 dM_version_31

set_option maxHeartbeats 4000000 in
set_option maxRecDepth 100000 in
theorem c_M_left (l : Launch) (dC : Nat → ClassId) (dI : Nat → Nat → Nat) (cI cZ cJ cT : ClassId) (m0 md mh mn mc mo mb mk ml ms mw : Nat) (sz : Nat) : Met l yM_left (Cond.code yM_left cM_left 1 (some .int) :: wsA) ({ frames := 0, cells := 0, slots := 0, locals := 0 }) (va_Pc [.ref m0] (fun U => U.heap.size = sz ∧ va_P (dC, dI) vwC [(m0, .inr (4, [.int 0, .ref md, .int 0, .int (-1), .int 0, .ref mh, .ref mn, .ref mc, .int 0, .int 1, .int 0, .int 0, .ref mo, .ref mb, .ref mk, .ref ml, .ref ms, .ref mw]))] U.heap ∧ KK dC dI cI cZ cJ cT U ∧ va_D (fun _ => True) [(m0, .inr (4, [.int 0, .ref md, .int 0, .int (-1), .int 0, .ref mh, .ref mn, .ref mc, .int 0, .int 1, .int 0, .int 0, .ref mo, .ref mb, .ref mk, .ref ml, .ref ms, .ref mw]))])) (va_Qi (S := Nat → Nat) (fun r _ => r = 74) (fun u t => va_P (dC, dI) vwC [(m0, .inr (4, [.int 0, .ref md, .int 0, .int (-1), .int 0, .ref mh, .ref mn, .ref mc, .int 0, .int 1, .int 0, .int 0, .ref mo, .ref mb, .ref mk, .ref ml, .ref ms, .ref mw]))] t.heap ∧ va_D (va_A [(m0, .inr (4, [.int 0, .ref md, .int 0, .int (-1), .int 0, .ref mh, .ref mn, .ref mc, .int 0, .int 1, .int 0, .int 0, .ref mo, .ref mb, .ref mk, .ref ml, .ref ms, .ref mw]))] sz) [(m0, .inr (4, [.int 0, .ref md, .int 0, .int (-1), .int 0, .ref mh, .ref mn, .ref mc, .int 0, .int 1, .int 0, .int 0, .ref mo, .ref mb, .ref mk, .ref ml, .ref ms, .ref mw]))]) (va_A [(m0, .inr (4, [.int 0, .ref md, .int 0, .int (-1), .int 0, .ref mh, .ref mn, .ref mc, .int 0, .int 1, .int 0, .int 0, .ref mo, .ref mb, .ref mk, .ref ml, .ref ms, .ref mw]))] sz)) 0 0 (va_A [(m0, .inr (4, [.int 0, .ref md, .int 0, .int (-1), .int 0, .ref mh, .ref mn, .ref mc, .int 0, .int 1, .int 0, .int 0, .ref mo, .ref mb, .ref mk, .ref ml, .ref ms, .ref mw]))] sz) := by
  refine Met.ofW (cc := cM_left) (maxL := 1) (ret := (some .int)) (by decide) rfl ?_
  intro p e s m args below meth c s₁ B hml hv
  obtain ⟨rfl, hsz, hP, hKK, hD0⟩ := hv
  have hK := hKK.1
  have hx := B.exec
  have hb := B.bytes
  have hr := B.returns
  have hw : ∀ w ∈ wsA, w.before _ s = true := fun w h => atoms_spec (ws := (Cond.code yM_left cM_left 1 (some .int) :: wsA)) B.pre w (List.mem_cons_of_mem _ h)
  have hown : s.vm.findClass "LoggedStoreModel" = some m.cls := findClass_of_methodNamed B.named
  have hlocks := B.notSynchronized
  subst hsz
  have hD := hD0.self (sz := s.heap.size)
  generalize hAe : va_A [(m0, .inr (4, [.int 0, .ref md, .int 0, .int (-1), .int 0, .ref mh, .ref mn, .ref mc, .int 0, .int 1, .int 0, .int 0, .ref mo, .ref mb, .ref mk, .ref ml, .ref ms, .ref mw]))] s.heap.size = A at hD ⊢
  have hA : ∀ q : Nat, s.heap.size ≤ q → A q := fun q h => by rw [← hAe]; exact Or.inr h
  have hS : va_S A s.heap s.heap [] := va_S.rf
  have hl := lv_entry ([.ref m0]) (n := 1) (Nat.le_of_ble_eq_true rfl)
  rw [lg_entry_eq]
  generalize (lg_sl ([.ref m0]) ++ List.replicate (1 - (lg_sl ([.ref m0])).length) Slot.unset).toArray = ls at hl ⊢
  have hl : lv_has ls 1 [(0, .ref m0)] := hl
  refine lv_aload_n hx hb dM_left_0 rfl (lv_at hl 0 rfl) ?_
  refine lv_aload_n hx hb dM_left_1 rfl (lv_at hl 0 rfl) ?_
  refine va_get (D := (dC, dI)) (ci := 4) (v := .int 0) (C := "LoggedStoreModel") (T := uM) (N := 18) hx hb hw inM hown hK hP 0 rfl rfl 2 (by decide) (hw _ w614) (fun _ h9 => h9) rfl dM_left_2 ?_
  refine lv_if_eq (tgt := 12) hx hb dM_left_5 (by decide) (fun _ => ?_) (fun h9 => absurd (by decide) h9)
  refine lv_iconst (v := 0) hx hb dM_left_12 (by decide) ?_
  refine va_put (D := (dC, dI)) (ci := 4) (v := .int 0) (ty := .int) (C := "LoggedStoreModel") (T := uM) (N := 18) hx hb hw inM tyM tyM_ok nmM hown hK hP hD hS 0 rfl rfl 0 (by decide) (hw _ w612) (fun _ h9 => h9) rfl (by decide +kernel) rfl rfl (Nat.le_of_ble_eq_true rfl) dM_left_13 (fun H locs hP hD hS => ?_)
  have hP : va_P (dC, dI) vwC [(m0, .inr (4, [.int 0, .ref md, .int 0, .int (-1), .int 0, .ref mh, .ref mn, .ref mc, .int 0, .int 1, .int 0, .int 0, .ref mo, .ref mb, .ref mk, .ref ml, .ref ms, .ref mw]))] H := hP
  have hD : va_D A [(m0, .inr (4, [.int 0, .ref md, .int 0, .int (-1), .int 0, .ref mh, .ref mn, .ref mc, .int 0, .int 1, .int 0, .int 0, .ref mo, .ref mb, .ref mk, .ref ml, .ref ms, .ref mw]))] := hD
  refine lv_aload_n hx hb dM_left_16 rfl (lv_at hl 0 rfl) ?_
  refine va_get (D := (dC, dI)) (ci := 4) (v := .int 0) (C := "LoggedStoreModel") (T := uM) (N := 18) hx hb hw inM hown hK hP 0 rfl rfl 2 (by decide) (hw _ w614) (fun _ h9 => h9) rfl dM_left_17 ?_
  refine lv_if_eq (tgt := 27) hx hb dM_left_20 (by decide) (fun _ => ?_) (fun h9 => absurd (by decide) h9)
  refine lv_bipush (v := 74) hx hb dM_left_27 (by decide) ?_
  refine lv_aload_n hx hb dM_left_29 rfl (lv_at hl 0 rfl) ?_
  refine va_get (D := (dC, dI)) (ci := 4) (v := .int 0) (C := "LoggedStoreModel") (T := uM) (N := 18) hx hb hw inM hown hK hP 0 rfl rfl 11 (by decide) (hw _ w623) (fun _ h9 => h9) rfl dM_left_30 ?_
  refine lv_isub hx hb dM_left_33 ?_
  refine lv_topi (nm_r (e' := 74) (by decide +kernel) ?_)
  have hP9 := hP.sub (ws' := [(m0, .inr (4, [.int 0, .ref md, .int 0, .int (-1), .int 0, .ref mh, .ref mn, .ref mc, .int 0, .int 1, .int 0, .int 0, .ref mo, .ref mb, .ref mk, .ref ml, .ref ms, .ref mw]))]) [0] rfl
  have hD9 := hD.sub (ws' := [(m0, .inr (4, [.int 0, .ref md, .int 0, .int (-1), .int 0, .ref mh, .ref mn, .ref mc, .int 0, .int 1, .int 0, .int 0, .ref mo, .ref mb, .ref mk, .ref ml, .ref ms, .ref mw]))]) [0] (by decide) rfl
  refine W.widen (k := 0) (n := 0) (by decide) (by decide) ?_
  exact W.iret (v := 74) hx hb hr (fun t ht hW => ⟨⟨74, fun _ => 0, rfl, rfl, by rw [ht]; exact hP9, hD9⟩, hS.F ht⟩) hS.2.2 dM_left_34

set_option maxHeartbeats 4000000 in
set_option maxRecDepth 100000 in
theorem c_M_isDown (l : Launch) (dC : Nat → ClassId) (dI : Nat → Nat → Nat) (cI cZ cJ cT : ClassId) (m0 md mh mn mc mo mb mk ml ms mw : Nat) (sz : Nat) : Met l yM_isDown (Cond.code yM_isDown cM_isDown 1 (some .boolean) :: wsA) ({ frames := 0, cells := 0, slots := 0, locals := 0 }) (va_Pc [.ref m0] (fun U => U.heap.size = sz ∧ va_P (dC, dI) vwC [(m0, .inr (4, [.int 0, .ref md, .int 0, .int (-1), .int 0, .ref mh, .ref mn, .ref mc, .int 0, .int 1, .int 0, .int 0, .ref mo, .ref mb, .ref mk, .ref ml, .ref ms, .ref mw]))] U.heap ∧ KK dC dI cI cZ cJ cT U ∧ va_D (fun _ => True) [(m0, .inr (4, [.int 0, .ref md, .int 0, .int (-1), .int 0, .ref mh, .ref mn, .ref mc, .int 0, .int 1, .int 0, .int 0, .ref mo, .ref mb, .ref mk, .ref ml, .ref ms, .ref mw]))])) (va_Qi (S := Nat → Nat) (fun r _ => r = 0) (fun u t => va_P (dC, dI) vwC [(m0, .inr (4, [.int 0, .ref md, .int 0, .int (-1), .int 0, .ref mh, .ref mn, .ref mc, .int 0, .int 1, .int 0, .int 0, .ref mo, .ref mb, .ref mk, .ref ml, .ref ms, .ref mw]))] t.heap ∧ va_D (va_A [(m0, .inr (4, [.int 0, .ref md, .int 0, .int (-1), .int 0, .ref mh, .ref mn, .ref mc, .int 0, .int 1, .int 0, .int 0, .ref mo, .ref mb, .ref mk, .ref ml, .ref ms, .ref mw]))] sz) [(m0, .inr (4, [.int 0, .ref md, .int 0, .int (-1), .int 0, .ref mh, .ref mn, .ref mc, .int 0, .int 1, .int 0, .int 0, .ref mo, .ref mb, .ref mk, .ref ml, .ref ms, .ref mw]))]) (va_A [(m0, .inr (4, [.int 0, .ref md, .int 0, .int (-1), .int 0, .ref mh, .ref mn, .ref mc, .int 0, .int 1, .int 0, .int 0, .ref mo, .ref mb, .ref mk, .ref ml, .ref ms, .ref mw]))] sz)) 0 0 (va_A [(m0, .inr (4, [.int 0, .ref md, .int 0, .int (-1), .int 0, .ref mh, .ref mn, .ref mc, .int 0, .int 1, .int 0, .int 0, .ref mo, .ref mb, .ref mk, .ref ml, .ref ms, .ref mw]))] sz) := by
  refine Met.ofW (cc := cM_isDown) (maxL := 1) (ret := (some .boolean)) (by decide) rfl ?_
  intro p e s m args below meth c s₁ B hml hv
  obtain ⟨rfl, hsz, hP, hKK, hD0⟩ := hv
  have hK := hKK.1
  have hx := B.exec
  have hb := B.bytes
  have hr := B.returns
  have hw : ∀ w ∈ wsA, w.before _ s = true := fun w h => atoms_spec (ws := (Cond.code yM_isDown cM_isDown 1 (some .boolean) :: wsA)) B.pre w (List.mem_cons_of_mem _ h)
  have hown : s.vm.findClass "LoggedStoreModel" = some m.cls := findClass_of_methodNamed B.named
  have hlocks := B.notSynchronized
  subst hsz
  have hD := hD0.self (sz := s.heap.size)
  generalize hAe : va_A [(m0, .inr (4, [.int 0, .ref md, .int 0, .int (-1), .int 0, .ref mh, .ref mn, .ref mc, .int 0, .int 1, .int 0, .int 0, .ref mo, .ref mb, .ref mk, .ref ml, .ref ms, .ref mw]))] s.heap.size = A at hD ⊢
  have hA : ∀ q : Nat, s.heap.size ≤ q → A q := fun q h => by rw [← hAe]; exact Or.inr h
  have hS : va_S A s.heap s.heap [] := va_S.rf
  have hl := lv_entry ([.ref m0]) (n := 1) (Nat.le_of_ble_eq_true rfl)
  rw [lg_entry_eq]
  generalize (lg_sl ([.ref m0]) ++ List.replicate (1 - (lg_sl ([.ref m0])).length) Slot.unset).toArray = ls at hl ⊢
  have hl : lv_has ls 1 [(0, .ref m0)] := hl
  refine lv_aload_n hx hb dM_isDown_0 rfl (lv_at hl 0 rfl) ?_
  refine lv_iconst (v := 0) hx hb dM_isDown_1 (by decide) ?_
  refine va_put (D := (dC, dI)) (ci := 4) (v := .int 0) (ty := .int) (C := "LoggedStoreModel") (T := uM) (N := 18) hx hb hw inM tyM tyM_ok nmM hown hK hP hD hS 0 rfl rfl 0 (by decide) (hw _ w612) (fun _ h9 => h9) rfl (by decide +kernel) rfl rfl (Nat.le_of_ble_eq_true rfl) dM_isDown_2 (fun H locs hP hD hS => ?_)
  have hP : va_P (dC, dI) vwC [(m0, .inr (4, [.int 0, .ref md, .int 0, .int (-1), .int 0, .ref mh, .ref mn, .ref mc, .int 0, .int 1, .int 0, .int 0, .ref mo, .ref mb, .ref mk, .ref ml, .ref ms, .ref mw]))] H := hP
  have hD : va_D A [(m0, .inr (4, [.int 0, .ref md, .int 0, .int (-1), .int 0, .ref mh, .ref mn, .ref mc, .int 0, .int 1, .int 0, .int 0, .ref mo, .ref mb, .ref mk, .ref ml, .ref ms, .ref mw]))] := hD
  refine lv_aload_n hx hb dM_isDown_5 rfl (lv_at hl 0 rfl) ?_
  refine va_get (D := (dC, dI)) (ci := 4) (v := .int 0) (C := "LoggedStoreModel") (T := uM) (N := 18) hx hb hw inM hown hK hP 0 rfl rfl 2 (by decide) (hw _ w614) (fun _ h9 => h9) rfl dM_isDown_6 ?_
  have hP9 := hP.sub (ws' := [(m0, .inr (4, [.int 0, .ref md, .int 0, .int (-1), .int 0, .ref mh, .ref mn, .ref mc, .int 0, .int 1, .int 0, .int 0, .ref mo, .ref mb, .ref mk, .ref ml, .ref ms, .ref mw]))]) [0] rfl
  have hD9 := hD.sub (ws' := [(m0, .inr (4, [.int 0, .ref md, .int 0, .int (-1), .int 0, .ref mh, .ref mn, .ref mc, .int 0, .int 1, .int 0, .int 0, .ref mo, .ref mb, .ref mk, .ref ml, .ref ms, .ref mw]))]) [0] (by decide) rfl
  refine W.widen (k := 0) (n := 0) (by decide) (by decide) ?_
  exact W.zret (v := 0) (ty := .boolean) hx hb hr (by decide) (fun t ht hW => ⟨⟨0, fun _ => 0, rfl, rfl, by rw [ht]; exact hP9, hD9⟩, hS.F ht⟩) hS.2.2 dM_isDown_9

set_option maxHeartbeats 4000000 in
set_option maxRecDepth 100000 in
theorem c_M_arm (l : Launch) (dC : Nat → ClassId) (dI : Nat → Nat → Nat) (cI cZ cJ cT : ClassId) (m0 md mh mn mc mo mb mk ml ms mw : Nat) (n9 w9 : Int32) (sz : Nat) : Met l yM_arm (Cond.code yM_arm cM_arm 3 none :: wsA) ({ frames := 0, cells := 0, slots := 0, locals := 0 }) (va_Pc [.ref m0, .int n9, .int w9] (fun U => U.heap.size = sz ∧ va_P (dC, dI) vwC [(m0, .inr (4, [.int 0, .ref md, .int 0, .int (-1), .int 0, .ref mh, .ref mn, .ref mc, .int 0, .int 1, .int 0, .int 0, .ref mo, .ref mb, .ref mk, .ref ml, .ref ms, .ref mw]))] U.heap ∧ KK dC dI cI cZ cJ cT U ∧ va_D (fun _ => True) [(m0, .inr (4, [.int 0, .ref md, .int 0, .int (-1), .int 0, .ref mh, .ref mn, .ref mc, .int 0, .int 1, .int 0, .int 0, .ref mo, .ref mb, .ref mk, .ref ml, .ref ms, .ref mw]))])) (va_Qv (S := Nat → Nat) (fun _ => True) (fun _ _ => True) (va_A [(m0, .inr (4, [.int 0, .ref md, .int 0, .int (-1), .int 0, .ref mh, .ref mn, .ref mc, .int 0, .int 1, .int 0, .int 0, .ref mo, .ref mb, .ref mk, .ref ml, .ref ms, .ref mw]))] sz)) 0 0 (va_A [(m0, .inr (4, [.int 0, .ref md, .int 0, .int (-1), .int 0, .ref mh, .ref mn, .ref mc, .int 0, .int 1, .int 0, .int 0, .ref mo, .ref mb, .ref mk, .ref ml, .ref ms, .ref mw]))] sz) := by
  refine Met.ofW (cc := cM_arm) (maxL := 3) (ret := none) (by decide) rfl ?_
  intro p e s m args below meth c s₁ B hml hv
  obtain ⟨rfl, hsz, hP, hKK, hD0⟩ := hv
  have hK := hKK.1
  have hx := B.exec
  have hb := B.bytes
  have hr := B.returns
  have hw : ∀ w ∈ wsA, w.before _ s = true := fun w h => atoms_spec (ws := (Cond.code yM_arm cM_arm 3 none :: wsA)) B.pre w (List.mem_cons_of_mem _ h)
  have hown : s.vm.findClass "LoggedStoreModel" = some m.cls := findClass_of_methodNamed B.named
  have hlocks := B.notSynchronized
  subst hsz
  have hD := hD0.self (sz := s.heap.size)
  generalize hAe : va_A [(m0, .inr (4, [.int 0, .ref md, .int 0, .int (-1), .int 0, .ref mh, .ref mn, .ref mc, .int 0, .int 1, .int 0, .int 0, .ref mo, .ref mb, .ref mk, .ref ml, .ref ms, .ref mw]))] s.heap.size = A at hD ⊢
  have hA : ∀ q : Nat, s.heap.size ≤ q → A q := fun q h => by rw [← hAe]; exact Or.inr h
  have hS : va_S A s.heap s.heap [] := va_S.rf
  have hl := lv_entry ([.ref m0, .int n9, .int w9]) (n := 3) (Nat.le_of_ble_eq_true rfl)
  rw [lg_entry_eq]
  generalize (lg_sl ([.ref m0, .int n9, .int w9]) ++ List.replicate (3 - (lg_sl ([.ref m0, .int n9, .int w9])).length) Slot.unset).toArray = ls at hl ⊢
  have hl : lv_has ls 3 [(0, .ref m0), (1, .int n9), (2, .int w9)] := hl
  refine lv_aload_n hx hb dM_arm_0 rfl (lv_at hl 0 rfl) ?_
  refine lv_iconst (v := 0) hx hb dM_arm_1 (by decide) ?_
  refine va_put (D := (dC, dI)) (ci := 4) (v := .int 0) (ty := .int) (C := "LoggedStoreModel") (T := uM) (N := 18) hx hb hw inM tyM tyM_ok nmM hown hK hP hD hS 0 rfl rfl 0 (by decide) (hw _ w612) (fun _ h9 => h9) rfl (by decide +kernel) rfl rfl (Nat.le_of_ble_eq_true rfl) dM_arm_2 (fun H locs hP hD hS => ?_)
  have hP : va_P (dC, dI) vwC [(m0, .inr (4, [.int 0, .ref md, .int 0, .int (-1), .int 0, .ref mh, .ref mn, .ref mc, .int 0, .int 1, .int 0, .int 0, .ref mo, .ref mb, .ref mk, .ref ml, .ref ms, .ref mw]))] H := hP
  have hD : va_D A [(m0, .inr (4, [.int 0, .ref md, .int 0, .int (-1), .int 0, .ref mh, .ref mn, .ref mc, .int 0, .int 1, .int 0, .int 0, .ref mo, .ref mb, .ref mk, .ref ml, .ref ms, .ref mw]))] := hD
  refine lv_aload_n hx hb dM_arm_5 rfl (lv_at hl 0 rfl) ?_
  refine lv_iload_n hx hb dM_arm_6 rfl (lv_at hl 1 rfl) ?_
  refine lv_if_ge (tgt := 14) hx hb dM_arm_7 (by decide) (fun h7 => ?_) (fun h7 => ?_)
  · refine lv_iload_n hx hb dM_arm_14 rfl (lv_at hl 1 rfl) ?_
    refine va_put (D := (dC, dI)) (ci := 4) (v := .int n9) (ty := .int) (C := "LoggedStoreModel") (T := uM) (N := 18) hx hb hw inM tyM tyM_ok nmM hown hK hP hD hS 0 rfl rfl 3 (by decide) (hw _ w615) (fun _ h9 => h9) rfl (by decide +kernel) rfl rfl (Nat.le_of_ble_eq_true rfl) dM_arm_15 (fun H locs hP hD hS => ?_)
    have hP : va_P (dC, dI) vwC [(m0, .inr (4, [.int 0, .ref md, .int 0, .int n9, .int 0, .ref mh, .ref mn, .ref mc, .int 0, .int 1, .int 0, .int 0, .ref mo, .ref mb, .ref mk, .ref ml, .ref ms, .ref mw]))] H := hP
    have hD : va_D A [(m0, .inr (4, [.int 0, .ref md, .int 0, .int n9, .int 0, .ref mh, .ref mn, .ref mc, .int 0, .int 1, .int 0, .int 0, .ref mo, .ref mb, .ref mk, .ref ml, .ref ms, .ref mw]))] := hD
    refine lv_aload_n hx hb dM_arm_18 rfl (lv_at hl 0 rfl) ?_
    refine lv_iload_n hx hb dM_arm_19 rfl (lv_at hl 2 rfl) ?_
    refine lv_if_ge (tgt := 27) hx hb dM_arm_20 (by decide) (fun h8 => ?_) (fun h8 => ?_)
    · refine lv_iload_n hx hb dM_arm_27 rfl (lv_at hl 2 rfl) ?_
      refine lv_iconst (v := 3) hx hb dM_arm_28 (by decide) ?_
      refine lv_icmp_le (tgt := 36) hx hb dM_arm_29 (by decide) (fun h9 => ?_) (fun h9 => ?_)
      · refine lv_iload_n hx hb dM_arm_36 rfl (lv_at hl 2 rfl) ?_
        refine va_put (D := (dC, dI)) (ci := 4) (v := .int w9) (ty := .int) (C := "LoggedStoreModel") (T := uM) (N := 18) hx hb hw inM tyM tyM_ok nmM hown hK hP hD hS 0 rfl rfl 4 (by decide) (hw _ w616) (fun _ h9 => h9) rfl (by decide +kernel) rfl rfl (Nat.le_of_ble_eq_true rfl) dM_arm_37 (fun H locs hP hD hS => ?_)
        have hP : va_P (dC, dI) vwC [(m0, .inr (4, [.int 0, .ref md, .int 0, .int n9, .int w9, .ref mh, .ref mn, .ref mc, .int 0, .int 1, .int 0, .int 0, .ref mo, .ref mb, .ref mk, .ref ml, .ref ms, .ref mw]))] H := hP
        have hD : va_D A [(m0, .inr (4, [.int 0, .ref md, .int 0, .int n9, .int w9, .ref mh, .ref mn, .ref mc, .int 0, .int 1, .int 0, .int 0, .ref mo, .ref mb, .ref mk, .ref ml, .ref ms, .ref mw]))] := hD
        refine W.widen (k := 0) (n := 0) (by decide) (by decide) ?_
        exact W.vret hx hb hr (fun t ht hW => ⟨⟨fun _ => 0, rfl, trivial, trivial⟩, hS.F ht⟩) hS.2.2 dM_arm_40
      · refine lv_iconst (v := 3) hx hb dM_arm_32 (by decide) ?_
        refine lv_goto (tgt := 37) hx hb dM_arm_33 (by decide) ?_
        refine va_put (D := (dC, dI)) (ci := 4) (v := .int 3) (ty := .int) (C := "LoggedStoreModel") (T := uM) (N := 18) hx hb hw inM tyM tyM_ok nmM hown hK hP hD hS 0 rfl rfl 4 (by decide) (hw _ w616) (fun _ h9 => h9) rfl (by decide +kernel) rfl rfl (Nat.le_of_ble_eq_true rfl) dM_arm_37 (fun H locs hP hD hS => ?_)
        have hP : va_P (dC, dI) vwC [(m0, .inr (4, [.int 0, .ref md, .int 0, .int n9, .int 3, .ref mh, .ref mn, .ref mc, .int 0, .int 1, .int 0, .int 0, .ref mo, .ref mb, .ref mk, .ref ml, .ref ms, .ref mw]))] H := hP
        have hD : va_D A [(m0, .inr (4, [.int 0, .ref md, .int 0, .int n9, .int 3, .ref mh, .ref mn, .ref mc, .int 0, .int 1, .int 0, .int 0, .ref mo, .ref mb, .ref mk, .ref ml, .ref ms, .ref mw]))] := hD
        refine W.widen (k := 0) (n := 0) (by decide) (by decide) ?_
        exact W.vret hx hb hr (fun t ht hW => ⟨⟨fun _ => 0, rfl, trivial, trivial⟩, hS.F ht⟩) hS.2.2 dM_arm_40
    · refine lv_iconst (v := 0) hx hb dM_arm_23 (by decide) ?_
      refine lv_goto (tgt := 37) hx hb dM_arm_24 (by decide) ?_
      refine va_put (D := (dC, dI)) (ci := 4) (v := .int 0) (ty := .int) (C := "LoggedStoreModel") (T := uM) (N := 18) hx hb hw inM tyM tyM_ok nmM hown hK hP hD hS 0 rfl rfl 4 (by decide) (hw _ w616) (fun _ h9 => h9) rfl (by decide +kernel) rfl rfl (Nat.le_of_ble_eq_true rfl) dM_arm_37 (fun H locs hP hD hS => ?_)
      have hP : va_P (dC, dI) vwC [(m0, .inr (4, [.int 0, .ref md, .int 0, .int n9, .int 0, .ref mh, .ref mn, .ref mc, .int 0, .int 1, .int 0, .int 0, .ref mo, .ref mb, .ref mk, .ref ml, .ref ms, .ref mw]))] H := hP
      have hD : va_D A [(m0, .inr (4, [.int 0, .ref md, .int 0, .int n9, .int 0, .ref mh, .ref mn, .ref mc, .int 0, .int 1, .int 0, .int 0, .ref mo, .ref mb, .ref mk, .ref ml, .ref ms, .ref mw]))] := hD
      refine W.widen (k := 0) (n := 0) (by decide) (by decide) ?_
      exact W.vret hx hb hr (fun t ht hW => ⟨⟨fun _ => 0, rfl, trivial, trivial⟩, hS.F ht⟩) hS.2.2 dM_arm_40
  · refine lv_iconst (v := (-1)) hx hb dM_arm_10 (by decide) ?_
    refine lv_goto (tgt := 15) hx hb dM_arm_11 (by decide) ?_
    refine va_put (D := (dC, dI)) (ci := 4) (v := .int (-1)) (ty := .int) (C := "LoggedStoreModel") (T := uM) (N := 18) hx hb hw inM tyM tyM_ok nmM hown hK hP hD hS 0 rfl rfl 3 (by decide) (hw _ w615) (fun _ h9 => h9) rfl (by decide +kernel) rfl rfl (Nat.le_of_ble_eq_true rfl) dM_arm_15 (fun H locs hP hD hS => ?_)
    have hP : va_P (dC, dI) vwC [(m0, .inr (4, [.int 0, .ref md, .int 0, .int (-1), .int 0, .ref mh, .ref mn, .ref mc, .int 0, .int 1, .int 0, .int 0, .ref mo, .ref mb, .ref mk, .ref ml, .ref ms, .ref mw]))] H := hP
    have hD : va_D A [(m0, .inr (4, [.int 0, .ref md, .int 0, .int (-1), .int 0, .ref mh, .ref mn, .ref mc, .int 0, .int 1, .int 0, .int 0, .ref mo, .ref mb, .ref mk, .ref ml, .ref ms, .ref mw]))] := hD
    refine lv_aload_n hx hb dM_arm_18 rfl (lv_at hl 0 rfl) ?_
    refine lv_iload_n hx hb dM_arm_19 rfl (lv_at hl 2 rfl) ?_
    refine lv_if_ge (tgt := 27) hx hb dM_arm_20 (by decide) (fun h8 => ?_) (fun h8 => ?_)
    · refine lv_iload_n hx hb dM_arm_27 rfl (lv_at hl 2 rfl) ?_
      refine lv_iconst (v := 3) hx hb dM_arm_28 (by decide) ?_
      refine lv_icmp_le (tgt := 36) hx hb dM_arm_29 (by decide) (fun h9 => ?_) (fun h9 => ?_)
      · refine lv_iload_n hx hb dM_arm_36 rfl (lv_at hl 2 rfl) ?_
        refine va_put (D := (dC, dI)) (ci := 4) (v := .int w9) (ty := .int) (C := "LoggedStoreModel") (T := uM) (N := 18) hx hb hw inM tyM tyM_ok nmM hown hK hP hD hS 0 rfl rfl 4 (by decide) (hw _ w616) (fun _ h9 => h9) rfl (by decide +kernel) rfl rfl (Nat.le_of_ble_eq_true rfl) dM_arm_37 (fun H locs hP hD hS => ?_)
        have hP : va_P (dC, dI) vwC [(m0, .inr (4, [.int 0, .ref md, .int 0, .int (-1), .int w9, .ref mh, .ref mn, .ref mc, .int 0, .int 1, .int 0, .int 0, .ref mo, .ref mb, .ref mk, .ref ml, .ref ms, .ref mw]))] H := hP
        have hD : va_D A [(m0, .inr (4, [.int 0, .ref md, .int 0, .int (-1), .int w9, .ref mh, .ref mn, .ref mc, .int 0, .int 1, .int 0, .int 0, .ref mo, .ref mb, .ref mk, .ref ml, .ref ms, .ref mw]))] := hD
        refine W.widen (k := 0) (n := 0) (by decide) (by decide) ?_
        exact W.vret hx hb hr (fun t ht hW => ⟨⟨fun _ => 0, rfl, trivial, trivial⟩, hS.F ht⟩) hS.2.2 dM_arm_40
      · refine lv_iconst (v := 3) hx hb dM_arm_32 (by decide) ?_
        refine lv_goto (tgt := 37) hx hb dM_arm_33 (by decide) ?_
        refine va_put (D := (dC, dI)) (ci := 4) (v := .int 3) (ty := .int) (C := "LoggedStoreModel") (T := uM) (N := 18) hx hb hw inM tyM tyM_ok nmM hown hK hP hD hS 0 rfl rfl 4 (by decide) (hw _ w616) (fun _ h9 => h9) rfl (by decide +kernel) rfl rfl (Nat.le_of_ble_eq_true rfl) dM_arm_37 (fun H locs hP hD hS => ?_)
        have hP : va_P (dC, dI) vwC [(m0, .inr (4, [.int 0, .ref md, .int 0, .int (-1), .int 3, .ref mh, .ref mn, .ref mc, .int 0, .int 1, .int 0, .int 0, .ref mo, .ref mb, .ref mk, .ref ml, .ref ms, .ref mw]))] H := hP
        have hD : va_D A [(m0, .inr (4, [.int 0, .ref md, .int 0, .int (-1), .int 3, .ref mh, .ref mn, .ref mc, .int 0, .int 1, .int 0, .int 0, .ref mo, .ref mb, .ref mk, .ref ml, .ref ms, .ref mw]))] := hD
        refine W.widen (k := 0) (n := 0) (by decide) (by decide) ?_
        exact W.vret hx hb hr (fun t ht hW => ⟨⟨fun _ => 0, rfl, trivial, trivial⟩, hS.F ht⟩) hS.2.2 dM_arm_40
    · refine lv_iconst (v := 0) hx hb dM_arm_23 (by decide) ?_
      refine lv_goto (tgt := 37) hx hb dM_arm_24 (by decide) ?_
      refine va_put (D := (dC, dI)) (ci := 4) (v := .int 0) (ty := .int) (C := "LoggedStoreModel") (T := uM) (N := 18) hx hb hw inM tyM tyM_ok nmM hown hK hP hD hS 0 rfl rfl 4 (by decide) (hw _ w616) (fun _ h9 => h9) rfl (by decide +kernel) rfl rfl (Nat.le_of_ble_eq_true rfl) dM_arm_37 (fun H locs hP hD hS => ?_)
      have hP : va_P (dC, dI) vwC [(m0, .inr (4, [.int 0, .ref md, .int 0, .int (-1), .int 0, .ref mh, .ref mn, .ref mc, .int 0, .int 1, .int 0, .int 0, .ref mo, .ref mb, .ref mk, .ref ml, .ref ms, .ref mw]))] H := hP
      have hD : va_D A [(m0, .inr (4, [.int 0, .ref md, .int 0, .int (-1), .int 0, .ref mh, .ref mn, .ref mc, .int 0, .int 1, .int 0, .int 0, .ref mo, .ref mb, .ref mk, .ref ml, .ref ms, .ref mw]))] := hD
      refine W.widen (k := 0) (n := 0) (by decide) (by decide) ?_
      exact W.vret hx hb hr (fun t ht hW => ⟨⟨fun _ => 0, rfl, trivial, trivial⟩, hS.F ht⟩) hS.2.2 dM_arm_40

set_option maxHeartbeats 4000000 in
set_option maxRecDepth 100000 in
theorem c_M_number_x (l : Launch) (dC : Nat → ClassId) (dI : Nat → Nat → Nat) (cI cZ cJ cT : ClassId) (m0 md mh mn mc mo mb mk ml ms mw : Nat) (k9 : Int32) (sz : Nat) (hb9 : k9 < 0 ∨ (¬ k9 < 0 ∧ 63 < k9)) : Met l yM_number (Cond.code yM_number cM_number 2 (some .int) :: wsA) ({ frames := 1, cells := 0, slots := 0, locals := 22 }) (va_Pc [.ref m0, .int k9] (fun U => U.heap.size = sz ∧ va_P (dC, dI) vwC [(m0, .inr (4, [.int 0, .ref md, .int 0, .int (-1), .int 0, .ref mh, .ref mn, .ref mc, .int 0, .int 1, .int 0, .int 0, .ref mo, .ref mb, .ref mk, .ref ml, .ref ms, .ref mw]))] U.heap ∧ KK dC dI cI cZ cJ cT U ∧ va_D (fun _ => True) [(m0, .inr (4, [.int 0, .ref md, .int 0, .int (-1), .int 0, .ref mh, .ref mn, .ref mc, .int 0, .int 1, .int 0, .int 0, .ref mo, .ref mb, .ref mk, .ref ml, .ref ms, .ref mw]))])) (va_Qi (S := Nat → Nat) (fun r _ => r = 0) (fun u t => va_P (dC, dI) vwC [(m0, .inr (4, [.int 2, .ref md, .int 0, .int (-1), .int 0, .ref mh, .ref mn, .ref mc, .int 0, .int 1, .int 0, .int 0, .ref mo, .ref mb, .ref mk, .ref ml, .ref ms, .ref mw]))] t.heap ∧ va_D (va_A [(m0, .inr (4, [.int 0, .ref md, .int 0, .int (-1), .int 0, .ref mh, .ref mn, .ref mc, .int 0, .int 1, .int 0, .int 0, .ref mo, .ref mb, .ref mk, .ref ml, .ref ms, .ref mw]))] sz) [(m0, .inr (4, [.int 2, .ref md, .int 0, .int (-1), .int 0, .ref mh, .ref mn, .ref mc, .int 0, .int 1, .int 0, .int 0, .ref mo, .ref mb, .ref mk, .ref ml, .ref ms, .ref mw]))]) (va_A [(m0, .inr (4, [.int 0, .ref md, .int 0, .int (-1), .int 0, .ref mh, .ref mn, .ref mc, .int 0, .int 1, .int 0, .int 0, .ref mo, .ref mb, .ref mk, .ref ml, .ref ms, .ref mw]))] sz)) 0 0 (va_A [(m0, .inr (4, [.int 0, .ref md, .int 0, .int (-1), .int 0, .ref mh, .ref mn, .ref mc, .int 0, .int 1, .int 0, .int 0, .ref mo, .ref mb, .ref mk, .ref ml, .ref ms, .ref mw]))] sz) := by
  refine Met.ofW (cc := cM_number) (maxL := 2) (ret := (some .int)) (by decide) rfl ?_
  intro p e s m args below meth c s₁ B hml hv
  obtain ⟨rfl, hsz, hP, hKK, hD0⟩ := hv
  rcases hb9 with h1 | ⟨h1, h3⟩
  · have hK := hKK.1
    have hx := B.exec
    have hb := B.bytes
    have hr := B.returns
    have hw : ∀ w ∈ wsA, w.before _ s = true := fun w h => atoms_spec (ws := (Cond.code yM_number cM_number 2 (some .int) :: wsA)) B.pre w (List.mem_cons_of_mem _ h)
    have hown : s.vm.findClass "LoggedStoreModel" = some m.cls := findClass_of_methodNamed B.named
    have hlocks := B.notSynchronized
    subst hsz
    have hD := hD0.self (sz := s.heap.size)
    generalize hAe : va_A [(m0, .inr (4, [.int 0, .ref md, .int 0, .int (-1), .int 0, .ref mh, .ref mn, .ref mc, .int 0, .int 1, .int 0, .int 0, .ref mo, .ref mb, .ref mk, .ref ml, .ref ms, .ref mw]))] s.heap.size = A at hD ⊢
    have hA : ∀ q : Nat, s.heap.size ≤ q → A q := fun q h => by rw [← hAe]; exact Or.inr h
    have hS : va_S A s.heap s.heap [] := va_S.rf
    have hl := lv_entry ([.ref m0, .int k9]) (n := 2) (Nat.le_of_ble_eq_true rfl)
    rw [lg_entry_eq]
    generalize (lg_sl ([.ref m0, .int k9]) ++ List.replicate (2 - (lg_sl ([.ref m0, .int k9])).length) Slot.unset).toArray = ls at hl ⊢
    have hl : lv_has ls 2 [(0, .ref m0), (1, .int k9)] := hl
    refine lv_aload_n hx hb dM_number_0 rfl (lv_at hl 0 rfl) ?_
    refine lv_aload_n hx hb dM_number_1 rfl (lv_at hl 0 rfl) ?_
    refine va_get (D := (dC, dI)) (ci := 4) (v := .int 0) (C := "LoggedStoreModel") (T := uM) (N := 18) hx hb hw inM hown hK hP 0 rfl rfl 2 (by decide) (hw _ w614) (fun _ h9 => h9) rfl dM_number_2 ?_
    refine lv_if_eq (tgt := 12) hx hb dM_number_5 (by decide) (fun _ => ?_) (fun h9 => absurd (by decide) h9)
    refine lv_iload_n hx hb dM_number_12 rfl (lv_at hl 1 rfl) ?_
    refine lv_iconst (v := 0) hx hb dM_number_13 (by decide) ?_
    refine lv_bipush (v := 63) hx hb dM_number_14 (by decide) ?_
    have hPc := hP.sub (ws' := []) [] rfl
    refine vp_callSi (W.runS (As := [.int k9, .int 0, .int 63]) (rest := [.ref m0]) ⟨hx, hb, hml, hown, hw⟩ (c_within_f l dC dI cI cZ cJ cT k9 0 63 h1) ⟨callB_of 3 hw (gA0 w677) rfl rfl rfl (hw _ w45) (hw _ w675) (by decide +kernel) ⟨Nat.le_of_ble_eq_true rfl, Nat.le_of_ble_eq_true rfl⟩, (hw _ w676)⟩ ⟨kb_S, fun U hU hW => ⟨rfl, by rw [hU]; exact hPc, hKK.moved hW⟩⟩ rfl rfl hl.1 rfl (lv_room (Nat.le_of_ble_eq_true rfl)) dM_number_16 ⟨Nat.le_of_ble_eq_true rfl, Nat.le_of_ble_eq_true rfl⟩) (fun r1 e2 => ?_)
    obtain rfl : r1 = 0 := e2
    refine lv_if_ne (tgt := 26) hx hb dM_number_19 (by decide) (fun h9 => absurd (by decide) h9) (fun _ => ?_)
    refine lv_iconst (v := 2) hx hb dM_number_22 (by decide) ?_
    refine lv_goto (tgt := 40) hx hb dM_number_23 (by decide) ?_
    refine va_put (D := (dC, dI)) (ci := 4) (v := .int 2) (ty := .int) (C := "LoggedStoreModel") (T := uM) (N := 18) hx hb hw inM tyM tyM_ok nmM hown hK hP hD hS 0 rfl rfl 0 (by decide) (hw _ w612) (fun _ h9 => h9) rfl (by decide +kernel) rfl rfl (Nat.le_of_ble_eq_true rfl) dM_number_40 (fun H locs hP hD hS => ?_)
    have hP : va_P (dC, dI) vwC [(m0, .inr (4, [.int 2, .ref md, .int 0, .int (-1), .int 0, .ref mh, .ref mn, .ref mc, .int 0, .int 1, .int 0, .int 0, .ref mo, .ref mb, .ref mk, .ref ml, .ref ms, .ref mw]))] H := hP
    have hD : va_D A [(m0, .inr (4, [.int 2, .ref md, .int 0, .int (-1), .int 0, .ref mh, .ref mn, .ref mc, .int 0, .int 1, .int 0, .int 0, .ref mo, .ref mb, .ref mk, .ref ml, .ref ms, .ref mw]))] := hD
    refine lv_aload_n hx hb dM_number_43 rfl (lv_at hl 0 rfl) ?_
    refine va_get (D := (dC, dI)) (ci := 4) (v := .int 2) (C := "LoggedStoreModel") (T := uM) (N := 18) hx hb hw inM hown hK hP 0 rfl rfl 0 (by decide) (hw _ w612) (fun _ h9 => h9) rfl dM_number_44 ?_
    refine lv_if_le (tgt := 54) hx hb dM_number_47 (by decide) (fun h9 => absurd h9 (by decide)) (fun _ => ?_)
    refine lv_iconst (v := 0) hx hb dM_number_50 (by decide) ?_
    refine lv_goto (tgt := 60) hx hb dM_number_51 (by decide) ?_
    have hP9 := hP.sub (ws' := [(m0, .inr (4, [.int 2, .ref md, .int 0, .int (-1), .int 0, .ref mh, .ref mn, .ref mc, .int 0, .int 1, .int 0, .int 0, .ref mo, .ref mb, .ref mk, .ref ml, .ref ms, .ref mw]))]) [0] rfl
    have hD9 := hD.sub (ws' := [(m0, .inr (4, [.int 2, .ref md, .int 0, .int (-1), .int 0, .ref mh, .ref mn, .ref mc, .int 0, .int 1, .int 0, .int 0, .ref mo, .ref mb, .ref mk, .ref ml, .ref ms, .ref mw]))]) [0] (by decide) rfl
    refine W.widen (k := 0) (n := 0) (by decide) (by decide) ?_
    exact W.iret (v := 0) hx hb hr (fun t ht hW => ⟨⟨0, fun _ => 0, rfl, rfl, by rw [ht]; exact hP9, hD9⟩, hS.F ht⟩) hS.2.2 dM_number_60
  · have hK := hKK.1
    have hx := B.exec
    have hb := B.bytes
    have hr := B.returns
    have hw : ∀ w ∈ wsA, w.before _ s = true := fun w h => atoms_spec (ws := (Cond.code yM_number cM_number 2 (some .int) :: wsA)) B.pre w (List.mem_cons_of_mem _ h)
    have hown : s.vm.findClass "LoggedStoreModel" = some m.cls := findClass_of_methodNamed B.named
    have hlocks := B.notSynchronized
    subst hsz
    have hD := hD0.self (sz := s.heap.size)
    generalize hAe : va_A [(m0, .inr (4, [.int 0, .ref md, .int 0, .int (-1), .int 0, .ref mh, .ref mn, .ref mc, .int 0, .int 1, .int 0, .int 0, .ref mo, .ref mb, .ref mk, .ref ml, .ref ms, .ref mw]))] s.heap.size = A at hD ⊢
    have hA : ∀ q : Nat, s.heap.size ≤ q → A q := fun q h => by rw [← hAe]; exact Or.inr h
    have hS : va_S A s.heap s.heap [] := va_S.rf
    have hl := lv_entry ([.ref m0, .int k9]) (n := 2) (Nat.le_of_ble_eq_true rfl)
    rw [lg_entry_eq]
    generalize (lg_sl ([.ref m0, .int k9]) ++ List.replicate (2 - (lg_sl ([.ref m0, .int k9])).length) Slot.unset).toArray = ls at hl ⊢
    have hl : lv_has ls 2 [(0, .ref m0), (1, .int k9)] := hl
    refine lv_aload_n hx hb dM_number_0 rfl (lv_at hl 0 rfl) ?_
    refine lv_aload_n hx hb dM_number_1 rfl (lv_at hl 0 rfl) ?_
    refine va_get (D := (dC, dI)) (ci := 4) (v := .int 0) (C := "LoggedStoreModel") (T := uM) (N := 18) hx hb hw inM hown hK hP 0 rfl rfl 2 (by decide) (hw _ w614) (fun _ h9 => h9) rfl dM_number_2 ?_
    refine lv_if_eq (tgt := 12) hx hb dM_number_5 (by decide) (fun _ => ?_) (fun h9 => absurd (by decide) h9)
    refine lv_iload_n hx hb dM_number_12 rfl (lv_at hl 1 rfl) ?_
    refine lv_iconst (v := 0) hx hb dM_number_13 (by decide) ?_
    refine lv_bipush (v := 63) hx hb dM_number_14 (by decide) ?_
    have hPc := hP.sub (ws' := []) [] rfl
    refine vp_callSi (W.runS (As := [.int k9, .int 0, .int 63]) (rest := [.ref m0]) ⟨hx, hb, hml, hown, hw⟩ (c_within_g l dC dI cI cZ cJ cT k9 0 63 h1 h3) ⟨callB_of 3 hw (gA0 w677) rfl rfl rfl (hw _ w45) (hw _ w675) (by decide +kernel) ⟨Nat.le_of_ble_eq_true rfl, Nat.le_of_ble_eq_true rfl⟩, (hw _ w676)⟩ ⟨kb_S, fun U hU hW => ⟨rfl, by rw [hU]; exact hPc, hKK.moved hW⟩⟩ rfl rfl hl.1 rfl (lv_room (Nat.le_of_ble_eq_true rfl)) dM_number_16 ⟨Nat.le_of_ble_eq_true rfl, Nat.le_of_ble_eq_true rfl⟩) (fun r1 e2 => ?_)
    obtain rfl : r1 = 0 := e2
    refine lv_if_ne (tgt := 26) hx hb dM_number_19 (by decide) (fun h9 => absurd (by decide) h9) (fun _ => ?_)
    refine lv_iconst (v := 2) hx hb dM_number_22 (by decide) ?_
    refine lv_goto (tgt := 40) hx hb dM_number_23 (by decide) ?_
    refine va_put (D := (dC, dI)) (ci := 4) (v := .int 2) (ty := .int) (C := "LoggedStoreModel") (T := uM) (N := 18) hx hb hw inM tyM tyM_ok nmM hown hK hP hD hS 0 rfl rfl 0 (by decide) (hw _ w612) (fun _ h9 => h9) rfl (by decide +kernel) rfl rfl (Nat.le_of_ble_eq_true rfl) dM_number_40 (fun H locs hP hD hS => ?_)
    have hP : va_P (dC, dI) vwC [(m0, .inr (4, [.int 2, .ref md, .int 0, .int (-1), .int 0, .ref mh, .ref mn, .ref mc, .int 0, .int 1, .int 0, .int 0, .ref mo, .ref mb, .ref mk, .ref ml, .ref ms, .ref mw]))] H := hP
    have hD : va_D A [(m0, .inr (4, [.int 2, .ref md, .int 0, .int (-1), .int 0, .ref mh, .ref mn, .ref mc, .int 0, .int 1, .int 0, .int 0, .ref mo, .ref mb, .ref mk, .ref ml, .ref ms, .ref mw]))] := hD
    refine lv_aload_n hx hb dM_number_43 rfl (lv_at hl 0 rfl) ?_
    refine va_get (D := (dC, dI)) (ci := 4) (v := .int 2) (C := "LoggedStoreModel") (T := uM) (N := 18) hx hb hw inM hown hK hP 0 rfl rfl 0 (by decide) (hw _ w612) (fun _ h9 => h9) rfl dM_number_44 ?_
    refine lv_if_le (tgt := 54) hx hb dM_number_47 (by decide) (fun h9 => absurd h9 (by decide)) (fun _ => ?_)
    refine lv_iconst (v := 0) hx hb dM_number_50 (by decide) ?_
    refine lv_goto (tgt := 60) hx hb dM_number_51 (by decide) ?_
    have hP9 := hP.sub (ws' := [(m0, .inr (4, [.int 2, .ref md, .int 0, .int (-1), .int 0, .ref mh, .ref mn, .ref mc, .int 0, .int 1, .int 0, .int 0, .ref mo, .ref mb, .ref mk, .ref ml, .ref ms, .ref mw]))]) [0] rfl
    have hD9 := hD.sub (ws' := [(m0, .inr (4, [.int 2, .ref md, .int 0, .int (-1), .int 0, .ref mh, .ref mn, .ref mc, .int 0, .int 1, .int 0, .int 0, .ref mo, .ref mb, .ref mk, .ref ml, .ref ms, .ref mw]))]) [0] (by decide) rfl
    refine W.widen (k := 0) (n := 0) (by decide) (by decide) ?_
    exact W.iret (v := 0) hx hb hr (fun t ht hW => ⟨⟨0, fun _ => 0, rfl, rfl, by rw [ht]; exact hP9, hD9⟩, hS.F ht⟩) hS.2.2 dM_number_60

set_option maxHeartbeats 4000000 in
set_option maxRecDepth 100000 in
theorem c_M_number_y (l : Launch) (dC : Nat → ClassId) (dI : Nat → Nat → Nat) (cI cZ cJ cT : ClassId) (m0 md mh mn mc mo mb mk ml ms mw : Nat) (j : Nat) (sz : Nat) (hj : j < 64) : Met l yM_number (Cond.code yM_number cM_number 2 (some .int) :: wsA) ({ frames := 1, cells := 0, slots := 0, locals := 22 }) (va_Pc [.ref m0, .int (nI j)] (fun U => U.heap.size = sz ∧ va_P (dC, dI) vwC [(m0, .inr (4, [.int 0, .ref md, .int 0, .int (-1), .int 0, .ref mh, .ref mn, .ref mc, .int 0, .int 1, .int 0, .int 0, .ref mo, .ref mb, .ref mk, .ref ml, .ref ms, .ref mw])), (mh, .inl (cZ, 64, .inl (fun _ => 0)))] U.heap ∧ KK dC dI cI cZ cJ cT U ∧ va_D (fun _ => True) [(m0, .inr (4, [.int 0, .ref md, .int 0, .int (-1), .int 0, .ref mh, .ref mn, .ref mc, .int 0, .int 1, .int 0, .int 0, .ref mo, .ref mb, .ref mk, .ref ml, .ref ms, .ref mw])), (mh, .inl (cZ, 64, .inl (fun _ => 0)))])) (va_Qi (S := Nat → Nat) (fun r _ => r = 0) (fun u t => va_P (dC, dI) vwC [(m0, .inr (4, [.int 3, .ref md, .int 0, .int (-1), .int 0, .ref mh, .ref mn, .ref mc, .int 0, .int 1, .int 0, .int 0, .ref mo, .ref mb, .ref mk, .ref ml, .ref ms, .ref mw]))] t.heap ∧ va_D (va_A [(m0, .inr (4, [.int 0, .ref md, .int 0, .int (-1), .int 0, .ref mh, .ref mn, .ref mc, .int 0, .int 1, .int 0, .int 0, .ref mo, .ref mb, .ref mk, .ref ml, .ref ms, .ref mw])), (mh, .inl (cZ, 64, .inl (fun _ => 0)))] sz) [(m0, .inr (4, [.int 3, .ref md, .int 0, .int (-1), .int 0, .ref mh, .ref mn, .ref mc, .int 0, .int 1, .int 0, .int 0, .ref mo, .ref mb, .ref mk, .ref ml, .ref ms, .ref mw]))]) (va_A [(m0, .inr (4, [.int 0, .ref md, .int 0, .int (-1), .int 0, .ref mh, .ref mn, .ref mc, .int 0, .int 1, .int 0, .int 0, .ref mo, .ref mb, .ref mk, .ref ml, .ref ms, .ref mw])), (mh, .inl (cZ, 64, .inl (fun _ => 0)))] sz)) 0 0 (va_A [(m0, .inr (4, [.int 0, .ref md, .int 0, .int (-1), .int 0, .ref mh, .ref mn, .ref mc, .int 0, .int 1, .int 0, .int 0, .ref mo, .ref mb, .ref mk, .ref ml, .ref ms, .ref mw])), (mh, .inl (cZ, 64, .inl (fun _ => 0)))] sz) := by
  refine Met.ofW (cc := cM_number) (maxL := 2) (ret := (some .int)) (by decide) rfl ?_
  intro p e s m args below meth c s₁ B hml hv
  obtain ⟨rfl, hsz, hP, hKK, hD0⟩ := hv
  have hK := hKK.1
  have hx := B.exec
  have hb := B.bytes
  have hr := B.returns
  have hw : ∀ w ∈ wsA, w.before _ s = true := fun w h => atoms_spec (ws := (Cond.code yM_number cM_number 2 (some .int) :: wsA)) B.pre w (List.mem_cons_of_mem _ h)
  have hown : s.vm.findClass "LoggedStoreModel" = some m.cls := findClass_of_methodNamed B.named
  have hlocks := B.notSynchronized
  subst hsz
  have hD := hD0.self (sz := s.heap.size)
  generalize hAe : va_A [(m0, .inr (4, [.int 0, .ref md, .int 0, .int (-1), .int 0, .ref mh, .ref mn, .ref mc, .int 0, .int 1, .int 0, .int 0, .ref mo, .ref mb, .ref mk, .ref ml, .ref ms, .ref mw])), (mh, .inl (cZ, 64, .inl (fun _ => 0)))] s.heap.size = A at hD ⊢
  have hA : ∀ q : Nat, s.heap.size ≤ q → A q := fun q h => by rw [← hAe]; exact Or.inr h
  have hS : va_S A s.heap s.heap [] := va_S.rf
  have hl := lv_entry ([.ref m0, .int (nI j)]) (n := 2) (Nat.le_of_ble_eq_true rfl)
  rw [lg_entry_eq]
  generalize (lg_sl ([.ref m0, .int (nI j)]) ++ List.replicate (2 - (lg_sl ([.ref m0, .int (nI j)])).length) Slot.unset).toArray = ls at hl ⊢
  have hl : lv_has ls 2 [(0, .ref m0), (1, .int (nI j))] := hl
  refine lv_aload_n hx hb dM_number_0 rfl (lv_at hl 0 rfl) ?_
  refine lv_aload_n hx hb dM_number_1 rfl (lv_at hl 0 rfl) ?_
  refine va_get (D := (dC, dI)) (ci := 4) (v := .int 0) (C := "LoggedStoreModel") (T := uM) (N := 18) hx hb hw inM hown hK hP 0 rfl rfl 2 (by decide) (hw _ w614) (fun _ h9 => h9) rfl dM_number_2 ?_
  refine lv_if_eq (tgt := 12) hx hb dM_number_5 (by decide) (fun _ => ?_) (fun h9 => absurd (by decide) h9)
  refine lv_iload_n hx hb dM_number_12 rfl (lv_at hl 1 rfl) ?_
  refine lv_iconst (v := 0) hx hb dM_number_13 (by decide) ?_
  refine lv_bipush (v := 63) hx hb dM_number_14 (by decide) ?_
  have hPc := hP.sub (ws' := []) [] rfl
  refine vp_callSi (W.runS (As := [.int (nI j), .int 0, .int 63]) (rest := [.ref m0]) ⟨hx, hb, hml, hown, hw⟩ (c_within_t l dC dI cI cZ cJ cT (nI j) 0 63 (nI_pos (by omega)) (nI_nlt (a := 63) (b := j) (by omega) (by decide))) ⟨callB_of 3 hw (gA0 w677) rfl rfl rfl (hw _ w45) (hw _ w675) (by decide +kernel) ⟨Nat.le_of_ble_eq_true rfl, Nat.le_of_ble_eq_true rfl⟩, (hw _ w676)⟩ ⟨kb_S, fun U hU hW => ⟨rfl, by rw [hU]; exact hPc, hKK.moved hW⟩⟩ rfl rfl hl.1 rfl (lv_room (Nat.le_of_ble_eq_true rfl)) dM_number_16 ⟨Nat.le_of_ble_eq_true rfl, Nat.le_of_ble_eq_true rfl⟩) (fun r1 e2 => ?_)
  obtain rfl : r1 = 1 := e2
  refine lv_if_ne (tgt := 26) hx hb dM_number_19 (by decide) (fun _ => ?_) (fun h9 => absurd h9 (by decide))
  refine lv_aload_n hx hb dM_number_26 rfl (lv_at hl 0 rfl) ?_
  refine va_get (D := (dC, dI)) (ci := 4) (v := .ref mh) (C := "LoggedStoreModel") (T := uM) (N := 18) hx hb hw inM hown hK hP 0 rfl rfl 5 (by decide) (hw _ w617) (fun _ h9 => h9) rfl dM_number_27 ?_
  refine lv_iload_n hx hb dM_number_30 rfl (lv_at hl 1 rfl) ?_
  refine va_zald hx hb hK hP 1 1 rfl rfl (vp_in_nI hj (by decide)) dM_number_31 ?_
  refine lv_topi (nm_r (e' := 0) (rfl) ?_)
  refine lv_if_eq (tgt := 39) hx hb dM_number_32 (by decide) (fun _ => ?_) (fun h9 => absurd (by decide) h9)
  refine lv_iconst (v := 3) hx hb dM_number_39 (by decide) ?_
  refine va_put (D := (dC, dI)) (ci := 4) (v := .int 3) (ty := .int) (C := "LoggedStoreModel") (T := uM) (N := 18) hx hb hw inM tyM tyM_ok nmM hown hK hP hD hS 0 rfl rfl 0 (by decide) (hw _ w612) (fun _ h9 => h9) rfl (by decide +kernel) rfl rfl (Nat.le_of_ble_eq_true rfl) dM_number_40 (fun H locs hP hD hS => ?_)
  have hP : va_P (dC, dI) vwC [(m0, .inr (4, [.int 3, .ref md, .int 0, .int (-1), .int 0, .ref mh, .ref mn, .ref mc, .int 0, .int 1, .int 0, .int 0, .ref mo, .ref mb, .ref mk, .ref ml, .ref ms, .ref mw])), (mh, .inl (cZ, 64, .inl (fun _ => 0)))] H := hP
  have hD : va_D A [(m0, .inr (4, [.int 3, .ref md, .int 0, .int (-1), .int 0, .ref mh, .ref mn, .ref mc, .int 0, .int 1, .int 0, .int 0, .ref mo, .ref mb, .ref mk, .ref ml, .ref ms, .ref mw])), (mh, .inl (cZ, 64, .inl (fun _ => 0)))] := hD
  refine lv_aload_n hx hb dM_number_43 rfl (lv_at hl 0 rfl) ?_
  refine va_get (D := (dC, dI)) (ci := 4) (v := .int 3) (C := "LoggedStoreModel") (T := uM) (N := 18) hx hb hw inM hown hK hP 0 rfl rfl 0 (by decide) (hw _ w612) (fun _ h9 => h9) rfl dM_number_44 ?_
  refine lv_if_le (tgt := 54) hx hb dM_number_47 (by decide) (fun h9 => absurd h9 (by decide)) (fun _ => ?_)
  refine lv_iconst (v := 0) hx hb dM_number_50 (by decide) ?_
  refine lv_goto (tgt := 60) hx hb dM_number_51 (by decide) ?_
  have hP9 := hP.sub (ws' := [(m0, .inr (4, [.int 3, .ref md, .int 0, .int (-1), .int 0, .ref mh, .ref mn, .ref mc, .int 0, .int 1, .int 0, .int 0, .ref mo, .ref mb, .ref mk, .ref ml, .ref ms, .ref mw]))]) [0] rfl
  have hD9 := hD.sub (ws' := [(m0, .inr (4, [.int 3, .ref md, .int 0, .int (-1), .int 0, .ref mh, .ref mn, .ref mc, .int 0, .int 1, .int 0, .int 0, .ref mo, .ref mb, .ref mk, .ref ml, .ref ms, .ref mw]))]) [0] (by decide) rfl
  refine W.widen (k := 0) (n := 0) (by decide) (by decide) ?_
  exact W.iret (v := 0) hx hb hr (fun t ht hW => ⟨⟨0, fun _ => 0, rfl, rfl, by rw [ht]; exact hP9, hD9⟩, hS.F ht⟩) hS.2.2 dM_number_60
end
section
set_option maxRecDepth 100000 in
theorem w28 : (Cond.selects "LoggedStoreModel" yM_writeChecked yM_writeChecked) ∈ wsA := List.mem_filter.mpr ⟨List.mem_of_getElem? (i := 28) rfl, rfl⟩
set_option maxRecDepth 100000 in
theorem w29 : (Cond.selects "LoggedStoreModel" yM_write yM_write) ∈ wsA := List.mem_filter.mpr ⟨List.mem_of_getElem? (i := 29) rfl, rfl⟩
set_option maxRecDepth 100000 in
theorem w30 : (Cond.selects "LoggedStoreModel" yM_putWord yM_putWord) ∈ wsA := List.mem_filter.mpr ⟨List.mem_of_getElem? (i := 30) rfl, rfl⟩
set_option maxRecDepth 100000 in
theorem w34 : (Cond.selects "LoggedStoreModel" yM_counts yM_counts) ∈ wsA := List.mem_filter.mpr ⟨List.mem_of_getElem? (i := 34) rfl, rfl⟩
set_option maxRecDepth 100000 in
theorem w35 : (Cond.selects "LoggedStoreModel" yM_isGood yM_isGood) ∈ wsA := List.mem_filter.mpr ⟨List.mem_of_getElem? (i := 35) rfl, rfl⟩
set_option maxRecDepth 100000 in
theorem w36 : (Cond.selects "LoggedStoreModel" yM_takeArea yM_takeArea) ∈ wsA := List.mem_filter.mpr ⟨List.mem_of_getElem? (i := 36) rfl, rfl⟩
set_option maxRecDepth 100000 in
theorem w37 : (Cond.selects "LoggedStoreModel" yM_takeLog yM_takeLog) ∈ wsA := List.mem_filter.mpr ⟨List.mem_of_getElem? (i := 37) rfl, rfl⟩
set_option maxRecDepth 100000 in
theorem w622 : (Cond.fieldLink "LoggedStoreModel" 121 "LoggedStoreModel" "area" "I") ∈ wsA := List.mem_filter.mpr ⟨List.mem_of_getElem? (i := 622) rfl, rfl⟩
set_option maxRecDepth 100000 in
theorem w730 : (Cond.methodLink "LoggedStoreModel" 98 yM_writeChecked) ∈ wsA := List.mem_filter.mpr ⟨List.mem_of_getElem? (i := 730) rfl, rfl⟩
set_option maxRecDepth 100000 in
theorem w732 : (Cond.instanceMethod yM_writeChecked) ∈ wsA := List.mem_filter.mpr ⟨List.mem_of_getElem? (i := 732) rfl, rfl⟩
set_option maxRecDepth 100000 in
theorem w733 : (Cond.code yM_writeChecked cM_writeChecked 5 none) ∈ wsA := List.mem_filter.mpr ⟨List.mem_of_getElem? (i := 733) rfl, rfl⟩
set_option maxRecDepth 100000 in
theorem w734 : (Cond.methodLink "LoggedStoreModel" 69 yM_write) ∈ wsA := List.mem_filter.mpr ⟨List.mem_of_getElem? (i := 734) rfl, rfl⟩
set_option maxRecDepth 100000 in
theorem w736 : (Cond.instanceMethod yM_write) ∈ wsA := List.mem_filter.mpr ⟨List.mem_of_getElem? (i := 736) rfl, rfl⟩
set_option maxRecDepth 100000 in
theorem w737 : (Cond.code yM_write cM_write 6 none) ∈ wsA := List.mem_filter.mpr ⟨List.mem_of_getElem? (i := 737) rfl, rfl⟩
set_option maxRecDepth 100000 in
theorem w738 : (Cond.methodLink "LoggedStoreModel" 65 yM_putWord) ∈ wsA := List.mem_filter.mpr ⟨List.mem_of_getElem? (i := 738) rfl, rfl⟩
set_option maxRecDepth 100000 in
theorem w740 : (Cond.instanceMethod yM_putWord) ∈ wsA := List.mem_filter.mpr ⟨List.mem_of_getElem? (i := 740) rfl, rfl⟩
set_option maxRecDepth 100000 in
theorem w741 : (Cond.code yM_putWord cM_putWord 4 none) ∈ wsA := List.mem_filter.mpr ⟨List.mem_of_getElem? (i := 741) rfl, rfl⟩
set_option maxRecDepth 100000 in
theorem w749 : (Cond.code yM_checkpoint cM_checkpoint 6 (some .int)) ∈ wsA := List.mem_filter.mpr ⟨List.mem_of_getElem? (i := 749) rfl, rfl⟩
set_option maxRecDepth 100000 in
theorem w761 : (Cond.code yM_recover cM_recover 3 (some .int)) ∈ wsA := List.mem_filter.mpr ⟨List.mem_of_getElem? (i := 761) rfl, rfl⟩
set_option maxRecDepth 100000 in
theorem w762 : (Cond.methodLink "LoggedStoreModel" 133 yM_counts) ∈ wsA := List.mem_filter.mpr ⟨List.mem_of_getElem? (i := 762) rfl, rfl⟩
set_option maxRecDepth 100000 in
theorem w764 : (Cond.instanceMethod yM_counts) ∈ wsA := List.mem_filter.mpr ⟨List.mem_of_getElem? (i := 764) rfl, rfl⟩
set_option maxRecDepth 100000 in
theorem w765 : (Cond.code yM_counts cM_counts 2 (some .boolean)) ∈ wsA := List.mem_filter.mpr ⟨List.mem_of_getElem? (i := 765) rfl, rfl⟩
set_option maxRecDepth 100000 in
theorem w766 : (Cond.methodLink "LoggedStoreModel" 127 yM_isGood) ∈ wsA := List.mem_filter.mpr ⟨List.mem_of_getElem? (i := 766) rfl, rfl⟩
set_option maxRecDepth 100000 in
theorem w768 : (Cond.instanceMethod yM_isGood) ∈ wsA := List.mem_filter.mpr ⟨List.mem_of_getElem? (i := 768) rfl, rfl⟩
set_option maxRecDepth 100000 in
theorem w769 : (Cond.code yM_isGood cM_isGood 2 (some .boolean)) ∈ wsA := List.mem_filter.mpr ⟨List.mem_of_getElem? (i := 769) rfl, rfl⟩
set_option maxRecDepth 100000 in
theorem w770 : (Cond.methodLink "LoggedStoreModel" 136 yM_takeArea) ∈ wsA := List.mem_filter.mpr ⟨List.mem_of_getElem? (i := 770) rfl, rfl⟩
set_option maxRecDepth 100000 in
theorem w772 : (Cond.instanceMethod yM_takeArea) ∈ wsA := List.mem_filter.mpr ⟨List.mem_of_getElem? (i := 772) rfl, rfl⟩
set_option maxRecDepth 100000 in
theorem w773 : (Cond.code yM_takeArea cM_takeArea 5 none) ∈ wsA := List.mem_filter.mpr ⟨List.mem_of_getElem? (i := 773) rfl, rfl⟩
set_option maxRecDepth 100000 in
theorem w774 : (Cond.methodLink "LoggedStoreModel" 139 yM_takeLog) ∈ wsA := List.mem_filter.mpr ⟨List.mem_of_getElem? (i := 774) rfl, rfl⟩
set_option maxRecDepth 100000 in
theorem w776 : (Cond.instanceMethod yM_takeLog) ∈ wsA := List.mem_filter.mpr ⟨List.mem_of_getElem? (i := 776) rfl, rfl⟩
set_option maxRecDepth 100000 in
theorem w777 : (Cond.code yM_takeLog cM_takeLog 7 none) ∈ wsA := List.mem_filter.mpr ⟨List.mem_of_getElem? (i := 777) rfl, rfl⟩
set_option maxRecDepth 100000 in
theorem w809 : (Cond.code yM_word cM_word 3 (some .int)) ∈ wsA := List.mem_filter.mpr ⟨List.mem_of_getElem? (i := 809) rfl, rfl⟩
theorem dM_word_0 : decode cM_word 0 = .ok (.aload_n 0, 1) := by decide +kernel
theorem dM_word_1 : decode cM_word 1 = .ok (.iconst 0, 1) := by decide +kernel
theorem dM_word_2 : decode cM_word 2 = .ok (.putfield 52, 3) := by decide +kernel
theorem dM_word_5 : decode cM_word 5 = .ok (.iload_n 1, 1) := by decide +kernel
theorem dM_word_6 : decode cM_word 6 = .ok (.iconst 0, 1) := by decide +kernel
theorem dM_word_7 : decode cM_word 7 = .ok (.bipush 95, 2) := by decide +kernel
theorem dM_word_9 : decode cM_word 9 = .ok (.invokestatic 73, 3) := by decide +kernel
theorem dM_word_12 : decode cM_word 12 = .ok (.ifCond .eq 25, 3) := by decide +kernel
theorem dM_word_15 : decode cM_word 15 = .ok (.iload_n 2, 1) := by decide +kernel
theorem dM_word_16 : decode cM_word 16 = .ok (.iconst 0, 1) := by decide +kernel
theorem dM_word_17 : decode cM_word 17 = .ok (.iconst 3, 1) := by decide +kernel
theorem dM_word_18 : decode cM_word 18 = .ok (.invokestatic 73, 3) := by decide +kernel
theorem dM_word_21 : decode cM_word 21 = .ok (.ifCond .eq 16, 3) := by decide +kernel
theorem dM_word_24 : decode cM_word 24 = .ok (.aload_n 0, 1) := by decide +kernel
theorem dM_word_25 : decode cM_word 25 = .ok (.getfield 7, 3) := by decide +kernel
theorem dM_word_28 : decode cM_word 28 = .ok (.iconst 4, 1) := by decide +kernel
theorem dM_word_29 : decode cM_word 29 = .ok (.iload_n 1, 1) := by decide +kernel
theorem dM_word_30 : decode cM_word 30 = .ok (.imul, 1) := by decide +kernel
theorem dM_word_31 : decode cM_word 31 = .ok (.iload_n 2, 1) := by decide +kernel
theorem dM_word_32 : decode cM_word 32 = .ok (.iadd, 1) := by decide +kernel
theorem dM_word_33 : decode cM_word 33 = .ok (.iaload, 1) := by decide +kernel
theorem dM_word_34 : decode cM_word 34 = .ok (.goto 4, 3) := by decide +kernel
theorem dM_word_37 : decode cM_word 37 = .ok (.iconst 0, 1) := by decide +kernel
theorem dM_word_38 : decode cM_word 38 = .ok (.ireturn, 1) := by decide +kernel
theorem dM_putWord_0 : decode cM_putWord 0 = .ok (.aload_n 0, 1) := by decide +kernel
theorem dM_putWord_1 : decode cM_putWord 1 = .ok (.getfield 13, 3) := by decide +kernel
theorem dM_putWord_4 : decode cM_putWord 4 = .ok (.ifCond .ne 11, 3) := by decide +kernel
theorem dM_putWord_15 : decode cM_putWord 15 = .ok (.aload_n 0, 1) := by decide +kernel
theorem dM_putWord_16 : decode cM_putWord 16 = .ok (.getfield 7, 3) := by decide +kernel
theorem dM_putWord_19 : decode cM_putWord 19 = .ok (.iconst 4, 1) := by decide +kernel
theorem dM_putWord_20 : decode cM_putWord 20 = .ok (.iload_n 1, 1) := by decide +kernel
theorem dM_putWord_21 : decode cM_putWord 21 = .ok (.imul, 1) := by decide +kernel
theorem dM_putWord_22 : decode cM_putWord 22 = .ok (.iload_n 2, 1) := by decide +kernel
theorem dM_putWord_23 : decode cM_putWord 23 = .ok (.iadd, 1) := by decide +kernel
theorem dM_putWord_24 : decode cM_putWord 24 = .ok (.iload_n 3, 1) := by decide +kernel
theorem dM_putWord_25 : decode cM_putWord 25 = .ok (.iastore, 1) := by decide +kernel
theorem dM_putWord_26 : decode cM_putWord 26 = .ok (.return_, 1) := by decide +kernel
theorem dM_write_0 : decode cM_write 0 = .ok (.aload_n 0, 1) := by decide +kernel
theorem dM_write_1 : decode cM_write 1 = .ok (.getfield 61, 3) := by decide +kernel
theorem dM_write_4 : decode cM_write 4 = .ok (.ifCond .eq 4, 3) := by decide +kernel
theorem dM_write_8 : decode cM_write 8 = .ok (.aload_n 0, 1) := by decide +kernel
theorem dM_write_9 : decode cM_write 9 = .ok (.iload_n 1, 1) := by decide +kernel
theorem dM_write_10 : decode cM_write 10 = .ok (.iconst 0, 1) := by decide +kernel
theorem dM_write_11 : decode cM_write 11 = .ok (.iload_n 2, 1) := by decide +kernel
theorem dM_write_12 : decode cM_write 12 = .ok (.invokevirtual 65, 3) := by decide +kernel
theorem dM_write_15 : decode cM_write 15 = .ok (.aload_n 0, 1) := by decide +kernel
theorem dM_write_16 : decode cM_write 16 = .ok (.iload_n 1, 1) := by decide +kernel
theorem dM_write_17 : decode cM_write 17 = .ok (.iconst 1, 1) := by decide +kernel
theorem dM_write_18 : decode cM_write 18 = .ok (.iload_n 3, 1) := by decide +kernel
theorem dM_write_19 : decode cM_write 19 = .ok (.invokevirtual 65, 3) := by decide +kernel
theorem dM_write_22 : decode cM_write 22 = .ok (.aload_n 0, 1) := by decide +kernel
theorem dM_write_23 : decode cM_write 23 = .ok (.iload_n 1, 1) := by decide +kernel
theorem dM_write_24 : decode cM_write 24 = .ok (.iconst 2, 1) := by decide +kernel
theorem dM_write_25 : decode cM_write 25 = .ok (.iload 4, 2) := by decide +kernel
theorem dM_write_27 : decode cM_write 27 = .ok (.invokevirtual 65, 3) := by decide +kernel
theorem dM_write_30 : decode cM_write 30 = .ok (.aload_n 0, 1) := by decide +kernel
theorem dM_write_31 : decode cM_write 31 = .ok (.iload_n 1, 1) := by decide +kernel
theorem dM_write_32 : decode cM_write 32 = .ok (.iconst 3, 1) := by decide +kernel
theorem dM_write_33 : decode cM_write 33 = .ok (.iload 5, 2) := by decide +kernel
theorem dM_write_35 : decode cM_write 35 = .ok (.invokevirtual 65, 3) := by decide +kernel
theorem dM_write_38 : decode cM_write 38 = .ok (.aload_n 0, 1) := by decide +kernel
theorem dM_write_39 : decode cM_write 39 = .ok (.aload_n 0, 1) := by decide +kernel
theorem dM_write_40 : decode cM_write 40 = .ok (.getfield 13, 3) := by decide +kernel
theorem dM_write_43 : decode cM_write 43 = .ok (.ifCond .ne 7, 3) := by decide +kernel
theorem dM_write_50 : decode cM_write 50 = .ok (.iconst 0, 1) := by decide +kernel
theorem dM_write_51 : decode cM_write 51 = .ok (.putfield 61, 3) := by decide +kernel
theorem dM_write_54 : decode cM_write 54 = .ok (.aload_n 0, 1) := by decide +kernel
theorem dM_write_55 : decode cM_write 55 = .ok (.aload_n 0, 1) := by decide +kernel
theorem dM_write_56 : decode cM_write 56 = .ok (.getfield 13, 3) := by decide +kernel
theorem dM_write_59 : decode cM_write 59 = .ok (.ifCond .le 12, 3) := by decide +kernel
theorem dM_write_71 : decode cM_write 71 = .ok (.aload_n 0, 1) := by decide +kernel
theorem dM_write_72 : decode cM_write 72 = .ok (.getfield 13, 3) := by decide +kernel
theorem dM_write_75 : decode cM_write 75 = .ok (.putfield 13, 3) := by decide +kernel
theorem dM_write_78 : decode cM_write 78 = .ok (.return_, 1) := by decide +kernel
theorem dM_writeChecked_0 : decode cM_writeChecked 0 = .ok (.aload_n 0, 1) := by decide +kernel
theorem dM_writeChecked_1 : decode cM_writeChecked 1 = .ok (.iload_n 1, 1) := by decide +kernel
theorem dM_writeChecked_2 : decode cM_writeChecked 2 = .ok (.iload_n 2, 1) := by decide +kernel
theorem dM_writeChecked_3 : decode cM_writeChecked 3 = .ok (.iload_n 3, 1) := by decide +kernel
theorem dM_writeChecked_4 : decode cM_writeChecked 4 = .ok (.iload 4, 2) := by decide +kernel
theorem dM_writeChecked_6 : decode cM_writeChecked 6 = .ok (.iload_n 2, 1) := by decide +kernel
theorem dM_writeChecked_7 : decode cM_writeChecked 7 = .ok (.iload_n 3, 1) := by decide +kernel
theorem dM_writeChecked_8 : decode cM_writeChecked 8 = .ok (.iload 4, 2) := by decide +kernel
theorem dM_writeChecked_10 : decode cM_writeChecked 10 = .ok (.iload_n 1, 1) := by decide +kernel
theorem dM_writeChecked_11 : decode cM_writeChecked 11 = .ok (.invokestatic 48, 3) := by decide +kernel
theorem dM_writeChecked_14 : decode cM_writeChecked 14 = .ok (.invokevirtual 69, 3) := by decide +kernel
theorem dM_writeChecked_17 : decode cM_writeChecked 17 = .ok (.return_, 1) := by decide +kernel
theorem dM_checkpoint_0 : decode cM_checkpoint 0 = .ok (.aload_n 0, 1) := by decide +kernel
theorem dM_checkpoint_1 : decode cM_checkpoint 1 = .ok (.aload_n 0, 1) := by decide +kernel
theorem dM_checkpoint_2 : decode cM_checkpoint 2 = .ok (.getfield 61, 3) := by decide +kernel
theorem dM_checkpoint_5 : decode cM_checkpoint 5 = .ok (.ifCond .eq 7, 3) := by decide +kernel
theorem dM_checkpoint_12 : decode cM_checkpoint 12 = .ok (.iconst 0, 1) := by decide +kernel
theorem dM_checkpoint_13 : decode cM_checkpoint 13 = .ok (.putfield 52, 3) := by decide +kernel
theorem dM_checkpoint_16 : decode cM_checkpoint 16 = .ok (.aload_n 0, 1) := by decide +kernel
theorem dM_checkpoint_17 : decode cM_checkpoint 17 = .ok (.getfield 52, 3) := by decide +kernel
theorem dM_checkpoint_20 : decode cM_checkpoint 20 = .ok (.ifCond .le 5, 3) := by decide +kernel
theorem dM_checkpoint_25 : decode cM_checkpoint 25 = .ok (.aload_n 0, 1) := by decide +kernel
theorem dM_checkpoint_26 : decode cM_checkpoint 26 = .ok (.invokevirtual 117, 3) := by decide +kernel
theorem dM_checkpoint_29 : decode cM_checkpoint 29 = .ok (.istore_n 1, 1) := by decide +kernel
theorem dM_checkpoint_30 : decode cM_checkpoint 30 = .ok (.iconst 1, 1) := by decide +kernel
theorem dM_checkpoint_31 : decode cM_checkpoint 31 = .ok (.aload_n 0, 1) := by decide +kernel
theorem dM_checkpoint_32 : decode cM_checkpoint 32 = .ok (.getfield 121, 3) := by decide +kernel
theorem dM_checkpoint_35 : decode cM_checkpoint 35 = .ok (.isub, 1) := by decide +kernel
theorem dM_checkpoint_36 : decode cM_checkpoint 36 = .ok (.istore_n 2, 1) := by decide +kernel
theorem dM_checkpoint_37 : decode cM_checkpoint 37 = .ok (.iconst 0, 1) := by decide +kernel
theorem dM_checkpoint_38 : decode cM_checkpoint 38 = .ok (.istore_n 3, 1) := by decide +kernel
theorem dM_checkpoint_39 : decode cM_checkpoint 39 = .ok (.iload_n 3, 1) := by decide +kernel
theorem dM_checkpoint_40 : decode cM_checkpoint 40 = .ok (.iload_n 1, 1) := by decide +kernel
theorem dM_checkpoint_41 : decode cM_checkpoint 41 = .ok (.if_icmp .ge 79, 3) := by decide +kernel
theorem dM_checkpoint_120 : decode cM_checkpoint 120 = .ok (.aload_n 0, 1) := by decide +kernel
theorem dM_checkpoint_121 : decode cM_checkpoint 121 = .ok (.aload_n 0, 1) := by decide +kernel
theorem dM_checkpoint_122 : decode cM_checkpoint 122 = .ok (.getfield 27, 3) := by decide +kernel
theorem dM_checkpoint_125 : decode cM_checkpoint 125 = .ok (.iconst 2, 1) := by decide +kernel
theorem dM_checkpoint_126 : decode cM_checkpoint 126 = .ok (.irem, 1) := by decide +kernel
theorem dM_checkpoint_127 : decode cM_checkpoint 127 = .ok (.iconst 1, 1) := by decide +kernel
theorem dM_checkpoint_128 : decode cM_checkpoint 128 = .ok (.if_icmp .ne 7, 3) := by decide +kernel
theorem dM_checkpoint_131 : decode cM_checkpoint 131 = .ok (.iconst 1, 1) := by decide +kernel
theorem dM_checkpoint_132 : decode cM_checkpoint 132 = .ok (.goto 4, 3) := by decide +kernel
theorem dM_checkpoint_136 : decode cM_checkpoint 136 = .ok (.aload_n 0, 1) := by decide +kernel
theorem dM_checkpoint_137 : decode cM_checkpoint 137 = .ok (.getfield 27, 3) := by decide +kernel
theorem dM_checkpoint_140 : decode cM_checkpoint 140 = .ok (.iconst 1, 1) := by decide +kernel
theorem dM_checkpoint_141 : decode cM_checkpoint 141 = .ok (.iadd, 1) := by decide +kernel
theorem dM_checkpoint_142 : decode cM_checkpoint 142 = .ok (.bipush 64, 2) := by decide +kernel
theorem dM_checkpoint_144 : decode cM_checkpoint 144 = .ok (.iload_n 2, 1) := by decide +kernel
theorem dM_checkpoint_145 : decode cM_checkpoint 145 = .ok (.imul, 1) := by decide +kernel
theorem dM_checkpoint_146 : decode cM_checkpoint 146 = .ok (.iload_n 1, 1) := by decide +kernel
theorem dM_checkpoint_147 : decode cM_checkpoint 147 = .ok (.iadd, 1) := by decide +kernel
theorem dM_checkpoint_148 : decode cM_checkpoint 148 = .ok (.aload_n 0, 1) := by decide +kernel
theorem dM_checkpoint_149 : decode cM_checkpoint 149 = .ok (.getfield 81, 3) := by decide +kernel
theorem dM_checkpoint_152 : decode cM_checkpoint 152 = .ok (.invokevirtual 98, 3) := by decide +kernel
theorem dM_checkpoint_155 : decode cM_checkpoint 155 = .ok (.aload_n 0, 1) := by decide +kernel
theorem dM_checkpoint_156 : decode cM_checkpoint 156 = .ok (.getfield 61, 3) := by decide +kernel
theorem dM_checkpoint_159 : decode cM_checkpoint 159 = .ok (.ifCond .eq 10, 3) := by decide +kernel
theorem dM_checkpoint_169 : decode cM_checkpoint 169 = .ok (.aload_n 0, 1) := by decide +kernel
theorem dM_checkpoint_170 : decode cM_checkpoint 170 = .ok (.dup, 1) := by decide +kernel
theorem dM_checkpoint_171 : decode cM_checkpoint 171 = .ok (.getfield 27, 3) := by decide +kernel
theorem dM_checkpoint_174 : decode cM_checkpoint 174 = .ok (.iconst 1, 1) := by decide +kernel
theorem dM_checkpoint_175 : decode cM_checkpoint 175 = .ok (.iadd, 1) := by decide +kernel
theorem dM_checkpoint_176 : decode cM_checkpoint 176 = .ok (.putfield 27, 3) := by decide +kernel
theorem dM_checkpoint_179 : decode cM_checkpoint 179 = .ok (.aload_n 0, 1) := by decide +kernel
theorem dM_checkpoint_180 : decode cM_checkpoint 180 = .ok (.iload_n 2, 1) := by decide +kernel
theorem dM_checkpoint_181 : decode cM_checkpoint 181 = .ok (.putfield 121, 3) := by decide +kernel
theorem dM_checkpoint_184 : decode cM_checkpoint 184 = .ok (.aload_n 0, 1) := by decide +kernel
theorem dM_checkpoint_185 : decode cM_checkpoint 185 = .ok (.iconst 0, 1) := by decide +kernel
theorem dM_checkpoint_186 : decode cM_checkpoint 186 = .ok (.putfield 95, 3) := by decide +kernel
theorem dM_checkpoint_189 : decode cM_checkpoint 189 = .ok (.aload_n 0, 1) := by decide +kernel
theorem dM_checkpoint_190 : decode cM_checkpoint 190 = .ok (.getfield 27, 3) := by decide +kernel
theorem dM_checkpoint_193 : decode cM_checkpoint 193 = .ok (.ireturn, 1) := by decide +kernel
theorem dM_isGood_0 : decode cM_isGood 0 = .ok (.aload_n 0, 1) := by decide +kernel
theorem dM_isGood_1 : decode cM_isGood 1 = .ok (.getfield 7, 3) := by decide +kernel
theorem dM_isGood_4 : decode cM_isGood 4 = .ok (.iconst 4, 1) := by decide +kernel
theorem dM_isGood_5 : decode cM_isGood 5 = .ok (.iload_n 1, 1) := by decide +kernel
theorem dM_isGood_6 : decode cM_isGood 6 = .ok (.imul, 1) := by decide +kernel
theorem dM_isGood_7 : decode cM_isGood 7 = .ok (.iconst 3, 1) := by decide +kernel
theorem dM_isGood_8 : decode cM_isGood 8 = .ok (.iadd, 1) := by decide +kernel
theorem dM_isGood_9 : decode cM_isGood 9 = .ok (.iaload, 1) := by decide +kernel
theorem dM_isGood_10 : decode cM_isGood 10 = .ok (.aload_n 0, 1) := by decide +kernel
theorem dM_isGood_11 : decode cM_isGood 11 = .ok (.getfield 7, 3) := by decide +kernel
theorem dM_isGood_14 : decode cM_isGood 14 = .ok (.iconst 4, 1) := by decide +kernel
theorem dM_isGood_15 : decode cM_isGood 15 = .ok (.iload_n 1, 1) := by decide +kernel
theorem dM_isGood_16 : decode cM_isGood 16 = .ok (.imul, 1) := by decide +kernel
theorem dM_isGood_17 : decode cM_isGood 17 = .ok (.iaload, 1) := by decide +kernel
theorem dM_isGood_18 : decode cM_isGood 18 = .ok (.aload_n 0, 1) := by decide +kernel
theorem dM_isGood_19 : decode cM_isGood 19 = .ok (.getfield 7, 3) := by decide +kernel
theorem dM_isGood_22 : decode cM_isGood 22 = .ok (.iconst 4, 1) := by decide +kernel
theorem dM_isGood_23 : decode cM_isGood 23 = .ok (.iload_n 1, 1) := by decide +kernel
theorem dM_isGood_24 : decode cM_isGood 24 = .ok (.imul, 1) := by decide +kernel
theorem dM_isGood_25 : decode cM_isGood 25 = .ok (.iconst 1, 1) := by decide +kernel
theorem dM_isGood_26 : decode cM_isGood 26 = .ok (.iadd, 1) := by decide +kernel
theorem dM_isGood_27 : decode cM_isGood 27 = .ok (.iaload, 1) := by decide +kernel
theorem dM_isGood_28 : decode cM_isGood 28 = .ok (.aload_n 0, 1) := by decide +kernel
theorem dM_isGood_29 : decode cM_isGood 29 = .ok (.getfield 7, 3) := by decide +kernel
theorem dM_isGood_32 : decode cM_isGood 32 = .ok (.iconst 4, 1) := by decide +kernel
theorem dM_isGood_33 : decode cM_isGood 33 = .ok (.iload_n 1, 1) := by decide +kernel
theorem dM_isGood_34 : decode cM_isGood 34 = .ok (.imul, 1) := by decide +kernel
theorem dM_isGood_35 : decode cM_isGood 35 = .ok (.iconst 2, 1) := by decide +kernel
theorem dM_isGood_36 : decode cM_isGood 36 = .ok (.iadd, 1) := by decide +kernel
theorem dM_isGood_37 : decode cM_isGood 37 = .ok (.iaload, 1) := by decide +kernel
theorem dM_isGood_38 : decode cM_isGood 38 = .ok (.iload_n 1, 1) := by decide +kernel
theorem dM_isGood_39 : decode cM_isGood 39 = .ok (.invokestatic 48, 3) := by decide +kernel
theorem dM_isGood_42 : decode cM_isGood 42 = .ok (.if_icmp .ne 7, 3) := by decide +kernel
theorem dM_isGood_45 : decode cM_isGood 45 = .ok (.iconst 1, 1) := by decide +kernel
theorem dM_isGood_46 : decode cM_isGood 46 = .ok (.goto 4, 3) := by decide +kernel
theorem dM_isGood_49 : decode cM_isGood 49 = .ok (.iconst 0, 1) := by decide +kernel
theorem dM_isGood_50 : decode cM_isGood 50 = .ok (.ireturn, 1) := by decide +kernel
theorem dM_counts_0 : decode cM_counts 0 = .ok (.aload_n 0, 1) := by decide +kernel
theorem dM_counts_1 : decode cM_counts 1 = .ok (.iload_n 1, 1) := by decide +kernel
theorem dM_counts_2 : decode cM_counts 2 = .ok (.invokevirtual 127, 3) := by decide +kernel
theorem dM_counts_5 : decode cM_counts 5 = .ok (.ifCond .eq 23, 3) := by decide +kernel
theorem dM_counts_8 : decode cM_counts 8 = .ok (.aload_n 0, 1) := by decide +kernel
theorem dM_counts_9 : decode cM_counts 9 = .ok (.getfield 7, 3) := by decide +kernel
theorem dM_counts_12 : decode cM_counts 12 = .ok (.iconst 4, 1) := by decide +kernel
theorem dM_counts_13 : decode cM_counts 13 = .ok (.iload_n 1, 1) := by decide +kernel
theorem dM_counts_14 : decode cM_counts 14 = .ok (.imul, 1) := by decide +kernel
theorem dM_counts_15 : decode cM_counts 15 = .ok (.iaload, 1) := by decide +kernel
theorem dM_counts_16 : decode cM_counts 16 = .ok (.iconst 1, 1) := by decide +kernel
theorem dM_counts_17 : decode cM_counts 17 = .ok (.iadd, 1) := by decide +kernel
theorem dM_counts_18 : decode cM_counts 18 = .ok (.iconst 1, 1) := by decide +kernel
theorem dM_counts_19 : decode cM_counts 19 = .ok (.iand, 1) := by decide +kernel
theorem dM_counts_20 : decode cM_counts 20 = .ok (.iload_n 1, 1) := by decide +kernel
theorem dM_counts_21 : decode cM_counts 21 = .ok (.if_icmp .ne 7, 3) := by decide +kernel
theorem dM_counts_24 : decode cM_counts 24 = .ok (.iconst 1, 1) := by decide +kernel
theorem dM_counts_25 : decode cM_counts 25 = .ok (.goto 4, 3) := by decide +kernel
theorem dM_counts_28 : decode cM_counts 28 = .ok (.iconst 0, 1) := by decide +kernel
theorem dM_counts_29 : decode cM_counts 29 = .ok (.ireturn, 1) := by decide +kernel
theorem dM_takeArea_0 : decode cM_takeArea 0 = .ok (.aload_n 0, 1) := by decide +kernel
theorem dM_takeArea_1 : decode cM_takeArea 1 = .ok (.aload_n 0, 1) := by decide +kernel
theorem dM_takeArea_2 : decode cM_takeArea 2 = .ok (.getfield 7, 3) := by decide +kernel
theorem dM_takeArea_5 : decode cM_takeArea 5 = .ok (.iconst 4, 1) := by decide +kernel
theorem dM_takeArea_6 : decode cM_takeArea 6 = .ok (.iload_n 1, 1) := by decide +kernel
theorem dM_takeArea_7 : decode cM_takeArea 7 = .ok (.imul, 1) := by decide +kernel
theorem dM_takeArea_8 : decode cM_takeArea 8 = .ok (.iaload, 1) := by decide +kernel
theorem dM_takeArea_9 : decode cM_takeArea 9 = .ok (.putfield 27, 3) := by decide +kernel
theorem dM_takeArea_12 : decode cM_takeArea 12 = .ok (.aload_n 0, 1) := by decide +kernel
theorem dM_takeArea_13 : decode cM_takeArea 13 = .ok (.aload_n 0, 1) := by decide +kernel
theorem dM_takeArea_14 : decode cM_takeArea 14 = .ok (.getfield 7, 3) := by decide +kernel
theorem dM_takeArea_17 : decode cM_takeArea 17 = .ok (.iconst 4, 1) := by decide +kernel
theorem dM_takeArea_18 : decode cM_takeArea 18 = .ok (.iload_n 1, 1) := by decide +kernel
theorem dM_takeArea_19 : decode cM_takeArea 19 = .ok (.imul, 1) := by decide +kernel
theorem dM_takeArea_20 : decode cM_takeArea 20 = .ok (.iconst 1, 1) := by decide +kernel
theorem dM_takeArea_21 : decode cM_takeArea 21 = .ok (.iadd, 1) := by decide +kernel
theorem dM_takeArea_22 : decode cM_takeArea 22 = .ok (.iaload, 1) := by decide +kernel
theorem dM_takeArea_23 : decode cM_takeArea 23 = .ok (.bipush 64, 2) := by decide +kernel
theorem dM_takeArea_25 : decode cM_takeArea 25 = .ok (.idiv, 1) := by decide +kernel
theorem dM_takeArea_26 : decode cM_takeArea 26 = .ok (.putfield 121, 3) := by decide +kernel
theorem dM_takeArea_29 : decode cM_takeArea 29 = .ok (.aload_n 0, 1) := by decide +kernel
theorem dM_takeArea_30 : decode cM_takeArea 30 = .ok (.getfield 7, 3) := by decide +kernel
theorem dM_takeArea_33 : decode cM_takeArea 33 = .ok (.iconst 4, 1) := by decide +kernel
theorem dM_takeArea_34 : decode cM_takeArea 34 = .ok (.iload_n 1, 1) := by decide +kernel
theorem dM_takeArea_35 : decode cM_takeArea 35 = .ok (.imul, 1) := by decide +kernel
theorem dM_takeArea_36 : decode cM_takeArea 36 = .ok (.iconst 1, 1) := by decide +kernel
theorem dM_takeArea_37 : decode cM_takeArea 37 = .ok (.iadd, 1) := by decide +kernel
theorem dM_takeArea_38 : decode cM_takeArea 38 = .ok (.iaload, 1) := by decide +kernel
theorem dM_takeArea_39 : decode cM_takeArea 39 = .ok (.bipush 64, 2) := by decide +kernel
theorem dM_takeArea_41 : decode cM_takeArea 41 = .ok (.irem, 1) := by decide +kernel
theorem dM_takeArea_42 : decode cM_takeArea 42 = .ok (.istore_n 2, 1) := by decide +kernel
theorem dM_takeArea_43 : decode cM_takeArea 43 = .ok (.aload_n 0, 1) := by decide +kernel
theorem dM_takeArea_44 : decode cM_takeArea 44 = .ok (.aload_n 0, 1) := by decide +kernel
theorem dM_takeArea_45 : decode cM_takeArea 45 = .ok (.getfield 7, 3) := by decide +kernel
theorem dM_takeArea_48 : decode cM_takeArea 48 = .ok (.iconst 4, 1) := by decide +kernel
theorem dM_takeArea_49 : decode cM_takeArea 49 = .ok (.iload_n 1, 1) := by decide +kernel
theorem dM_takeArea_50 : decode cM_takeArea 50 = .ok (.imul, 1) := by decide +kernel
theorem dM_takeArea_51 : decode cM_takeArea 51 = .ok (.iconst 2, 1) := by decide +kernel
theorem dM_takeArea_52 : decode cM_takeArea 52 = .ok (.iadd, 1) := by decide +kernel
theorem dM_takeArea_53 : decode cM_takeArea 53 = .ok (.iaload, 1) := by decide +kernel
theorem dM_takeArea_54 : decode cM_takeArea 54 = .ok (.putfield 81, 3) := by decide +kernel
theorem dM_takeArea_57 : decode cM_takeArea 57 = .ok (.iconst 0, 1) := by decide +kernel
theorem dM_takeArea_58 : decode cM_takeArea 58 = .ok (.istore_n 3, 1) := by decide +kernel
theorem dM_takeArea_59 : decode cM_takeArea 59 = .ok (.iload_n 3, 1) := by decide +kernel
theorem dM_takeArea_60 : decode cM_takeArea 60 = .ok (.bipush 64, 2) := by decide +kernel
theorem dM_takeArea_62 : decode cM_takeArea 62 = .ok (.if_icmp .ge 30, 3) := by decide +kernel
theorem dM_takeArea_65 : decode cM_takeArea 65 = .ok (.aload_n 0, 1) := by decide +kernel
theorem dM_takeArea_66 : decode cM_takeArea 66 = .ok (.getfield 17, 3) := by decide +kernel
theorem dM_takeArea_69 : decode cM_takeArea 69 = .ok (.iload_n 3, 1) := by decide +kernel
theorem dM_takeArea_70 : decode cM_takeArea 70 = .ok (.iconst 0, 1) := by decide +kernel
theorem dM_takeArea_71 : decode cM_takeArea 71 = .ok (.bastore, 1) := by decide +kernel
theorem dM_takeArea_72 : decode cM_takeArea 72 = .ok (.aload_n 0, 1) := by decide +kernel
theorem dM_takeArea_73 : decode cM_takeArea 73 = .ok (.getfield 21, 3) := by decide +kernel
theorem dM_takeArea_76 : decode cM_takeArea 76 = .ok (.iload_n 3, 1) := by decide +kernel
theorem dM_takeArea_77 : decode cM_takeArea 77 = .ok (.iconst 0, 1) := by decide +kernel
theorem dM_takeArea_78 : decode cM_takeArea 78 = .ok (.iastore, 1) := by decide +kernel
theorem dM_takeArea_79 : decode cM_takeArea 79 = .ok (.aload_n 0, 1) := by decide +kernel
theorem dM_takeArea_80 : decode cM_takeArea 80 = .ok (.getfield 24, 3) := by decide +kernel
theorem dM_takeArea_83 : decode cM_takeArea 83 = .ok (.iload_n 3, 1) := by decide +kernel
theorem dM_takeArea_84 : decode cM_takeArea 84 = .ok (.iconst 0, 1) := by decide +kernel
theorem dM_takeArea_85 : decode cM_takeArea 85 = .ok (.iastore, 1) := by decide +kernel
theorem dM_takeArea_86 : decode cM_takeArea 86 = .ok (.iinc 3 1, 3) := by decide +kernel
theorem dM_takeArea_89 : decode cM_takeArea 89 = .ok (.goto (-30), 3) := by decide +kernel
theorem dM_takeArea_92 : decode cM_takeArea 92 = .ok (.iconst 0, 1) := by decide +kernel
theorem dM_takeArea_93 : decode cM_takeArea 93 = .ok (.istore_n 3, 1) := by decide +kernel
theorem dM_takeArea_94 : decode cM_takeArea 94 = .ok (.iload_n 3, 1) := by decide +kernel
theorem dM_takeArea_95 : decode cM_takeArea 95 = .ok (.iload_n 2, 1) := by decide +kernel
theorem dM_takeArea_96 : decode cM_takeArea 96 = .ok (.if_icmp .ge 66, 3) := by decide +kernel
theorem dM_takeArea_162 : decode cM_takeArea 162 = .ok (.return_, 1) := by decide +kernel
theorem dM_takeLog_0 : decode cM_takeLog 0 = .ok (.aload_n 0, 1) := by decide +kernel
theorem dM_takeLog_1 : decode cM_takeLog 1 = .ok (.iconst 0, 1) := by decide +kernel
theorem dM_takeLog_2 : decode cM_takeLog 2 = .ok (.putfield 95, 3) := by decide +kernel
theorem dM_takeLog_5 : decode cM_takeLog 5 = .ok (.iconst 0, 1) := by decide +kernel
theorem dM_takeLog_6 : decode cM_takeLog 6 = .ok (.istore_n 1, 1) := by decide +kernel
theorem dM_takeLog_7 : decode cM_takeLog 7 = .ok (.iconst 1, 1) := by decide +kernel
theorem dM_takeLog_8 : decode cM_takeLog 8 = .ok (.istore_n 2, 1) := by decide +kernel
theorem dM_takeLog_9 : decode cM_takeLog 9 = .ok (.iconst 0, 1) := by decide +kernel
theorem dM_takeLog_10 : decode cM_takeLog 10 = .ok (.istore_n 3, 1) := by decide +kernel
theorem dM_takeLog_11 : decode cM_takeLog 11 = .ok (.iload_n 3, 1) := by decide +kernel
theorem dM_takeLog_12 : decode cM_takeLog 12 = .ok (.bipush 74, 2) := by decide +kernel
theorem dM_takeLog_14 : decode cM_takeLog 14 = .ok (.if_icmp .ge 193, 3) := by decide +kernel
theorem dM_takeLog_17 : decode cM_takeLog 17 = .ok (.iload_n 2, 1) := by decide +kernel
theorem dM_takeLog_18 : decode cM_takeLog 18 = .ok (.ifCond .eq 189, 3) := by decide +kernel
theorem dM_takeLog_21 : decode cM_takeLog 21 = .ok (.bipush 22, 2) := by decide +kernel
theorem dM_takeLog_23 : decode cM_takeLog 23 = .ok (.iload_n 3, 1) := by decide +kernel
theorem dM_takeLog_24 : decode cM_takeLog 24 = .ok (.iadd, 1) := by decide +kernel
theorem dM_takeLog_25 : decode cM_takeLog 25 = .ok (.istore 4, 2) := by decide +kernel
theorem dM_takeLog_27 : decode cM_takeLog 27 = .ok (.aload_n 0, 1) := by decide +kernel
theorem dM_takeLog_28 : decode cM_takeLog 28 = .ok (.getfield 7, 3) := by decide +kernel
theorem dM_takeLog_31 : decode cM_takeLog 31 = .ok (.iconst 4, 1) := by decide +kernel
theorem dM_takeLog_32 : decode cM_takeLog 32 = .ok (.iload 4, 2) := by decide +kernel
theorem dM_takeLog_34 : decode cM_takeLog 34 = .ok (.imul, 1) := by decide +kernel
theorem dM_takeLog_35 : decode cM_takeLog 35 = .ok (.iaload, 1) := by decide +kernel
theorem dM_takeLog_36 : decode cM_takeLog 36 = .ok (.iconst 4, 1) := by decide +kernel
theorem dM_takeLog_37 : decode cM_takeLog 37 = .ok (.aload_n 0, 1) := by decide +kernel
theorem dM_takeLog_38 : decode cM_takeLog 38 = .ok (.getfield 27, 3) := by decide +kernel
theorem dM_takeLog_41 : decode cM_takeLog 41 = .ok (.imul, 1) := by decide +kernel
theorem dM_takeLog_42 : decode cM_takeLog 42 = .ok (.isub, 1) := by decide +kernel
theorem dM_takeLog_43 : decode cM_takeLog 43 = .ok (.istore 5, 2) := by decide +kernel
theorem dM_takeLog_45 : decode cM_takeLog 45 = .ok (.aload_n 0, 1) := by decide +kernel
theorem dM_takeLog_46 : decode cM_takeLog 46 = .ok (.iload 4, 2) := by decide +kernel
theorem dM_takeLog_48 : decode cM_takeLog 48 = .ok (.invokevirtual 127, 3) := by decide +kernel
theorem dM_takeLog_51 : decode cM_takeLog 51 = .ok (.ifCond .eq 17, 3) := by decide +kernel
theorem dM_takeLog_68 : decode cM_takeLog 68 = .ok (.iconst 0, 1) := by decide +kernel
theorem dM_takeLog_69 : decode cM_takeLog 69 = .ok (.istore_n 2, 1) := by decide +kernel
theorem dM_takeLog_70 : decode cM_takeLog 70 = .ok (.iload_n 2, 1) := by decide +kernel
theorem dM_takeLog_71 : decode cM_takeLog 71 = .ok (.ifCond .eq 15, 3) := by decide +kernel
theorem dM_takeLog_86 : decode cM_takeLog 86 = .ok (.iload_n 2, 1) := by decide +kernel
theorem dM_takeLog_87 : decode cM_takeLog 87 = .ok (.ifCond .eq 114, 3) := by decide +kernel
theorem dM_takeLog_201 : decode cM_takeLog 201 = .ok (.iinc 3 1, 3) := by decide +kernel
theorem dM_takeLog_204 : decode cM_takeLog 204 = .ok (.goto (-193), 3) := by decide +kernel
theorem dM_takeLog_207 : decode cM_takeLog 207 = .ok (.return_, 1) := by decide +kernel
theorem dM_recover_0 : decode cM_recover 0 = .ok (.aload_n 0, 1) := by decide +kernel
theorem dM_recover_1 : decode cM_recover 1 = .ok (.iconst 0, 1) := by decide +kernel
theorem dM_recover_2 : decode cM_recover 2 = .ok (.putfield 52, 3) := by decide +kernel
theorem dM_recover_5 : decode cM_recover 5 = .ok (.aload_n 0, 1) := by decide +kernel
theorem dM_recover_6 : decode cM_recover 6 = .ok (.iconst 0, 1) := by decide +kernel
theorem dM_recover_7 : decode cM_recover 7 = .ok (.putfield 61, 3) := by decide +kernel
theorem dM_recover_10 : decode cM_recover 10 = .ok (.aload_n 0, 1) := by decide +kernel
theorem dM_recover_11 : decode cM_recover 11 = .ok (.iconst (-1), 1) := by decide +kernel
theorem dM_recover_12 : decode cM_recover 12 = .ok (.putfield 13, 3) := by decide +kernel
theorem dM_recover_15 : decode cM_recover 15 = .ok (.iconst 0, 1) := by decide +kernel
theorem dM_recover_16 : decode cM_recover 16 = .ok (.istore_n 1, 1) := by decide +kernel
theorem dM_recover_17 : decode cM_recover 17 = .ok (.iload_n 1, 1) := by decide +kernel
theorem dM_recover_18 : decode cM_recover 18 = .ok (.iconst 3, 1) := by decide +kernel
theorem dM_recover_19 : decode cM_recover 19 = .ok (.if_icmp .ge 16, 3) := by decide +kernel
theorem dM_recover_22 : decode cM_recover 22 = .ok (.aload_n 0, 1) := by decide +kernel
theorem dM_recover_23 : decode cM_recover 23 = .ok (.getfield 30, 3) := by decide +kernel
theorem dM_recover_26 : decode cM_recover 26 = .ok (.iload_n 1, 1) := by decide +kernel
theorem dM_recover_27 : decode cM_recover 27 = .ok (.iconst 0, 1) := by decide +kernel
theorem dM_recover_28 : decode cM_recover 28 = .ok (.bastore, 1) := by decide +kernel
theorem dM_recover_29 : decode cM_recover 29 = .ok (.iinc 1 1, 3) := by decide +kernel
theorem dM_recover_32 : decode cM_recover 32 = .ok (.goto (-15), 3) := by decide +kernel
theorem dM_recover_35 : decode cM_recover 35 = .ok (.aload_n 0, 1) := by decide +kernel
theorem dM_recover_36 : decode cM_recover 36 = .ok (.iconst 0, 1) := by decide +kernel
theorem dM_recover_37 : decode cM_recover 37 = .ok (.invokevirtual 133, 3) := by decide +kernel
theorem dM_recover_40 : decode cM_recover 40 = .ok (.istore_n 1, 1) := by decide +kernel
theorem dM_recover_41 : decode cM_recover 41 = .ok (.aload_n 0, 1) := by decide +kernel
theorem dM_recover_42 : decode cM_recover 42 = .ok (.iconst 1, 1) := by decide +kernel
theorem dM_recover_43 : decode cM_recover 43 = .ok (.invokevirtual 133, 3) := by decide +kernel
theorem dM_recover_46 : decode cM_recover 46 = .ok (.istore_n 2, 1) := by decide +kernel
theorem dM_recover_47 : decode cM_recover 47 = .ok (.aload_n 0, 1) := by decide +kernel
theorem dM_recover_48 : decode cM_recover 48 = .ok (.iload_n 2, 1) := by decide +kernel
theorem dM_recover_49 : decode cM_recover 49 = .ok (.ifCond .eq 26, 3) := by decide +kernel
theorem dM_recover_75 : decode cM_recover 75 = .ok (.iconst 0, 1) := by decide +kernel
theorem dM_recover_76 : decode cM_recover 76 = .ok (.invokevirtual 136, 3) := by decide +kernel
theorem dM_recover_79 : decode cM_recover 79 = .ok (.aload_n 0, 1) := by decide +kernel
theorem dM_recover_80 : decode cM_recover 80 = .ok (.invokevirtual 139, 3) := by decide +kernel
theorem dM_recover_83 : decode cM_recover 83 = .ok (.aload_n 0, 1) := by decide +kernel
theorem dM_recover_84 : decode cM_recover 84 = .ok (.getfield 81, 3) := by decide +kernel
theorem dM_recover_87 : decode cM_recover 87 = .ok (.ireturn, 1) := by decide +kernel
set_option maxHeartbeats 4000000 in
set_option maxRecDepth 100000 in
theorem c_M_word_x (l : Launch) (dC : Nat → ClassId) (dI : Nat → Nat → Nat) (cI cZ cJ cT : ClassId) (m0 md mh mn mc mo mb mk ml ms mw : Nat) (b9 i9 : Int32) (sz : Nat) (hb9 : b9 < 0 ∨ (¬ b9 < 0 ∧ ¬ b9 < 96 ∧ 95 < b9) ∨ (∃ j : Nat, j < 96 ∧ b9 = nI j) ∧ (i9 < 0 ∨ (¬ i9 < 0 ∧ ¬ i9 < 4 ∧ 3 < i9))) : Met l yM_word (Cond.code yM_word cM_word 3 (some .int) :: wsA) ({ frames := 1, cells := 0, slots := 0, locals := 22 }) (va_Pc [.ref m0, .int b9, .int i9] (fun U => U.heap.size = sz ∧ va_P (dC, dI) vwC [(m0, .inr (4, [.int 0, .ref md, .int 0, .int (-1), .int 0, .ref mh, .ref mn, .ref mc, .int 0, .int 1, .int 0, .int 0, .ref mo, .ref mb, .ref mk, .ref ml, .ref ms, .ref mw]))] U.heap ∧ KK dC dI cI cZ cJ cT U ∧ va_D (fun _ => True) [(m0, .inr (4, [.int 0, .ref md, .int 0, .int (-1), .int 0, .ref mh, .ref mn, .ref mc, .int 0, .int 1, .int 0, .int 0, .ref mo, .ref mb, .ref mk, .ref ml, .ref ms, .ref mw]))])) (va_Qi (S := Nat → Nat) (fun r _ => r = 0) (fun u t => va_P (dC, dI) vwC [(m0, .inr (4, [.int 0, .ref md, .int 0, .int (-1), .int 0, .ref mh, .ref mn, .ref mc, .int 0, .int 1, .int 0, .int 0, .ref mo, .ref mb, .ref mk, .ref ml, .ref ms, .ref mw]))] t.heap ∧ va_D (va_A [(m0, .inr (4, [.int 0, .ref md, .int 0, .int (-1), .int 0, .ref mh, .ref mn, .ref mc, .int 0, .int 1, .int 0, .int 0, .ref mo, .ref mb, .ref mk, .ref ml, .ref ms, .ref mw]))] sz) [(m0, .inr (4, [.int 0, .ref md, .int 0, .int (-1), .int 0, .ref mh, .ref mn, .ref mc, .int 0, .int 1, .int 0, .int 0, .ref mo, .ref mb, .ref mk, .ref ml, .ref ms, .ref mw]))]) (va_A [(m0, .inr (4, [.int 0, .ref md, .int 0, .int (-1), .int 0, .ref mh, .ref mn, .ref mc, .int 0, .int 1, .int 0, .int 0, .ref mo, .ref mb, .ref mk, .ref ml, .ref ms, .ref mw]))] sz)) 0 0 (va_A [(m0, .inr (4, [.int 0, .ref md, .int 0, .int (-1), .int 0, .ref mh, .ref mn, .ref mc, .int 0, .int 1, .int 0, .int 0, .ref mo, .ref mb, .ref mk, .ref ml, .ref ms, .ref mw]))] sz) := by
  refine Met.ofW (cc := cM_word) (maxL := 3) (ret := (some .int)) (by decide) rfl ?_
  intro p e s m args below meth c s₁ B hml hv
  obtain ⟨rfl, hsz, hP, hKK, hD0⟩ := hv
  rcases hb9 with h1 | ⟨h1, h2, h3⟩ | ⟨⟨j, hj, rfl⟩, h4 | ⟨h4, h5, h6⟩⟩
  · have hK := hKK.1
    have hx := B.exec
    have hb := B.bytes
    have hr := B.returns
    have hw : ∀ w ∈ wsA, w.before _ s = true := fun w h => atoms_spec (ws := (Cond.code yM_word cM_word 3 (some .int) :: wsA)) B.pre w (List.mem_cons_of_mem _ h)
    have hown : s.vm.findClass "LoggedStoreModel" = some m.cls := findClass_of_methodNamed B.named
    have hlocks := B.notSynchronized
    subst hsz
    have hD := hD0.self (sz := s.heap.size)
    generalize hAe : va_A [(m0, .inr (4, [.int 0, .ref md, .int 0, .int (-1), .int 0, .ref mh, .ref mn, .ref mc, .int 0, .int 1, .int 0, .int 0, .ref mo, .ref mb, .ref mk, .ref ml, .ref ms, .ref mw]))] s.heap.size = A at hD ⊢
    have hA : ∀ q : Nat, s.heap.size ≤ q → A q := fun q h => by rw [← hAe]; exact Or.inr h
    have hS : va_S A s.heap s.heap [] := va_S.rf
    have hl := lv_entry ([.ref m0, .int b9, .int i9]) (n := 3) (Nat.le_of_ble_eq_true rfl)
    rw [lg_entry_eq]
    generalize (lg_sl ([.ref m0, .int b9, .int i9]) ++ List.replicate (3 - (lg_sl ([.ref m0, .int b9, .int i9])).length) Slot.unset).toArray = ls at hl ⊢
    have hl : lv_has ls 3 [(0, .ref m0), (1, .int b9), (2, .int i9)] := hl
    refine lv_aload_n hx hb dM_word_0 rfl (lv_at hl 0 rfl) ?_
    refine lv_iconst (v := 0) hx hb dM_word_1 (by decide) ?_
    refine va_put (D := (dC, dI)) (ci := 4) (v := .int 0) (ty := .int) (C := "LoggedStoreModel") (T := uM) (N := 18) hx hb hw inM tyM tyM_ok nmM hown hK hP hD hS 0 rfl rfl 0 (by decide) (hw _ w612) (fun _ h9 => h9) rfl (by decide +kernel) rfl rfl (Nat.le_of_ble_eq_true rfl) dM_word_2 (fun H locs hP hD hS => ?_)
    have hP : va_P (dC, dI) vwC [(m0, .inr (4, [.int 0, .ref md, .int 0, .int (-1), .int 0, .ref mh, .ref mn, .ref mc, .int 0, .int 1, .int 0, .int 0, .ref mo, .ref mb, .ref mk, .ref ml, .ref ms, .ref mw]))] H := hP
    have hD : va_D A [(m0, .inr (4, [.int 0, .ref md, .int 0, .int (-1), .int 0, .ref mh, .ref mn, .ref mc, .int 0, .int 1, .int 0, .int 0, .ref mo, .ref mb, .ref mk, .ref ml, .ref ms, .ref mw]))] := hD
    refine lv_iload_n hx hb dM_word_5 rfl (lv_at hl 1 rfl) ?_
    refine lv_iconst (v := 0) hx hb dM_word_6 (by decide) ?_
    refine lv_bipush (v := 95) hx hb dM_word_7 (by decide) ?_
    have hPc := hP.sub (ws' := []) [] rfl
    refine vp_callSi (W.runS (As := [.int b9, .int 0, .int 95]) (rest := []) ⟨hx, hb, hml, hown, hw⟩ (c_within_f l dC dI cI cZ cJ cT b9 0 95 h1) ⟨callB_of 3 hw (gA0 w677) rfl rfl rfl (hw _ w45) (hw _ w675) (by decide +kernel) ⟨Nat.le_of_ble_eq_true rfl, Nat.le_of_ble_eq_true rfl⟩, (hw _ w676)⟩ ⟨kb_S, fun U hU hW => ⟨rfl, by rw [hU]; exact hPc, hKK.moved hW⟩⟩ rfl rfl hl.1 rfl (lv_room (Nat.le_of_ble_eq_true rfl)) dM_word_9 ⟨Nat.le_of_ble_eq_true rfl, Nat.le_of_ble_eq_true rfl⟩) (fun r1 e2 => ?_)
    obtain rfl : r1 = 0 := e2
    refine lv_if_eq (tgt := 37) hx hb dM_word_12 (by decide) (fun _ => ?_) (fun h9 => absurd (by decide) h9)
    refine lv_iconst (v := 0) hx hb dM_word_37 (by decide) ?_
    have hP9 := hP.sub (ws' := [(m0, .inr (4, [.int 0, .ref md, .int 0, .int (-1), .int 0, .ref mh, .ref mn, .ref mc, .int 0, .int 1, .int 0, .int 0, .ref mo, .ref mb, .ref mk, .ref ml, .ref ms, .ref mw]))]) [0] rfl
    have hD9 := hD.sub (ws' := [(m0, .inr (4, [.int 0, .ref md, .int 0, .int (-1), .int 0, .ref mh, .ref mn, .ref mc, .int 0, .int 1, .int 0, .int 0, .ref mo, .ref mb, .ref mk, .ref ml, .ref ms, .ref mw]))]) [0] (by decide) rfl
    refine W.widen (k := 0) (n := 0) (by decide) (by decide) ?_
    exact W.iret (v := 0) hx hb hr (fun t ht hW => ⟨⟨0, fun _ => 0, rfl, rfl, by rw [ht]; exact hP9, hD9⟩, hS.F ht⟩) hS.2.2 dM_word_38
  · have hK := hKK.1
    have hx := B.exec
    have hb := B.bytes
    have hr := B.returns
    have hw : ∀ w ∈ wsA, w.before _ s = true := fun w h => atoms_spec (ws := (Cond.code yM_word cM_word 3 (some .int) :: wsA)) B.pre w (List.mem_cons_of_mem _ h)
    have hown : s.vm.findClass "LoggedStoreModel" = some m.cls := findClass_of_methodNamed B.named
    have hlocks := B.notSynchronized
    subst hsz
    have hD := hD0.self (sz := s.heap.size)
    generalize hAe : va_A [(m0, .inr (4, [.int 0, .ref md, .int 0, .int (-1), .int 0, .ref mh, .ref mn, .ref mc, .int 0, .int 1, .int 0, .int 0, .ref mo, .ref mb, .ref mk, .ref ml, .ref ms, .ref mw]))] s.heap.size = A at hD ⊢
    have hA : ∀ q : Nat, s.heap.size ≤ q → A q := fun q h => by rw [← hAe]; exact Or.inr h
    have hS : va_S A s.heap s.heap [] := va_S.rf
    have hl := lv_entry ([.ref m0, .int b9, .int i9]) (n := 3) (Nat.le_of_ble_eq_true rfl)
    rw [lg_entry_eq]
    generalize (lg_sl ([.ref m0, .int b9, .int i9]) ++ List.replicate (3 - (lg_sl ([.ref m0, .int b9, .int i9])).length) Slot.unset).toArray = ls at hl ⊢
    have hl : lv_has ls 3 [(0, .ref m0), (1, .int b9), (2, .int i9)] := hl
    refine lv_aload_n hx hb dM_word_0 rfl (lv_at hl 0 rfl) ?_
    refine lv_iconst (v := 0) hx hb dM_word_1 (by decide) ?_
    refine va_put (D := (dC, dI)) (ci := 4) (v := .int 0) (ty := .int) (C := "LoggedStoreModel") (T := uM) (N := 18) hx hb hw inM tyM tyM_ok nmM hown hK hP hD hS 0 rfl rfl 0 (by decide) (hw _ w612) (fun _ h9 => h9) rfl (by decide +kernel) rfl rfl (Nat.le_of_ble_eq_true rfl) dM_word_2 (fun H locs hP hD hS => ?_)
    have hP : va_P (dC, dI) vwC [(m0, .inr (4, [.int 0, .ref md, .int 0, .int (-1), .int 0, .ref mh, .ref mn, .ref mc, .int 0, .int 1, .int 0, .int 0, .ref mo, .ref mb, .ref mk, .ref ml, .ref ms, .ref mw]))] H := hP
    have hD : va_D A [(m0, .inr (4, [.int 0, .ref md, .int 0, .int (-1), .int 0, .ref mh, .ref mn, .ref mc, .int 0, .int 1, .int 0, .int 0, .ref mo, .ref mb, .ref mk, .ref ml, .ref ms, .ref mw]))] := hD
    refine lv_iload_n hx hb dM_word_5 rfl (lv_at hl 1 rfl) ?_
    refine lv_iconst (v := 0) hx hb dM_word_6 (by decide) ?_
    refine lv_bipush (v := 95) hx hb dM_word_7 (by decide) ?_
    have hPc := hP.sub (ws' := []) [] rfl
    refine vp_callSi (W.runS (As := [.int b9, .int 0, .int 95]) (rest := []) ⟨hx, hb, hml, hown, hw⟩ (c_within_g l dC dI cI cZ cJ cT b9 0 95 h1 h3) ⟨callB_of 3 hw (gA0 w677) rfl rfl rfl (hw _ w45) (hw _ w675) (by decide +kernel) ⟨Nat.le_of_ble_eq_true rfl, Nat.le_of_ble_eq_true rfl⟩, (hw _ w676)⟩ ⟨kb_S, fun U hU hW => ⟨rfl, by rw [hU]; exact hPc, hKK.moved hW⟩⟩ rfl rfl hl.1 rfl (lv_room (Nat.le_of_ble_eq_true rfl)) dM_word_9 ⟨Nat.le_of_ble_eq_true rfl, Nat.le_of_ble_eq_true rfl⟩) (fun r1 e2 => ?_)
    obtain rfl : r1 = 0 := e2
    refine lv_if_eq (tgt := 37) hx hb dM_word_12 (by decide) (fun _ => ?_) (fun h9 => absurd (by decide) h9)
    refine lv_iconst (v := 0) hx hb dM_word_37 (by decide) ?_
    have hP9 := hP.sub (ws' := [(m0, .inr (4, [.int 0, .ref md, .int 0, .int (-1), .int 0, .ref mh, .ref mn, .ref mc, .int 0, .int 1, .int 0, .int 0, .ref mo, .ref mb, .ref mk, .ref ml, .ref ms, .ref mw]))]) [0] rfl
    have hD9 := hD.sub (ws' := [(m0, .inr (4, [.int 0, .ref md, .int 0, .int (-1), .int 0, .ref mh, .ref mn, .ref mc, .int 0, .int 1, .int 0, .int 0, .ref mo, .ref mb, .ref mk, .ref ml, .ref ms, .ref mw]))]) [0] (by decide) rfl
    refine W.widen (k := 0) (n := 0) (by decide) (by decide) ?_
    exact W.iret (v := 0) hx hb hr (fun t ht hW => ⟨⟨0, fun _ => 0, rfl, rfl, by rw [ht]; exact hP9, hD9⟩, hS.F ht⟩) hS.2.2 dM_word_38
  · have hK := hKK.1
    have hx := B.exec
    have hb := B.bytes
    have hr := B.returns
    have hw : ∀ w ∈ wsA, w.before _ s = true := fun w h => atoms_spec (ws := (Cond.code yM_word cM_word 3 (some .int) :: wsA)) B.pre w (List.mem_cons_of_mem _ h)
    have hown : s.vm.findClass "LoggedStoreModel" = some m.cls := findClass_of_methodNamed B.named
    have hlocks := B.notSynchronized
    subst hsz
    have hD := hD0.self (sz := s.heap.size)
    generalize hAe : va_A [(m0, .inr (4, [.int 0, .ref md, .int 0, .int (-1), .int 0, .ref mh, .ref mn, .ref mc, .int 0, .int 1, .int 0, .int 0, .ref mo, .ref mb, .ref mk, .ref ml, .ref ms, .ref mw]))] s.heap.size = A at hD ⊢
    have hA : ∀ q : Nat, s.heap.size ≤ q → A q := fun q h => by rw [← hAe]; exact Or.inr h
    have hS : va_S A s.heap s.heap [] := va_S.rf
    have hl := lv_entry ([.ref m0, .int (nI j), .int i9]) (n := 3) (Nat.le_of_ble_eq_true rfl)
    rw [lg_entry_eq]
    generalize (lg_sl ([.ref m0, .int (nI j), .int i9]) ++ List.replicate (3 - (lg_sl ([.ref m0, .int (nI j), .int i9])).length) Slot.unset).toArray = ls at hl ⊢
    have hl : lv_has ls 3 [(0, .ref m0), (1, .int (nI j)), (2, .int i9)] := hl
    refine lv_aload_n hx hb dM_word_0 rfl (lv_at hl 0 rfl) ?_
    refine lv_iconst (v := 0) hx hb dM_word_1 (by decide) ?_
    refine va_put (D := (dC, dI)) (ci := 4) (v := .int 0) (ty := .int) (C := "LoggedStoreModel") (T := uM) (N := 18) hx hb hw inM tyM tyM_ok nmM hown hK hP hD hS 0 rfl rfl 0 (by decide) (hw _ w612) (fun _ h9 => h9) rfl (by decide +kernel) rfl rfl (Nat.le_of_ble_eq_true rfl) dM_word_2 (fun H locs hP hD hS => ?_)
    have hP : va_P (dC, dI) vwC [(m0, .inr (4, [.int 0, .ref md, .int 0, .int (-1), .int 0, .ref mh, .ref mn, .ref mc, .int 0, .int 1, .int 0, .int 0, .ref mo, .ref mb, .ref mk, .ref ml, .ref ms, .ref mw]))] H := hP
    have hD : va_D A [(m0, .inr (4, [.int 0, .ref md, .int 0, .int (-1), .int 0, .ref mh, .ref mn, .ref mc, .int 0, .int 1, .int 0, .int 0, .ref mo, .ref mb, .ref mk, .ref ml, .ref ms, .ref mw]))] := hD
    refine lv_iload_n hx hb dM_word_5 rfl (lv_at hl 1 rfl) ?_
    refine lv_iconst (v := 0) hx hb dM_word_6 (by decide) ?_
    refine lv_bipush (v := 95) hx hb dM_word_7 (by decide) ?_
    have hPc := hP.sub (ws' := []) [] rfl
    refine vp_callSi (W.runS (As := [.int (nI j), .int 0, .int 95]) (rest := []) ⟨hx, hb, hml, hown, hw⟩ (c_within_t l dC dI cI cZ cJ cT (nI j) 0 95 (nI_pos (by omega)) (nI_nlt (a := 95) (b := j) (by omega) (by decide))) ⟨callB_of 3 hw (gA0 w677) rfl rfl rfl (hw _ w45) (hw _ w675) (by decide +kernel) ⟨Nat.le_of_ble_eq_true rfl, Nat.le_of_ble_eq_true rfl⟩, (hw _ w676)⟩ ⟨kb_S, fun U hU hW => ⟨rfl, by rw [hU]; exact hPc, hKK.moved hW⟩⟩ rfl rfl hl.1 rfl (lv_room (Nat.le_of_ble_eq_true rfl)) dM_word_9 ⟨Nat.le_of_ble_eq_true rfl, Nat.le_of_ble_eq_true rfl⟩) (fun r1 e2 => ?_)
    obtain rfl : r1 = 1 := e2
    refine lv_if_eq (tgt := 37) hx hb dM_word_12 (by decide) (fun h9 => absurd h9 (by decide)) (fun _ => ?_)
    refine lv_iload_n hx hb dM_word_15 rfl (lv_at hl 2 rfl) ?_
    refine lv_iconst (v := 0) hx hb dM_word_16 (by decide) ?_
    refine lv_iconst (v := 3) hx hb dM_word_17 (by decide) ?_
    have hPc := hP.sub (ws' := []) [] rfl
    refine vp_callSi (W.runS (As := [.int i9, .int 0, .int 3]) (rest := []) ⟨hx, hb, hml, hown, hw⟩ (c_within_f l dC dI cI cZ cJ cT i9 0 3 h4) ⟨callB_of 3 hw (gA0 w677) rfl rfl rfl (hw _ w45) (hw _ w675) (by decide +kernel) ⟨Nat.le_of_ble_eq_true rfl, Nat.le_of_ble_eq_true rfl⟩, (hw _ w676)⟩ ⟨kb_S, fun U hU hW => ⟨rfl, by rw [hU]; exact hPc, hKK.moved hW⟩⟩ rfl rfl hl.1 rfl (lv_room (Nat.le_of_ble_eq_true rfl)) dM_word_18 ⟨Nat.le_of_ble_eq_true rfl, Nat.le_of_ble_eq_true rfl⟩) (fun r3 e4 => ?_)
    obtain rfl : r3 = 0 := e4
    refine lv_if_eq (tgt := 37) hx hb dM_word_21 (by decide) (fun _ => ?_) (fun h9 => absurd (by decide) h9)
    refine lv_iconst (v := 0) hx hb dM_word_37 (by decide) ?_
    have hP9 := hP.sub (ws' := [(m0, .inr (4, [.int 0, .ref md, .int 0, .int (-1), .int 0, .ref mh, .ref mn, .ref mc, .int 0, .int 1, .int 0, .int 0, .ref mo, .ref mb, .ref mk, .ref ml, .ref ms, .ref mw]))]) [0] rfl
    have hD9 := hD.sub (ws' := [(m0, .inr (4, [.int 0, .ref md, .int 0, .int (-1), .int 0, .ref mh, .ref mn, .ref mc, .int 0, .int 1, .int 0, .int 0, .ref mo, .ref mb, .ref mk, .ref ml, .ref ms, .ref mw]))]) [0] (by decide) rfl
    refine W.widen (k := 0) (n := 0) (by decide) (by decide) ?_
    exact W.iret (v := 0) hx hb hr (fun t ht hW => ⟨⟨0, fun _ => 0, rfl, rfl, by rw [ht]; exact hP9, hD9⟩, hS.F ht⟩) hS.2.2 dM_word_38
  · have hK := hKK.1
    have hx := B.exec
    have hb := B.bytes
    have hr := B.returns
    have hw : ∀ w ∈ wsA, w.before _ s = true := fun w h => atoms_spec (ws := (Cond.code yM_word cM_word 3 (some .int) :: wsA)) B.pre w (List.mem_cons_of_mem _ h)
    have hown : s.vm.findClass "LoggedStoreModel" = some m.cls := findClass_of_methodNamed B.named
    have hlocks := B.notSynchronized
    subst hsz
    have hD := hD0.self (sz := s.heap.size)
    generalize hAe : va_A [(m0, .inr (4, [.int 0, .ref md, .int 0, .int (-1), .int 0, .ref mh, .ref mn, .ref mc, .int 0, .int 1, .int 0, .int 0, .ref mo, .ref mb, .ref mk, .ref ml, .ref ms, .ref mw]))] s.heap.size = A at hD ⊢
    have hA : ∀ q : Nat, s.heap.size ≤ q → A q := fun q h => by rw [← hAe]; exact Or.inr h
    have hS : va_S A s.heap s.heap [] := va_S.rf
    have hl := lv_entry ([.ref m0, .int (nI j), .int i9]) (n := 3) (Nat.le_of_ble_eq_true rfl)
    rw [lg_entry_eq]
    generalize (lg_sl ([.ref m0, .int (nI j), .int i9]) ++ List.replicate (3 - (lg_sl ([.ref m0, .int (nI j), .int i9])).length) Slot.unset).toArray = ls at hl ⊢
    have hl : lv_has ls 3 [(0, .ref m0), (1, .int (nI j)), (2, .int i9)] := hl
    refine lv_aload_n hx hb dM_word_0 rfl (lv_at hl 0 rfl) ?_
    refine lv_iconst (v := 0) hx hb dM_word_1 (by decide) ?_
    refine va_put (D := (dC, dI)) (ci := 4) (v := .int 0) (ty := .int) (C := "LoggedStoreModel") (T := uM) (N := 18) hx hb hw inM tyM tyM_ok nmM hown hK hP hD hS 0 rfl rfl 0 (by decide) (hw _ w612) (fun _ h9 => h9) rfl (by decide +kernel) rfl rfl (Nat.le_of_ble_eq_true rfl) dM_word_2 (fun H locs hP hD hS => ?_)
    have hP : va_P (dC, dI) vwC [(m0, .inr (4, [.int 0, .ref md, .int 0, .int (-1), .int 0, .ref mh, .ref mn, .ref mc, .int 0, .int 1, .int 0, .int 0, .ref mo, .ref mb, .ref mk, .ref ml, .ref ms, .ref mw]))] H := hP
    have hD : va_D A [(m0, .inr (4, [.int 0, .ref md, .int 0, .int (-1), .int 0, .ref mh, .ref mn, .ref mc, .int 0, .int 1, .int 0, .int 0, .ref mo, .ref mb, .ref mk, .ref ml, .ref ms, .ref mw]))] := hD
    refine lv_iload_n hx hb dM_word_5 rfl (lv_at hl 1 rfl) ?_
    refine lv_iconst (v := 0) hx hb dM_word_6 (by decide) ?_
    refine lv_bipush (v := 95) hx hb dM_word_7 (by decide) ?_
    have hPc := hP.sub (ws' := []) [] rfl
    refine vp_callSi (W.runS (As := [.int (nI j), .int 0, .int 95]) (rest := []) ⟨hx, hb, hml, hown, hw⟩ (c_within_t l dC dI cI cZ cJ cT (nI j) 0 95 (nI_pos (by omega)) (nI_nlt (a := 95) (b := j) (by omega) (by decide))) ⟨callB_of 3 hw (gA0 w677) rfl rfl rfl (hw _ w45) (hw _ w675) (by decide +kernel) ⟨Nat.le_of_ble_eq_true rfl, Nat.le_of_ble_eq_true rfl⟩, (hw _ w676)⟩ ⟨kb_S, fun U hU hW => ⟨rfl, by rw [hU]; exact hPc, hKK.moved hW⟩⟩ rfl rfl hl.1 rfl (lv_room (Nat.le_of_ble_eq_true rfl)) dM_word_9 ⟨Nat.le_of_ble_eq_true rfl, Nat.le_of_ble_eq_true rfl⟩) (fun r1 e2 => ?_)
    obtain rfl : r1 = 1 := e2
    refine lv_if_eq (tgt := 37) hx hb dM_word_12 (by decide) (fun h9 => absurd h9 (by decide)) (fun _ => ?_)
    refine lv_iload_n hx hb dM_word_15 rfl (lv_at hl 2 rfl) ?_
    refine lv_iconst (v := 0) hx hb dM_word_16 (by decide) ?_
    refine lv_iconst (v := 3) hx hb dM_word_17 (by decide) ?_
    have hPc := hP.sub (ws' := []) [] rfl
    refine vp_callSi (W.runS (As := [.int i9, .int 0, .int 3]) (rest := []) ⟨hx, hb, hml, hown, hw⟩ (c_within_g l dC dI cI cZ cJ cT i9 0 3 h4 h6) ⟨callB_of 3 hw (gA0 w677) rfl rfl rfl (hw _ w45) (hw _ w675) (by decide +kernel) ⟨Nat.le_of_ble_eq_true rfl, Nat.le_of_ble_eq_true rfl⟩, (hw _ w676)⟩ ⟨kb_S, fun U hU hW => ⟨rfl, by rw [hU]; exact hPc, hKK.moved hW⟩⟩ rfl rfl hl.1 rfl (lv_room (Nat.le_of_ble_eq_true rfl)) dM_word_18 ⟨Nat.le_of_ble_eq_true rfl, Nat.le_of_ble_eq_true rfl⟩) (fun r3 e4 => ?_)
    obtain rfl : r3 = 0 := e4
    refine lv_if_eq (tgt := 37) hx hb dM_word_21 (by decide) (fun _ => ?_) (fun h9 => absurd (by decide) h9)
    refine lv_iconst (v := 0) hx hb dM_word_37 (by decide) ?_
    have hP9 := hP.sub (ws' := [(m0, .inr (4, [.int 0, .ref md, .int 0, .int (-1), .int 0, .ref mh, .ref mn, .ref mc, .int 0, .int 1, .int 0, .int 0, .ref mo, .ref mb, .ref mk, .ref ml, .ref ms, .ref mw]))]) [0] rfl
    have hD9 := hD.sub (ws' := [(m0, .inr (4, [.int 0, .ref md, .int 0, .int (-1), .int 0, .ref mh, .ref mn, .ref mc, .int 0, .int 1, .int 0, .int 0, .ref mo, .ref mb, .ref mk, .ref ml, .ref ms, .ref mw]))]) [0] (by decide) rfl
    refine W.widen (k := 0) (n := 0) (by decide) (by decide) ?_
    exact W.iret (v := 0) hx hb hr (fun t ht hW => ⟨⟨0, fun _ => 0, rfl, rfl, by rw [ht]; exact hP9, hD9⟩, hS.F ht⟩) hS.2.2 dM_word_38

set_option maxHeartbeats 4000000 in
set_option maxRecDepth 100000 in
theorem c_M_word_y (l : Launch) (dC : Nat → ClassId) (dI : Nat → Nat → Nat) (cI cZ cJ cT : ClassId) (m0 md mh mn mc mo mb mk ml ms mw : Nat) (j i : Nat) (sz : Nat) (hj : j < 96) (hi : i < 4) : Met l yM_word (Cond.code yM_word cM_word 3 (some .int) :: wsA) ({ frames := 1, cells := 0, slots := 0, locals := 22 }) (va_Pc [.ref m0, .int (nI j), .int (nI i)] (fun U => U.heap.size = sz ∧ va_P (dC, dI) vwC [(m0, .inr (4, [.int 0, .ref md, .int 0, .int (-1), .int 0, .ref mh, .ref mn, .ref mc, .int 0, .int 1, .int 0, .int 0, .ref mo, .ref mb, .ref mk, .ref ml, .ref ms, .ref mw])), (md, .inl (cI, 384, .inl MW0))] U.heap ∧ KK dC dI cI cZ cJ cT U ∧ va_D (fun _ => True) [(m0, .inr (4, [.int 0, .ref md, .int 0, .int (-1), .int 0, .ref mh, .ref mn, .ref mc, .int 0, .int 1, .int 0, .int 0, .ref mo, .ref mb, .ref mk, .ref ml, .ref ms, .ref mw])), (md, .inl (cI, 384, .inl MW0))])) (va_Qi (S := Nat → Nat) (fun r _ => r = MW0 ((4 * (nI j)) + (nI i)).toNatClampNeg) (fun u t => va_P (dC, dI) vwC [(m0, .inr (4, [.int 0, .ref md, .int 0, .int (-1), .int 0, .ref mh, .ref mn, .ref mc, .int 0, .int 1, .int 0, .int 0, .ref mo, .ref mb, .ref mk, .ref ml, .ref ms, .ref mw]))] t.heap ∧ va_D (va_A [(m0, .inr (4, [.int 0, .ref md, .int 0, .int (-1), .int 0, .ref mh, .ref mn, .ref mc, .int 0, .int 1, .int 0, .int 0, .ref mo, .ref mb, .ref mk, .ref ml, .ref ms, .ref mw])), (md, .inl (cI, 384, .inl MW0))] sz) [(m0, .inr (4, [.int 0, .ref md, .int 0, .int (-1), .int 0, .ref mh, .ref mn, .ref mc, .int 0, .int 1, .int 0, .int 0, .ref mo, .ref mb, .ref mk, .ref ml, .ref ms, .ref mw]))]) (va_A [(m0, .inr (4, [.int 0, .ref md, .int 0, .int (-1), .int 0, .ref mh, .ref mn, .ref mc, .int 0, .int 1, .int 0, .int 0, .ref mo, .ref mb, .ref mk, .ref ml, .ref ms, .ref mw])), (md, .inl (cI, 384, .inl MW0))] sz)) 0 0 (va_A [(m0, .inr (4, [.int 0, .ref md, .int 0, .int (-1), .int 0, .ref mh, .ref mn, .ref mc, .int 0, .int 1, .int 0, .int 0, .ref mo, .ref mb, .ref mk, .ref ml, .ref ms, .ref mw])), (md, .inl (cI, 384, .inl MW0))] sz) := by
  refine Met.ofW (cc := cM_word) (maxL := 3) (ret := (some .int)) (by decide) rfl ?_
  intro p e s m args below meth c s₁ B hml hv
  obtain ⟨rfl, hsz, hP, hKK, hD0⟩ := hv
  have hK := hKK.1
  have hx := B.exec
  have hb := B.bytes
  have hr := B.returns
  have hw : ∀ w ∈ wsA, w.before _ s = true := fun w h => atoms_spec (ws := (Cond.code yM_word cM_word 3 (some .int) :: wsA)) B.pre w (List.mem_cons_of_mem _ h)
  have hown : s.vm.findClass "LoggedStoreModel" = some m.cls := findClass_of_methodNamed B.named
  have hlocks := B.notSynchronized
  subst hsz
  have hD := hD0.self (sz := s.heap.size)
  generalize hAe : va_A [(m0, .inr (4, [.int 0, .ref md, .int 0, .int (-1), .int 0, .ref mh, .ref mn, .ref mc, .int 0, .int 1, .int 0, .int 0, .ref mo, .ref mb, .ref mk, .ref ml, .ref ms, .ref mw])), (md, .inl (cI, 384, .inl MW0))] s.heap.size = A at hD ⊢
  have hA : ∀ q : Nat, s.heap.size ≤ q → A q := fun q h => by rw [← hAe]; exact Or.inr h
  have hS : va_S A s.heap s.heap [] := va_S.rf
  have hl := lv_entry ([.ref m0, .int (nI j), .int (nI i)]) (n := 3) (Nat.le_of_ble_eq_true rfl)
  rw [lg_entry_eq]
  generalize (lg_sl ([.ref m0, .int (nI j), .int (nI i)]) ++ List.replicate (3 - (lg_sl ([.ref m0, .int (nI j), .int (nI i)])).length) Slot.unset).toArray = ls at hl ⊢
  have hl : lv_has ls 3 [(0, .ref m0), (1, .int (nI j)), (2, .int (nI i))] := hl
  refine lv_aload_n hx hb dM_word_0 rfl (lv_at hl 0 rfl) ?_
  refine lv_iconst (v := 0) hx hb dM_word_1 (by decide) ?_
  refine va_put (D := (dC, dI)) (ci := 4) (v := .int 0) (ty := .int) (C := "LoggedStoreModel") (T := uM) (N := 18) hx hb hw inM tyM tyM_ok nmM hown hK hP hD hS 0 rfl rfl 0 (by decide) (hw _ w612) (fun _ h9 => h9) rfl (by decide +kernel) rfl rfl (Nat.le_of_ble_eq_true rfl) dM_word_2 (fun H locs hP hD hS => ?_)
  have hP : va_P (dC, dI) vwC [(m0, .inr (4, [.int 0, .ref md, .int 0, .int (-1), .int 0, .ref mh, .ref mn, .ref mc, .int 0, .int 1, .int 0, .int 0, .ref mo, .ref mb, .ref mk, .ref ml, .ref ms, .ref mw])), (md, .inl (cI, 384, .inl MW0))] H := hP
  have hD : va_D A [(m0, .inr (4, [.int 0, .ref md, .int 0, .int (-1), .int 0, .ref mh, .ref mn, .ref mc, .int 0, .int 1, .int 0, .int 0, .ref mo, .ref mb, .ref mk, .ref ml, .ref ms, .ref mw])), (md, .inl (cI, 384, .inl MW0))] := hD
  refine lv_iload_n hx hb dM_word_5 rfl (lv_at hl 1 rfl) ?_
  refine lv_iconst (v := 0) hx hb dM_word_6 (by decide) ?_
  refine lv_bipush (v := 95) hx hb dM_word_7 (by decide) ?_
  have hPc := hP.sub (ws' := []) [] rfl
  refine vp_callSi (W.runS (As := [.int (nI j), .int 0, .int 95]) (rest := []) ⟨hx, hb, hml, hown, hw⟩ (c_within_t l dC dI cI cZ cJ cT (nI j) 0 95 (nI_pos (by omega)) (nI_nlt (a := 95) (b := j) (by omega) (by decide))) ⟨callB_of 3 hw (gA0 w677) rfl rfl rfl (hw _ w45) (hw _ w675) (by decide +kernel) ⟨Nat.le_of_ble_eq_true rfl, Nat.le_of_ble_eq_true rfl⟩, (hw _ w676)⟩ ⟨kb_S, fun U hU hW => ⟨rfl, by rw [hU]; exact hPc, hKK.moved hW⟩⟩ rfl rfl hl.1 rfl (lv_room (Nat.le_of_ble_eq_true rfl)) dM_word_9 ⟨Nat.le_of_ble_eq_true rfl, Nat.le_of_ble_eq_true rfl⟩) (fun r1 e2 => ?_)
  obtain rfl : r1 = 1 := e2
  refine lv_if_eq (tgt := 37) hx hb dM_word_12 (by decide) (fun h9 => absurd h9 (by decide)) (fun _ => ?_)
  refine lv_iload_n hx hb dM_word_15 rfl (lv_at hl 2 rfl) ?_
  refine lv_iconst (v := 0) hx hb dM_word_16 (by decide) ?_
  refine lv_iconst (v := 3) hx hb dM_word_17 (by decide) ?_
  have hPc := hP.sub (ws' := []) [] rfl
  refine vp_callSi (W.runS (As := [.int (nI i), .int 0, .int 3]) (rest := []) ⟨hx, hb, hml, hown, hw⟩ (c_within_t l dC dI cI cZ cJ cT (nI i) 0 3 (nI_pos (by omega)) (nI_nlt (a := 3) (b := i) (by omega) (by decide))) ⟨callB_of 3 hw (gA0 w677) rfl rfl rfl (hw _ w45) (hw _ w675) (by decide +kernel) ⟨Nat.le_of_ble_eq_true rfl, Nat.le_of_ble_eq_true rfl⟩, (hw _ w676)⟩ ⟨kb_S, fun U hU hW => ⟨rfl, by rw [hU]; exact hPc, hKK.moved hW⟩⟩ rfl rfl hl.1 rfl (lv_room (Nat.le_of_ble_eq_true rfl)) dM_word_18 ⟨Nat.le_of_ble_eq_true rfl, Nat.le_of_ble_eq_true rfl⟩) (fun r3 e4 => ?_)
  obtain rfl : r3 = 1 := e4
  refine lv_if_eq (tgt := 37) hx hb dM_word_21 (by decide) (fun h9 => absurd h9 (by decide)) (fun _ => ?_)
  refine lv_aload_n hx hb dM_word_24 rfl (lv_at hl 0 rfl) ?_
  refine va_get (D := (dC, dI)) (ci := 4) (v := .ref md) (C := "LoggedStoreModel") (T := uM) (N := 18) hx hb hw inM hown hK hP 0 rfl rfl 1 (by decide) (hw _ w613) (fun _ h9 => h9) rfl dM_word_25 ?_
  refine lv_iconst (v := 4) hx hb dM_word_28 (by decide) ?_
  refine lv_iload_n hx hb dM_word_29 rfl (lv_at hl 1 rfl) ?_
  refine lv_imul hx hb dM_word_30 ?_
  refine lv_iload_n hx hb dM_word_31 rfl (lv_at hl 2 rfl) ?_
  refine lv_iadd hx hb dM_word_32 ?_
  refine va_iald hx hb hK hP 1 0 rfl rfl (by rw [tk_w]; exact vp_in_nI (by omega) (by decide)) dM_word_33 ?_
  refine lv_goto (tgt := 38) hx hb dM_word_34 (by decide) ?_
  have hP9 := hP.sub (ws' := [(m0, .inr (4, [.int 0, .ref md, .int 0, .int (-1), .int 0, .ref mh, .ref mn, .ref mc, .int 0, .int 1, .int 0, .int 0, .ref mo, .ref mb, .ref mk, .ref ml, .ref ms, .ref mw]))]) [0] rfl
  have hD9 := hD.sub (ws' := [(m0, .inr (4, [.int 0, .ref md, .int 0, .int (-1), .int 0, .ref mh, .ref mn, .ref mc, .int 0, .int 1, .int 0, .int 0, .ref mo, .ref mb, .ref mk, .ref ml, .ref ms, .ref mw]))]) [0] (by decide) rfl
  refine W.widen (k := 0) (n := 0) (by decide) (by decide) ?_
  exact W.iret (v := MW0 (((4 * (nI j)) + (nI i)) : Int32).toNatClampNeg) hx hb hr (fun t ht hW => ⟨⟨MW0 (((4 * (nI j)) + (nI i)) : Int32).toNatClampNeg, fun _ => 0, rfl, rfl, by rw [ht]; exact hP9, hD9⟩, hS.F ht⟩) hS.2.2 dM_word_38

set_option maxHeartbeats 4000000 in
set_option maxRecDepth 100000 in
theorem c_putWord0 (l : Launch) (dC : Nat → ClassId) (dI : Nat → Nat → Nat) (cI cZ cJ cT : ClassId) (m0 md mh mn mc mo mb mk ml ms mw : Nat) (v9 : Int32) (f : Nat → Int32) (sz : Nat) : Met l yM_putWord (Cond.code yM_putWord cM_putWord 4 none :: wsA) ({ frames := 0, cells := 0, slots := 0, locals := 0 }) (va_Pc [.ref m0, .int 1, .int 0, .int v9] (fun U => U.heap.size = sz ∧ va_P (dC, dI) vwC [(m0, .inr (4, [.int 0, .ref md, .int 0, .int (-1), .int 0, .ref mh, .ref mn, .ref mc, .int 0, .int 1, .int 0, .int 0, .ref mo, .ref mb, .ref mk, .ref ml, .ref ms, .ref mw])), (md, .inl (cI, 384, .inl f))] U.heap ∧ KK dC dI cI cZ cJ cT U ∧ va_D (fun _ => True) [(m0, .inr (4, [.int 0, .ref md, .int 0, .int (-1), .int 0, .ref mh, .ref mn, .ref mc, .int 0, .int 1, .int 0, .int 0, .ref mo, .ref mb, .ref mk, .ref ml, .ref ms, .ref mw])), (md, .inl (cI, 384, .inl f))])) (va_Qv (S := Nat → Nat) (fun _ => True) (fun u t => va_P (dC, dI) vwC [(m0, .inr (4, [.int 0, .ref md, .int 0, .int (-1), .int 0, .ref mh, .ref mn, .ref mc, .int 0, .int 1, .int 0, .int 0, .ref mo, .ref mb, .ref mk, .ref ml, .ref ms, .ref mw])), (md, .inl (cI, 384, .inl (upd f (4 : Int32).toNatClampNeg v9)))] t.heap ∧ va_D (va_A [(m0, .inr (4, [.int 0, .ref md, .int 0, .int (-1), .int 0, .ref mh, .ref mn, .ref mc, .int 0, .int 1, .int 0, .int 0, .ref mo, .ref mb, .ref mk, .ref ml, .ref ms, .ref mw])), (md, .inl (cI, 384, .inl f))] sz) [(m0, .inr (4, [.int 0, .ref md, .int 0, .int (-1), .int 0, .ref mh, .ref mn, .ref mc, .int 0, .int 1, .int 0, .int 0, .ref mo, .ref mb, .ref mk, .ref ml, .ref ms, .ref mw])), (md, .inl (cI, 384, .inl (upd f (4 : Int32).toNatClampNeg v9)))]) (va_A [(m0, .inr (4, [.int 0, .ref md, .int 0, .int (-1), .int 0, .ref mh, .ref mn, .ref mc, .int 0, .int 1, .int 0, .int 0, .ref mo, .ref mb, .ref mk, .ref ml, .ref ms, .ref mw])), (md, .inl (cI, 384, .inl f))] sz)) 0 0 (va_A [(m0, .inr (4, [.int 0, .ref md, .int 0, .int (-1), .int 0, .ref mh, .ref mn, .ref mc, .int 0, .int 1, .int 0, .int 0, .ref mo, .ref mb, .ref mk, .ref ml, .ref ms, .ref mw])), (md, .inl (cI, 384, .inl f))] sz) := by
  refine Met.ofW (cc := cM_putWord) (maxL := 4) (ret := none) (by decide) rfl ?_
  intro p e s m args below meth c s₁ B hml hv
  obtain ⟨rfl, hsz, hP, hKK, hD0⟩ := hv
  have hK := hKK.1
  have hx := B.exec
  have hb := B.bytes
  have hr := B.returns
  have hw : ∀ w ∈ wsA, w.before _ s = true := fun w h => atoms_spec (ws := (Cond.code yM_putWord cM_putWord 4 none :: wsA)) B.pre w (List.mem_cons_of_mem _ h)
  have hown : s.vm.findClass "LoggedStoreModel" = some m.cls := findClass_of_methodNamed B.named
  have hlocks := B.notSynchronized
  subst hsz
  have hD := hD0.self (sz := s.heap.size)
  generalize hAe : va_A [(m0, .inr (4, [.int 0, .ref md, .int 0, .int (-1), .int 0, .ref mh, .ref mn, .ref mc, .int 0, .int 1, .int 0, .int 0, .ref mo, .ref mb, .ref mk, .ref ml, .ref ms, .ref mw])), (md, .inl (cI, 384, .inl f))] s.heap.size = A at hD ⊢
  have hA : ∀ q : Nat, s.heap.size ≤ q → A q := fun q h => by rw [← hAe]; exact Or.inr h
  have hS : va_S A s.heap s.heap [] := va_S.rf
  have hl := lv_entry ([.ref m0, .int 1, .int 0, .int v9]) (n := 4) (Nat.le_of_ble_eq_true rfl)
  rw [lg_entry_eq]
  generalize (lg_sl ([.ref m0, .int 1, .int 0, .int v9]) ++ List.replicate (4 - (lg_sl ([.ref m0, .int 1, .int 0, .int v9])).length) Slot.unset).toArray = ls at hl ⊢
  have hl : lv_has ls 4 [(0, .ref m0), (1, .int 1), (2, .int 0), (3, .int v9)] := hl
  refine lv_aload_n hx hb dM_putWord_0 rfl (lv_at hl 0 rfl) ?_
  refine va_get (D := (dC, dI)) (ci := 4) (v := .int (-1)) (C := "LoggedStoreModel") (T := uM) (N := 18) hx hb hw inM hown hK hP 0 rfl rfl 3 (by decide) (hw _ w615) (fun _ h9 => h9) rfl dM_putWord_1 ?_
  refine lv_if_ne (tgt := 15) hx hb dM_putWord_4 (by decide) (fun _ => ?_) (fun h9 => absurd h9 (by decide))
  refine lv_aload_n hx hb dM_putWord_15 rfl (lv_at hl 0 rfl) ?_
  refine va_get (D := (dC, dI)) (ci := 4) (v := .ref md) (C := "LoggedStoreModel") (T := uM) (N := 18) hx hb hw inM hown hK hP 0 rfl rfl 1 (by decide) (hw _ w613) (fun _ h9 => h9) rfl dM_putWord_16 ?_
  refine lv_iconst (v := 4) hx hb dM_putWord_19 (by decide) ?_
  refine lv_iload_n hx hb dM_putWord_20 rfl (lv_at hl 1 rfl) ?_
  refine lv_imul hx hb dM_putWord_21 ?_
  refine lv_topi (nm_r (e' := 4) (by decide +kernel) ?_)
  refine lv_iload_n hx hb dM_putWord_22 rfl (lv_at hl 2 rfl) ?_
  refine lv_iadd hx hb dM_putWord_23 ?_
  refine lv_topi (nm_r (e' := 4) (by decide +kernel) ?_)
  refine lv_iload_n hx hb dM_putWord_24 rfl (lv_at hl 3 rfl) ?_
  refine va_iast hx hb hK hP hD hS 1 0 rfl rfl (tv_in (by decide +kernel)) dM_putWord_25 (fun H locs hP hD hS => ?_)
  have hP : va_P (dC, dI) vwC [(m0, .inr (4, [.int 0, .ref md, .int 0, .int (-1), .int 0, .ref mh, .ref mn, .ref mc, .int 0, .int 1, .int 0, .int 0, .ref mo, .ref mb, .ref mk, .ref ml, .ref ms, .ref mw])), (md, .inl (cI, 384, .inl (upd f (4 : Int32).toNatClampNeg v9)))] H := hP
  have hD : va_D A [(m0, .inr (4, [.int 0, .ref md, .int 0, .int (-1), .int 0, .ref mh, .ref mn, .ref mc, .int 0, .int 1, .int 0, .int 0, .ref mo, .ref mb, .ref mk, .ref ml, .ref ms, .ref mw])), (md, .inl (cI, 384, .inl (upd f (4 : Int32).toNatClampNeg v9)))] := hD
  have hP9 := hP.sub (ws' := [(m0, .inr (4, [.int 0, .ref md, .int 0, .int (-1), .int 0, .ref mh, .ref mn, .ref mc, .int 0, .int 1, .int 0, .int 0, .ref mo, .ref mb, .ref mk, .ref ml, .ref ms, .ref mw])), (md, .inl (cI, 384, .inl (upd f (4 : Int32).toNatClampNeg v9)))]) [0, 1] rfl
  have hD9 := hD.sub (ws' := [(m0, .inr (4, [.int 0, .ref md, .int 0, .int (-1), .int 0, .ref mh, .ref mn, .ref mc, .int 0, .int 1, .int 0, .int 0, .ref mo, .ref mb, .ref mk, .ref ml, .ref ms, .ref mw])), (md, .inl (cI, 384, .inl (upd f (4 : Int32).toNatClampNeg v9)))]) [0, 1] (by decide) rfl
  refine W.widen (k := 0) (n := 0) (by decide) (by decide) ?_
  exact W.vret hx hb hr (fun t ht hW => ⟨⟨fun _ => 0, rfl, trivial, by rw [ht]; exact hP9, hD9⟩, hS.F ht⟩) hS.2.2 dM_putWord_26

set_option maxHeartbeats 4000000 in
set_option maxRecDepth 100000 in
theorem c_putWord1 (l : Launch) (dC : Nat → ClassId) (dI : Nat → Nat → Nat) (cI cZ cJ cT : ClassId) (m0 md mh mn mc mo mb mk ml ms mw : Nat) (v9 : Int32) (f : Nat → Int32) (sz : Nat) : Met l yM_putWord (Cond.code yM_putWord cM_putWord 4 none :: wsA) ({ frames := 0, cells := 0, slots := 0, locals := 0 }) (va_Pc [.ref m0, .int 1, .int 1, .int v9] (fun U => U.heap.size = sz ∧ va_P (dC, dI) vwC [(m0, .inr (4, [.int 0, .ref md, .int 0, .int (-1), .int 0, .ref mh, .ref mn, .ref mc, .int 0, .int 1, .int 0, .int 0, .ref mo, .ref mb, .ref mk, .ref ml, .ref ms, .ref mw])), (md, .inl (cI, 384, .inl f))] U.heap ∧ KK dC dI cI cZ cJ cT U ∧ va_D (fun _ => True) [(m0, .inr (4, [.int 0, .ref md, .int 0, .int (-1), .int 0, .ref mh, .ref mn, .ref mc, .int 0, .int 1, .int 0, .int 0, .ref mo, .ref mb, .ref mk, .ref ml, .ref ms, .ref mw])), (md, .inl (cI, 384, .inl f))])) (va_Qv (S := Nat → Nat) (fun _ => True) (fun u t => va_P (dC, dI) vwC [(m0, .inr (4, [.int 0, .ref md, .int 0, .int (-1), .int 0, .ref mh, .ref mn, .ref mc, .int 0, .int 1, .int 0, .int 0, .ref mo, .ref mb, .ref mk, .ref ml, .ref ms, .ref mw])), (md, .inl (cI, 384, .inl (upd f (5 : Int32).toNatClampNeg v9)))] t.heap ∧ va_D (va_A [(m0, .inr (4, [.int 0, .ref md, .int 0, .int (-1), .int 0, .ref mh, .ref mn, .ref mc, .int 0, .int 1, .int 0, .int 0, .ref mo, .ref mb, .ref mk, .ref ml, .ref ms, .ref mw])), (md, .inl (cI, 384, .inl f))] sz) [(m0, .inr (4, [.int 0, .ref md, .int 0, .int (-1), .int 0, .ref mh, .ref mn, .ref mc, .int 0, .int 1, .int 0, .int 0, .ref mo, .ref mb, .ref mk, .ref ml, .ref ms, .ref mw])), (md, .inl (cI, 384, .inl (upd f (5 : Int32).toNatClampNeg v9)))]) (va_A [(m0, .inr (4, [.int 0, .ref md, .int 0, .int (-1), .int 0, .ref mh, .ref mn, .ref mc, .int 0, .int 1, .int 0, .int 0, .ref mo, .ref mb, .ref mk, .ref ml, .ref ms, .ref mw])), (md, .inl (cI, 384, .inl f))] sz)) 0 0 (va_A [(m0, .inr (4, [.int 0, .ref md, .int 0, .int (-1), .int 0, .ref mh, .ref mn, .ref mc, .int 0, .int 1, .int 0, .int 0, .ref mo, .ref mb, .ref mk, .ref ml, .ref ms, .ref mw])), (md, .inl (cI, 384, .inl f))] sz) := by
  refine Met.ofW (cc := cM_putWord) (maxL := 4) (ret := none) (by decide) rfl ?_
  intro p e s m args below meth c s₁ B hml hv
  obtain ⟨rfl, hsz, hP, hKK, hD0⟩ := hv
  have hK := hKK.1
  have hx := B.exec
  have hb := B.bytes
  have hr := B.returns
  have hw : ∀ w ∈ wsA, w.before _ s = true := fun w h => atoms_spec (ws := (Cond.code yM_putWord cM_putWord 4 none :: wsA)) B.pre w (List.mem_cons_of_mem _ h)
  have hown : s.vm.findClass "LoggedStoreModel" = some m.cls := findClass_of_methodNamed B.named
  have hlocks := B.notSynchronized
  subst hsz
  have hD := hD0.self (sz := s.heap.size)
  generalize hAe : va_A [(m0, .inr (4, [.int 0, .ref md, .int 0, .int (-1), .int 0, .ref mh, .ref mn, .ref mc, .int 0, .int 1, .int 0, .int 0, .ref mo, .ref mb, .ref mk, .ref ml, .ref ms, .ref mw])), (md, .inl (cI, 384, .inl f))] s.heap.size = A at hD ⊢
  have hA : ∀ q : Nat, s.heap.size ≤ q → A q := fun q h => by rw [← hAe]; exact Or.inr h
  have hS : va_S A s.heap s.heap [] := va_S.rf
  have hl := lv_entry ([.ref m0, .int 1, .int 1, .int v9]) (n := 4) (Nat.le_of_ble_eq_true rfl)
  rw [lg_entry_eq]
  generalize (lg_sl ([.ref m0, .int 1, .int 1, .int v9]) ++ List.replicate (4 - (lg_sl ([.ref m0, .int 1, .int 1, .int v9])).length) Slot.unset).toArray = ls at hl ⊢
  have hl : lv_has ls 4 [(0, .ref m0), (1, .int 1), (2, .int 1), (3, .int v9)] := hl
  refine lv_aload_n hx hb dM_putWord_0 rfl (lv_at hl 0 rfl) ?_
  refine va_get (D := (dC, dI)) (ci := 4) (v := .int (-1)) (C := "LoggedStoreModel") (T := uM) (N := 18) hx hb hw inM hown hK hP 0 rfl rfl 3 (by decide) (hw _ w615) (fun _ h9 => h9) rfl dM_putWord_1 ?_
  refine lv_if_ne (tgt := 15) hx hb dM_putWord_4 (by decide) (fun _ => ?_) (fun h9 => absurd h9 (by decide))
  refine lv_aload_n hx hb dM_putWord_15 rfl (lv_at hl 0 rfl) ?_
  refine va_get (D := (dC, dI)) (ci := 4) (v := .ref md) (C := "LoggedStoreModel") (T := uM) (N := 18) hx hb hw inM hown hK hP 0 rfl rfl 1 (by decide) (hw _ w613) (fun _ h9 => h9) rfl dM_putWord_16 ?_
  refine lv_iconst (v := 4) hx hb dM_putWord_19 (by decide) ?_
  refine lv_iload_n hx hb dM_putWord_20 rfl (lv_at hl 1 rfl) ?_
  refine lv_imul hx hb dM_putWord_21 ?_
  refine lv_topi (nm_r (e' := 4) (by decide +kernel) ?_)
  refine lv_iload_n hx hb dM_putWord_22 rfl (lv_at hl 2 rfl) ?_
  refine lv_iadd hx hb dM_putWord_23 ?_
  refine lv_topi (nm_r (e' := 5) (by decide +kernel) ?_)
  refine lv_iload_n hx hb dM_putWord_24 rfl (lv_at hl 3 rfl) ?_
  refine va_iast hx hb hK hP hD hS 1 0 rfl rfl (tv_in (by decide +kernel)) dM_putWord_25 (fun H locs hP hD hS => ?_)
  have hP : va_P (dC, dI) vwC [(m0, .inr (4, [.int 0, .ref md, .int 0, .int (-1), .int 0, .ref mh, .ref mn, .ref mc, .int 0, .int 1, .int 0, .int 0, .ref mo, .ref mb, .ref mk, .ref ml, .ref ms, .ref mw])), (md, .inl (cI, 384, .inl (upd f (5 : Int32).toNatClampNeg v9)))] H := hP
  have hD : va_D A [(m0, .inr (4, [.int 0, .ref md, .int 0, .int (-1), .int 0, .ref mh, .ref mn, .ref mc, .int 0, .int 1, .int 0, .int 0, .ref mo, .ref mb, .ref mk, .ref ml, .ref ms, .ref mw])), (md, .inl (cI, 384, .inl (upd f (5 : Int32).toNatClampNeg v9)))] := hD
  have hP9 := hP.sub (ws' := [(m0, .inr (4, [.int 0, .ref md, .int 0, .int (-1), .int 0, .ref mh, .ref mn, .ref mc, .int 0, .int 1, .int 0, .int 0, .ref mo, .ref mb, .ref mk, .ref ml, .ref ms, .ref mw])), (md, .inl (cI, 384, .inl (upd f (5 : Int32).toNatClampNeg v9)))]) [0, 1] rfl
  have hD9 := hD.sub (ws' := [(m0, .inr (4, [.int 0, .ref md, .int 0, .int (-1), .int 0, .ref mh, .ref mn, .ref mc, .int 0, .int 1, .int 0, .int 0, .ref mo, .ref mb, .ref mk, .ref ml, .ref ms, .ref mw])), (md, .inl (cI, 384, .inl (upd f (5 : Int32).toNatClampNeg v9)))]) [0, 1] (by decide) rfl
  refine W.widen (k := 0) (n := 0) (by decide) (by decide) ?_
  exact W.vret hx hb hr (fun t ht hW => ⟨⟨fun _ => 0, rfl, trivial, by rw [ht]; exact hP9, hD9⟩, hS.F ht⟩) hS.2.2 dM_putWord_26

set_option maxHeartbeats 4000000 in
set_option maxRecDepth 100000 in
theorem c_putWord2 (l : Launch) (dC : Nat → ClassId) (dI : Nat → Nat → Nat) (cI cZ cJ cT : ClassId) (m0 md mh mn mc mo mb mk ml ms mw : Nat) (v9 : Int32) (f : Nat → Int32) (sz : Nat) : Met l yM_putWord (Cond.code yM_putWord cM_putWord 4 none :: wsA) ({ frames := 0, cells := 0, slots := 0, locals := 0 }) (va_Pc [.ref m0, .int 1, .int 2, .int v9] (fun U => U.heap.size = sz ∧ va_P (dC, dI) vwC [(m0, .inr (4, [.int 0, .ref md, .int 0, .int (-1), .int 0, .ref mh, .ref mn, .ref mc, .int 0, .int 1, .int 0, .int 0, .ref mo, .ref mb, .ref mk, .ref ml, .ref ms, .ref mw])), (md, .inl (cI, 384, .inl f))] U.heap ∧ KK dC dI cI cZ cJ cT U ∧ va_D (fun _ => True) [(m0, .inr (4, [.int 0, .ref md, .int 0, .int (-1), .int 0, .ref mh, .ref mn, .ref mc, .int 0, .int 1, .int 0, .int 0, .ref mo, .ref mb, .ref mk, .ref ml, .ref ms, .ref mw])), (md, .inl (cI, 384, .inl f))])) (va_Qv (S := Nat → Nat) (fun _ => True) (fun u t => va_P (dC, dI) vwC [(m0, .inr (4, [.int 0, .ref md, .int 0, .int (-1), .int 0, .ref mh, .ref mn, .ref mc, .int 0, .int 1, .int 0, .int 0, .ref mo, .ref mb, .ref mk, .ref ml, .ref ms, .ref mw])), (md, .inl (cI, 384, .inl (upd f (6 : Int32).toNatClampNeg v9)))] t.heap ∧ va_D (va_A [(m0, .inr (4, [.int 0, .ref md, .int 0, .int (-1), .int 0, .ref mh, .ref mn, .ref mc, .int 0, .int 1, .int 0, .int 0, .ref mo, .ref mb, .ref mk, .ref ml, .ref ms, .ref mw])), (md, .inl (cI, 384, .inl f))] sz) [(m0, .inr (4, [.int 0, .ref md, .int 0, .int (-1), .int 0, .ref mh, .ref mn, .ref mc, .int 0, .int 1, .int 0, .int 0, .ref mo, .ref mb, .ref mk, .ref ml, .ref ms, .ref mw])), (md, .inl (cI, 384, .inl (upd f (6 : Int32).toNatClampNeg v9)))]) (va_A [(m0, .inr (4, [.int 0, .ref md, .int 0, .int (-1), .int 0, .ref mh, .ref mn, .ref mc, .int 0, .int 1, .int 0, .int 0, .ref mo, .ref mb, .ref mk, .ref ml, .ref ms, .ref mw])), (md, .inl (cI, 384, .inl f))] sz)) 0 0 (va_A [(m0, .inr (4, [.int 0, .ref md, .int 0, .int (-1), .int 0, .ref mh, .ref mn, .ref mc, .int 0, .int 1, .int 0, .int 0, .ref mo, .ref mb, .ref mk, .ref ml, .ref ms, .ref mw])), (md, .inl (cI, 384, .inl f))] sz) := by
  refine Met.ofW (cc := cM_putWord) (maxL := 4) (ret := none) (by decide) rfl ?_
  intro p e s m args below meth c s₁ B hml hv
  obtain ⟨rfl, hsz, hP, hKK, hD0⟩ := hv
  have hK := hKK.1
  have hx := B.exec
  have hb := B.bytes
  have hr := B.returns
  have hw : ∀ w ∈ wsA, w.before _ s = true := fun w h => atoms_spec (ws := (Cond.code yM_putWord cM_putWord 4 none :: wsA)) B.pre w (List.mem_cons_of_mem _ h)
  have hown : s.vm.findClass "LoggedStoreModel" = some m.cls := findClass_of_methodNamed B.named
  have hlocks := B.notSynchronized
  subst hsz
  have hD := hD0.self (sz := s.heap.size)
  generalize hAe : va_A [(m0, .inr (4, [.int 0, .ref md, .int 0, .int (-1), .int 0, .ref mh, .ref mn, .ref mc, .int 0, .int 1, .int 0, .int 0, .ref mo, .ref mb, .ref mk, .ref ml, .ref ms, .ref mw])), (md, .inl (cI, 384, .inl f))] s.heap.size = A at hD ⊢
  have hA : ∀ q : Nat, s.heap.size ≤ q → A q := fun q h => by rw [← hAe]; exact Or.inr h
  have hS : va_S A s.heap s.heap [] := va_S.rf
  have hl := lv_entry ([.ref m0, .int 1, .int 2, .int v9]) (n := 4) (Nat.le_of_ble_eq_true rfl)
  rw [lg_entry_eq]
  generalize (lg_sl ([.ref m0, .int 1, .int 2, .int v9]) ++ List.replicate (4 - (lg_sl ([.ref m0, .int 1, .int 2, .int v9])).length) Slot.unset).toArray = ls at hl ⊢
  have hl : lv_has ls 4 [(0, .ref m0), (1, .int 1), (2, .int 2), (3, .int v9)] := hl
  refine lv_aload_n hx hb dM_putWord_0 rfl (lv_at hl 0 rfl) ?_
  refine va_get (D := (dC, dI)) (ci := 4) (v := .int (-1)) (C := "LoggedStoreModel") (T := uM) (N := 18) hx hb hw inM hown hK hP 0 rfl rfl 3 (by decide) (hw _ w615) (fun _ h9 => h9) rfl dM_putWord_1 ?_
  refine lv_if_ne (tgt := 15) hx hb dM_putWord_4 (by decide) (fun _ => ?_) (fun h9 => absurd h9 (by decide))
  refine lv_aload_n hx hb dM_putWord_15 rfl (lv_at hl 0 rfl) ?_
  refine va_get (D := (dC, dI)) (ci := 4) (v := .ref md) (C := "LoggedStoreModel") (T := uM) (N := 18) hx hb hw inM hown hK hP 0 rfl rfl 1 (by decide) (hw _ w613) (fun _ h9 => h9) rfl dM_putWord_16 ?_
  refine lv_iconst (v := 4) hx hb dM_putWord_19 (by decide) ?_
  refine lv_iload_n hx hb dM_putWord_20 rfl (lv_at hl 1 rfl) ?_
  refine lv_imul hx hb dM_putWord_21 ?_
  refine lv_topi (nm_r (e' := 4) (by decide +kernel) ?_)
  refine lv_iload_n hx hb dM_putWord_22 rfl (lv_at hl 2 rfl) ?_
  refine lv_iadd hx hb dM_putWord_23 ?_
  refine lv_topi (nm_r (e' := 6) (by decide +kernel) ?_)
  refine lv_iload_n hx hb dM_putWord_24 rfl (lv_at hl 3 rfl) ?_
  refine va_iast hx hb hK hP hD hS 1 0 rfl rfl (tv_in (by decide +kernel)) dM_putWord_25 (fun H locs hP hD hS => ?_)
  have hP : va_P (dC, dI) vwC [(m0, .inr (4, [.int 0, .ref md, .int 0, .int (-1), .int 0, .ref mh, .ref mn, .ref mc, .int 0, .int 1, .int 0, .int 0, .ref mo, .ref mb, .ref mk, .ref ml, .ref ms, .ref mw])), (md, .inl (cI, 384, .inl (upd f (6 : Int32).toNatClampNeg v9)))] H := hP
  have hD : va_D A [(m0, .inr (4, [.int 0, .ref md, .int 0, .int (-1), .int 0, .ref mh, .ref mn, .ref mc, .int 0, .int 1, .int 0, .int 0, .ref mo, .ref mb, .ref mk, .ref ml, .ref ms, .ref mw])), (md, .inl (cI, 384, .inl (upd f (6 : Int32).toNatClampNeg v9)))] := hD
  have hP9 := hP.sub (ws' := [(m0, .inr (4, [.int 0, .ref md, .int 0, .int (-1), .int 0, .ref mh, .ref mn, .ref mc, .int 0, .int 1, .int 0, .int 0, .ref mo, .ref mb, .ref mk, .ref ml, .ref ms, .ref mw])), (md, .inl (cI, 384, .inl (upd f (6 : Int32).toNatClampNeg v9)))]) [0, 1] rfl
  have hD9 := hD.sub (ws' := [(m0, .inr (4, [.int 0, .ref md, .int 0, .int (-1), .int 0, .ref mh, .ref mn, .ref mc, .int 0, .int 1, .int 0, .int 0, .ref mo, .ref mb, .ref mk, .ref ml, .ref ms, .ref mw])), (md, .inl (cI, 384, .inl (upd f (6 : Int32).toNatClampNeg v9)))]) [0, 1] (by decide) rfl
  refine W.widen (k := 0) (n := 0) (by decide) (by decide) ?_
  exact W.vret hx hb hr (fun t ht hW => ⟨⟨fun _ => 0, rfl, trivial, by rw [ht]; exact hP9, hD9⟩, hS.F ht⟩) hS.2.2 dM_putWord_26

set_option maxHeartbeats 4000000 in
set_option maxRecDepth 100000 in
theorem c_putWord3 (l : Launch) (dC : Nat → ClassId) (dI : Nat → Nat → Nat) (cI cZ cJ cT : ClassId) (m0 md mh mn mc mo mb mk ml ms mw : Nat) (v9 : Int32) (f : Nat → Int32) (sz : Nat) : Met l yM_putWord (Cond.code yM_putWord cM_putWord 4 none :: wsA) ({ frames := 0, cells := 0, slots := 0, locals := 0 }) (va_Pc [.ref m0, .int 1, .int 3, .int v9] (fun U => U.heap.size = sz ∧ va_P (dC, dI) vwC [(m0, .inr (4, [.int 0, .ref md, .int 0, .int (-1), .int 0, .ref mh, .ref mn, .ref mc, .int 0, .int 1, .int 0, .int 0, .ref mo, .ref mb, .ref mk, .ref ml, .ref ms, .ref mw])), (md, .inl (cI, 384, .inl f))] U.heap ∧ KK dC dI cI cZ cJ cT U ∧ va_D (fun _ => True) [(m0, .inr (4, [.int 0, .ref md, .int 0, .int (-1), .int 0, .ref mh, .ref mn, .ref mc, .int 0, .int 1, .int 0, .int 0, .ref mo, .ref mb, .ref mk, .ref ml, .ref ms, .ref mw])), (md, .inl (cI, 384, .inl f))])) (va_Qv (S := Nat → Nat) (fun _ => True) (fun u t => va_P (dC, dI) vwC [(m0, .inr (4, [.int 0, .ref md, .int 0, .int (-1), .int 0, .ref mh, .ref mn, .ref mc, .int 0, .int 1, .int 0, .int 0, .ref mo, .ref mb, .ref mk, .ref ml, .ref ms, .ref mw])), (md, .inl (cI, 384, .inl (upd f (7 : Int32).toNatClampNeg v9)))] t.heap ∧ va_D (va_A [(m0, .inr (4, [.int 0, .ref md, .int 0, .int (-1), .int 0, .ref mh, .ref mn, .ref mc, .int 0, .int 1, .int 0, .int 0, .ref mo, .ref mb, .ref mk, .ref ml, .ref ms, .ref mw])), (md, .inl (cI, 384, .inl f))] sz) [(m0, .inr (4, [.int 0, .ref md, .int 0, .int (-1), .int 0, .ref mh, .ref mn, .ref mc, .int 0, .int 1, .int 0, .int 0, .ref mo, .ref mb, .ref mk, .ref ml, .ref ms, .ref mw])), (md, .inl (cI, 384, .inl (upd f (7 : Int32).toNatClampNeg v9)))]) (va_A [(m0, .inr (4, [.int 0, .ref md, .int 0, .int (-1), .int 0, .ref mh, .ref mn, .ref mc, .int 0, .int 1, .int 0, .int 0, .ref mo, .ref mb, .ref mk, .ref ml, .ref ms, .ref mw])), (md, .inl (cI, 384, .inl f))] sz)) 0 0 (va_A [(m0, .inr (4, [.int 0, .ref md, .int 0, .int (-1), .int 0, .ref mh, .ref mn, .ref mc, .int 0, .int 1, .int 0, .int 0, .ref mo, .ref mb, .ref mk, .ref ml, .ref ms, .ref mw])), (md, .inl (cI, 384, .inl f))] sz) := by
  refine Met.ofW (cc := cM_putWord) (maxL := 4) (ret := none) (by decide) rfl ?_
  intro p e s m args below meth c s₁ B hml hv
  obtain ⟨rfl, hsz, hP, hKK, hD0⟩ := hv
  have hK := hKK.1
  have hx := B.exec
  have hb := B.bytes
  have hr := B.returns
  have hw : ∀ w ∈ wsA, w.before _ s = true := fun w h => atoms_spec (ws := (Cond.code yM_putWord cM_putWord 4 none :: wsA)) B.pre w (List.mem_cons_of_mem _ h)
  have hown : s.vm.findClass "LoggedStoreModel" = some m.cls := findClass_of_methodNamed B.named
  have hlocks := B.notSynchronized
  subst hsz
  have hD := hD0.self (sz := s.heap.size)
  generalize hAe : va_A [(m0, .inr (4, [.int 0, .ref md, .int 0, .int (-1), .int 0, .ref mh, .ref mn, .ref mc, .int 0, .int 1, .int 0, .int 0, .ref mo, .ref mb, .ref mk, .ref ml, .ref ms, .ref mw])), (md, .inl (cI, 384, .inl f))] s.heap.size = A at hD ⊢
  have hA : ∀ q : Nat, s.heap.size ≤ q → A q := fun q h => by rw [← hAe]; exact Or.inr h
  have hS : va_S A s.heap s.heap [] := va_S.rf
  have hl := lv_entry ([.ref m0, .int 1, .int 3, .int v9]) (n := 4) (Nat.le_of_ble_eq_true rfl)
  rw [lg_entry_eq]
  generalize (lg_sl ([.ref m0, .int 1, .int 3, .int v9]) ++ List.replicate (4 - (lg_sl ([.ref m0, .int 1, .int 3, .int v9])).length) Slot.unset).toArray = ls at hl ⊢
  have hl : lv_has ls 4 [(0, .ref m0), (1, .int 1), (2, .int 3), (3, .int v9)] := hl
  refine lv_aload_n hx hb dM_putWord_0 rfl (lv_at hl 0 rfl) ?_
  refine va_get (D := (dC, dI)) (ci := 4) (v := .int (-1)) (C := "LoggedStoreModel") (T := uM) (N := 18) hx hb hw inM hown hK hP 0 rfl rfl 3 (by decide) (hw _ w615) (fun _ h9 => h9) rfl dM_putWord_1 ?_
  refine lv_if_ne (tgt := 15) hx hb dM_putWord_4 (by decide) (fun _ => ?_) (fun h9 => absurd h9 (by decide))
  refine lv_aload_n hx hb dM_putWord_15 rfl (lv_at hl 0 rfl) ?_
  refine va_get (D := (dC, dI)) (ci := 4) (v := .ref md) (C := "LoggedStoreModel") (T := uM) (N := 18) hx hb hw inM hown hK hP 0 rfl rfl 1 (by decide) (hw _ w613) (fun _ h9 => h9) rfl dM_putWord_16 ?_
  refine lv_iconst (v := 4) hx hb dM_putWord_19 (by decide) ?_
  refine lv_iload_n hx hb dM_putWord_20 rfl (lv_at hl 1 rfl) ?_
  refine lv_imul hx hb dM_putWord_21 ?_
  refine lv_topi (nm_r (e' := 4) (by decide +kernel) ?_)
  refine lv_iload_n hx hb dM_putWord_22 rfl (lv_at hl 2 rfl) ?_
  refine lv_iadd hx hb dM_putWord_23 ?_
  refine lv_topi (nm_r (e' := 7) (by decide +kernel) ?_)
  refine lv_iload_n hx hb dM_putWord_24 rfl (lv_at hl 3 rfl) ?_
  refine va_iast hx hb hK hP hD hS 1 0 rfl rfl (tv_in (by decide +kernel)) dM_putWord_25 (fun H locs hP hD hS => ?_)
  have hP : va_P (dC, dI) vwC [(m0, .inr (4, [.int 0, .ref md, .int 0, .int (-1), .int 0, .ref mh, .ref mn, .ref mc, .int 0, .int 1, .int 0, .int 0, .ref mo, .ref mb, .ref mk, .ref ml, .ref ms, .ref mw])), (md, .inl (cI, 384, .inl (upd f (7 : Int32).toNatClampNeg v9)))] H := hP
  have hD : va_D A [(m0, .inr (4, [.int 0, .ref md, .int 0, .int (-1), .int 0, .ref mh, .ref mn, .ref mc, .int 0, .int 1, .int 0, .int 0, .ref mo, .ref mb, .ref mk, .ref ml, .ref ms, .ref mw])), (md, .inl (cI, 384, .inl (upd f (7 : Int32).toNatClampNeg v9)))] := hD
  have hP9 := hP.sub (ws' := [(m0, .inr (4, [.int 0, .ref md, .int 0, .int (-1), .int 0, .ref mh, .ref mn, .ref mc, .int 0, .int 1, .int 0, .int 0, .ref mo, .ref mb, .ref mk, .ref ml, .ref ms, .ref mw])), (md, .inl (cI, 384, .inl (upd f (7 : Int32).toNatClampNeg v9)))]) [0, 1] rfl
  have hD9 := hD.sub (ws' := [(m0, .inr (4, [.int 0, .ref md, .int 0, .int (-1), .int 0, .ref mh, .ref mn, .ref mc, .int 0, .int 1, .int 0, .int 0, .ref mo, .ref mb, .ref mk, .ref ml, .ref ms, .ref mw])), (md, .inl (cI, 384, .inl (upd f (7 : Int32).toNatClampNeg v9)))]) [0, 1] (by decide) rfl
  refine W.widen (k := 0) (n := 0) (by decide) (by decide) ?_
  exact W.vret hx hb hr (fun t ht hW => ⟨⟨fun _ => 0, rfl, trivial, by rw [ht]; exact hP9, hD9⟩, hS.F ht⟩) hS.2.2 dM_putWord_26

set_option maxHeartbeats 4000000 in
set_option maxRecDepth 100000 in
theorem c_M_write (l : Launch) (dC : Nat → ClassId) (dI : Nat → Nat → Nat) (cI cZ cJ cT : ClassId) (m0 md mh mn mc mo mb mk ml ms mw : Nat) (a b c9 e9 : Int32) (f : Nat → Int32) (sz : Nat) : Met l yM_write (Cond.code yM_write cM_write 6 none :: wsA) ({ frames := 1, cells := 0, slots := 0, locals := 23 }) (va_Pc [.ref m0, .int 1, .int a, .int b, .int c9, .int e9] (fun U => U.heap.size = sz ∧ va_P (dC, dI) vwC [(m0, .inr (4, [.int 0, .ref md, .int 0, .int (-1), .int 0, .ref mh, .ref mn, .ref mc, .int 0, .int 1, .int 0, .int 0, .ref mo, .ref mb, .ref mk, .ref ml, .ref ms, .ref mw])), (md, .inl (cI, 384, .inl f))] U.heap ∧ KK dC dI cI cZ cJ cT U ∧ va_D (fun _ => True) [(m0, .inr (4, [.int 0, .ref md, .int 0, .int (-1), .int 0, .ref mh, .ref mn, .ref mc, .int 0, .int 1, .int 0, .int 0, .ref mo, .ref mb, .ref mk, .ref ml, .ref ms, .ref mw])), (md, .inl (cI, 384, .inl f))])) (va_Qv (S := Nat → Nat) (fun _ => True) (fun u t => va_P (dC, dI) vwC [(m0, .inr (4, [.int 0, .ref md, .int 0, .int (-1), .int 0, .ref mh, .ref mn, .ref mc, .int 0, .int 1, .int 0, .int 0, .ref mo, .ref mb, .ref mk, .ref ml, .ref ms, .ref mw]))] t.heap ∧ va_D (va_A [(m0, .inr (4, [.int 0, .ref md, .int 0, .int (-1), .int 0, .ref mh, .ref mn, .ref mc, .int 0, .int 1, .int 0, .int 0, .ref mo, .ref mb, .ref mk, .ref ml, .ref ms, .ref mw])), (md, .inl (cI, 384, .inl f))] sz) [(m0, .inr (4, [.int 0, .ref md, .int 0, .int (-1), .int 0, .ref mh, .ref mn, .ref mc, .int 0, .int 1, .int 0, .int 0, .ref mo, .ref mb, .ref mk, .ref ml, .ref ms, .ref mw]))]) (va_A [(m0, .inr (4, [.int 0, .ref md, .int 0, .int (-1), .int 0, .ref mh, .ref mn, .ref mc, .int 0, .int 1, .int 0, .int 0, .ref mo, .ref mb, .ref mk, .ref ml, .ref ms, .ref mw])), (md, .inl (cI, 384, .inl f))] sz)) 0 0 (va_A [(m0, .inr (4, [.int 0, .ref md, .int 0, .int (-1), .int 0, .ref mh, .ref mn, .ref mc, .int 0, .int 1, .int 0, .int 0, .ref mo, .ref mb, .ref mk, .ref ml, .ref ms, .ref mw])), (md, .inl (cI, 384, .inl f))] sz) := by
  refine Met.ofW (cc := cM_write) (maxL := 6) (ret := none) (by decide) rfl ?_
  intro p e s m args below meth c s₁ B hml hv
  obtain ⟨rfl, hsz, hP, hKK, hD0⟩ := hv
  have hK := hKK.1
  have hx := B.exec
  have hb := B.bytes
  have hr := B.returns
  have hw : ∀ w ∈ wsA, w.before _ s = true := fun w h => atoms_spec (ws := (Cond.code yM_write cM_write 6 none :: wsA)) B.pre w (List.mem_cons_of_mem _ h)
  have hown : s.vm.findClass "LoggedStoreModel" = some m.cls := findClass_of_methodNamed B.named
  have hlocks := B.notSynchronized
  subst hsz
  have hD := hD0.self (sz := s.heap.size)
  generalize hAe : va_A [(m0, .inr (4, [.int 0, .ref md, .int 0, .int (-1), .int 0, .ref mh, .ref mn, .ref mc, .int 0, .int 1, .int 0, .int 0, .ref mo, .ref mb, .ref mk, .ref ml, .ref ms, .ref mw])), (md, .inl (cI, 384, .inl f))] s.heap.size = A at hD ⊢
  have hA : ∀ q : Nat, s.heap.size ≤ q → A q := fun q h => by rw [← hAe]; exact Or.inr h
  have hS : va_S A s.heap s.heap [] := va_S.rf
  have hl := lv_entry ([.ref m0, .int 1, .int a, .int b, .int c9, .int e9]) (n := 6) (Nat.le_of_ble_eq_true rfl)
  rw [lg_entry_eq]
  generalize (lg_sl ([.ref m0, .int 1, .int a, .int b, .int c9, .int e9]) ++ List.replicate (6 - (lg_sl ([.ref m0, .int 1, .int a, .int b, .int c9, .int e9])).length) Slot.unset).toArray = ls at hl ⊢
  have hl : lv_has ls 6 [(0, .ref m0), (1, .int 1), (2, .int a), (3, .int b), (4, .int c9), (5, .int e9)] := hl
  refine lv_aload_n hx hb dM_write_0 rfl (lv_at hl 0 rfl) ?_
  refine va_get (D := (dC, dI)) (ci := 4) (v := .int 0) (C := "LoggedStoreModel") (T := uM) (N := 18) hx hb hw inM hown hK hP 0 rfl rfl 2 (by decide) (hw _ w614) (fun _ h9 => h9) rfl dM_write_1 ?_
  refine lv_if_eq (tgt := 8) hx hb dM_write_4 (by decide) (fun _ => ?_) (fun h9 => absurd (by decide) h9)
  refine lv_aload_n hx hb dM_write_8 rfl (lv_at hl 0 rfl) ?_
  refine lv_iload_n hx hb dM_write_9 rfl (lv_at hl 1 rfl) ?_
  refine lv_iconst (v := 0) hx hb dM_write_10 (by decide) ?_
  refine lv_iload_n hx hb dM_write_11 rfl (lv_at hl 2 rfl) ?_
  have hPc := hP.sub (ws' := [(m0, .inr (4, [.int 0, .ref md, .int 0, .int (-1), .int 0, .ref mh, .ref mn, .ref mc, .int 0, .int 1, .int 0, .int 0, .ref mo, .ref mb, .ref mk, .ref ml, .ref ms, .ref mw])), (md, .inl (cI, 384, .inl f))]) [0, 1] rfl
  have hDc := hD.sub (ws' := [(m0, .inr (4, [.int 0, .ref md, .int 0, .int (-1), .int 0, .ref mh, .ref mn, .ref mc, .int 0, .int 1, .int 0, .int 0, .ref mo, .ref mb, .ref mk, .ref ml, .ref ms, .ref mw])), (md, .inl (cI, 384, .inl f))]) [0, 1] (by decide) rfl
  have hFc := va_free (wc := [(m0, .inr (4, [.int 0, .ref md, .int 0, .int (-1), .int 0, .ref mh, .ref mn, .ref mc, .int 0, .int 1, .int 0, .int 0, .ref mo, .ref mb, .ref mk, .ref ml, .ref ms, .ref mw])), (md, .inl (cI, 384, .inl f))]) hD hS hA [0, 1] rfl
  refine va_callv (va_runV (C := "LoggedStoreModel") (b := m0) (As := [.int 1, .int 0, .int a]) (rest := []) ⟨hx, hb, hml, hown, hw⟩ (c_putWord0 l dC dI cI cZ cJ cT m0 md mh mn mc mo mb mk ml ms mw a f s.heap.size) ⟨callB_of 3 hw (gA0 w741) rfl rfl rfl (hw _ w45) (hw _ w738) (by decide +kernel) ⟨Nat.le_of_ble_eq_true rfl, Nat.le_of_ble_eq_true rfl⟩, (hw _ w740), (hw _ w30)⟩ ⟨kb_Q, va_recv (ci := 4) (q0 := 0) hK hP rfl rfl, fun U hU hW => ⟨rfl, by rw [hU], by rw [hU]; exact hPc, hKK.moved hW, hDc.weaken (fun _ _ _ _ => trivial)⟩⟩ rfl rfl hl.1 rfl (lv_room (Nat.le_of_ble_eq_true rfl)) dM_write_12 ⟨Nat.le_of_ble_eq_true rfl, Nat.le_of_ble_eq_true rfl⟩) hS (fun q _ h => hFc q h) hFc (fun u2 t H1 locs ht hvm he9 hB hz1 hk1 hS => ?_)
  obtain ⟨hP1, hD1⟩ := hB
  rw [ht] at hP1
  obtain ⟨hP, hD⟩ := va_join (wr := []) (w1 := [(m0, .inr (4, [.int 0, .ref md, .int 0, .int (-1), .int 0, .ref mh, .ref mn, .ref mc, .int 0, .int 1, .int 0, .int 0, .ref mo, .ref mb, .ref mk, .ref ml, .ref ms, .ref mw])), (md, .inl (cI, 384, .inl (upd f (4 : Int32).toNatClampNeg a)))]) hP hD [0, 1] [] rfl rfl (by decide) (by decide) hk1 hFc hP1 hD1
  generalize H1 = H at hP hS ⊢
  have hP : va_P (dC, dI) vwC [(m0, .inr (4, [.int 0, .ref md, .int 0, .int (-1), .int 0, .ref mh, .ref mn, .ref mc, .int 0, .int 1, .int 0, .int 0, .ref mo, .ref mb, .ref mk, .ref ml, .ref ms, .ref mw])), (md, .inl (cI, 384, .inl (upd f (4 : Int32).toNatClampNeg a)))] H := hP
  have hD : va_D A [(m0, .inr (4, [.int 0, .ref md, .int 0, .int (-1), .int 0, .ref mh, .ref mn, .ref mc, .int 0, .int 1, .int 0, .int 0, .ref mo, .ref mb, .ref mk, .ref ml, .ref ms, .ref mw])), (md, .inl (cI, 384, .inl (upd f (4 : Int32).toNatClampNeg a)))] := hD
  refine lv_aload_n hx hb dM_write_15 rfl (lv_at hl 0 rfl) ?_
  refine lv_iload_n hx hb dM_write_16 rfl (lv_at hl 1 rfl) ?_
  refine lv_iconst (v := 1) hx hb dM_write_17 (by decide) ?_
  refine lv_iload_n hx hb dM_write_18 rfl (lv_at hl 3 rfl) ?_
  have hPc := hP.sub (ws' := [(m0, .inr (4, [.int 0, .ref md, .int 0, .int (-1), .int 0, .ref mh, .ref mn, .ref mc, .int 0, .int 1, .int 0, .int 0, .ref mo, .ref mb, .ref mk, .ref ml, .ref ms, .ref mw])), (md, .inl (cI, 384, .inl (upd f (4 : Int32).toNatClampNeg a)))]) [0, 1] rfl
  have hDc := hD.sub (ws' := [(m0, .inr (4, [.int 0, .ref md, .int 0, .int (-1), .int 0, .ref mh, .ref mn, .ref mc, .int 0, .int 1, .int 0, .int 0, .ref mo, .ref mb, .ref mk, .ref ml, .ref ms, .ref mw])), (md, .inl (cI, 384, .inl (upd f (4 : Int32).toNatClampNeg a)))]) [0, 1] (by decide) rfl
  have hFc := va_free (wc := [(m0, .inr (4, [.int 0, .ref md, .int 0, .int (-1), .int 0, .ref mh, .ref mn, .ref mc, .int 0, .int 1, .int 0, .int 0, .ref mo, .ref mb, .ref mk, .ref ml, .ref ms, .ref mw])), (md, .inl (cI, 384, .inl (upd f (4 : Int32).toNatClampNeg a)))]) hD hS hA [0, 1] rfl
  refine va_callv (va_runV (C := "LoggedStoreModel") (b := m0) (As := [.int 1, .int 1, .int b]) (rest := []) ⟨hx, hb, hml, hown, hw⟩ (c_putWord1 l dC dI cI cZ cJ cT m0 md mh mn mc mo mb mk ml ms mw b (upd f (4 : Int32).toNatClampNeg a) H.size) ⟨callB_of 3 hw (gA0 w741) rfl rfl rfl (hw _ w45) (hw _ w738) (by decide +kernel) ⟨Nat.le_of_ble_eq_true rfl, Nat.le_of_ble_eq_true rfl⟩, (hw _ w740), (hw _ w30)⟩ ⟨kb_Q, va_recv (ci := 4) (q0 := 0) hK hP rfl rfl, fun U hU hW => ⟨rfl, by rw [hU], by rw [hU]; exact hPc, hKK.moved hW, hDc.weaken (fun _ _ _ _ => trivial)⟩⟩ rfl rfl hl.1 rfl (lv_room (Nat.le_of_ble_eq_true rfl)) dM_write_19 ⟨Nat.le_of_ble_eq_true rfl, Nat.le_of_ble_eq_true rfl⟩) hS (fun q _ h => hFc q h) hFc (fun u4 t H1 locs ht hvm he9 hB hz1 hk1 hS => ?_)
  obtain ⟨hP1, hD1⟩ := hB
  rw [ht] at hP1
  obtain ⟨hP, hD⟩ := va_join (wr := []) (w1 := [(m0, .inr (4, [.int 0, .ref md, .int 0, .int (-1), .int 0, .ref mh, .ref mn, .ref mc, .int 0, .int 1, .int 0, .int 0, .ref mo, .ref mb, .ref mk, .ref ml, .ref ms, .ref mw])), (md, .inl (cI, 384, .inl (upd (upd f (4 : Int32).toNatClampNeg a) (5 : Int32).toNatClampNeg b)))]) hP hD [0, 1] [] rfl rfl (by decide) (by decide) hk1 hFc hP1 hD1
  generalize H1 = H at hP hS ⊢
  have hP : va_P (dC, dI) vwC [(m0, .inr (4, [.int 0, .ref md, .int 0, .int (-1), .int 0, .ref mh, .ref mn, .ref mc, .int 0, .int 1, .int 0, .int 0, .ref mo, .ref mb, .ref mk, .ref ml, .ref ms, .ref mw])), (md, .inl (cI, 384, .inl (upd (upd f (4 : Int32).toNatClampNeg a) (5 : Int32).toNatClampNeg b)))] H := hP
  have hD : va_D A [(m0, .inr (4, [.int 0, .ref md, .int 0, .int (-1), .int 0, .ref mh, .ref mn, .ref mc, .int 0, .int 1, .int 0, .int 0, .ref mo, .ref mb, .ref mk, .ref ml, .ref ms, .ref mw])), (md, .inl (cI, 384, .inl (upd (upd f (4 : Int32).toNatClampNeg a) (5 : Int32).toNatClampNeg b)))] := hD
  refine lv_aload_n hx hb dM_write_22 rfl (lv_at hl 0 rfl) ?_
  refine lv_iload_n hx hb dM_write_23 rfl (lv_at hl 1 rfl) ?_
  refine lv_iconst (v := 2) hx hb dM_write_24 (by decide) ?_
  refine lv_iload hx hb dM_write_25 (lv_at hl 4 rfl) ?_
  have hPc := hP.sub (ws' := [(m0, .inr (4, [.int 0, .ref md, .int 0, .int (-1), .int 0, .ref mh, .ref mn, .ref mc, .int 0, .int 1, .int 0, .int 0, .ref mo, .ref mb, .ref mk, .ref ml, .ref ms, .ref mw])), (md, .inl (cI, 384, .inl (upd (upd f (4 : Int32).toNatClampNeg a) (5 : Int32).toNatClampNeg b)))]) [0, 1] rfl
  have hDc := hD.sub (ws' := [(m0, .inr (4, [.int 0, .ref md, .int 0, .int (-1), .int 0, .ref mh, .ref mn, .ref mc, .int 0, .int 1, .int 0, .int 0, .ref mo, .ref mb, .ref mk, .ref ml, .ref ms, .ref mw])), (md, .inl (cI, 384, .inl (upd (upd f (4 : Int32).toNatClampNeg a) (5 : Int32).toNatClampNeg b)))]) [0, 1] (by decide) rfl
  have hFc := va_free (wc := [(m0, .inr (4, [.int 0, .ref md, .int 0, .int (-1), .int 0, .ref mh, .ref mn, .ref mc, .int 0, .int 1, .int 0, .int 0, .ref mo, .ref mb, .ref mk, .ref ml, .ref ms, .ref mw])), (md, .inl (cI, 384, .inl (upd (upd f (4 : Int32).toNatClampNeg a) (5 : Int32).toNatClampNeg b)))]) hD hS hA [0, 1] rfl
  refine va_callv (va_runV (C := "LoggedStoreModel") (b := m0) (As := [.int 1, .int 2, .int c9]) (rest := []) ⟨hx, hb, hml, hown, hw⟩ (c_putWord2 l dC dI cI cZ cJ cT m0 md mh mn mc mo mb mk ml ms mw c9 (upd (upd f (4 : Int32).toNatClampNeg a) (5 : Int32).toNatClampNeg b) H.size) ⟨callB_of 3 hw (gA0 w741) rfl rfl rfl (hw _ w45) (hw _ w738) (by decide +kernel) ⟨Nat.le_of_ble_eq_true rfl, Nat.le_of_ble_eq_true rfl⟩, (hw _ w740), (hw _ w30)⟩ ⟨kb_Q, va_recv (ci := 4) (q0 := 0) hK hP rfl rfl, fun U hU hW => ⟨rfl, by rw [hU], by rw [hU]; exact hPc, hKK.moved hW, hDc.weaken (fun _ _ _ _ => trivial)⟩⟩ rfl rfl hl.1 rfl (lv_room (Nat.le_of_ble_eq_true rfl)) dM_write_27 ⟨Nat.le_of_ble_eq_true rfl, Nat.le_of_ble_eq_true rfl⟩) hS (fun q _ h => hFc q h) hFc (fun u6 t H1 locs ht hvm he9 hB hz1 hk1 hS => ?_)
  obtain ⟨hP1, hD1⟩ := hB
  rw [ht] at hP1
  obtain ⟨hP, hD⟩ := va_join (wr := []) (w1 := [(m0, .inr (4, [.int 0, .ref md, .int 0, .int (-1), .int 0, .ref mh, .ref mn, .ref mc, .int 0, .int 1, .int 0, .int 0, .ref mo, .ref mb, .ref mk, .ref ml, .ref ms, .ref mw])), (md, .inl (cI, 384, .inl (upd (upd (upd f (4 : Int32).toNatClampNeg a) (5 : Int32).toNatClampNeg b) (6 : Int32).toNatClampNeg c9)))]) hP hD [0, 1] [] rfl rfl (by decide) (by decide) hk1 hFc hP1 hD1
  generalize H1 = H at hP hS ⊢
  have hP : va_P (dC, dI) vwC [(m0, .inr (4, [.int 0, .ref md, .int 0, .int (-1), .int 0, .ref mh, .ref mn, .ref mc, .int 0, .int 1, .int 0, .int 0, .ref mo, .ref mb, .ref mk, .ref ml, .ref ms, .ref mw])), (md, .inl (cI, 384, .inl (upd (upd (upd f (4 : Int32).toNatClampNeg a) (5 : Int32).toNatClampNeg b) (6 : Int32).toNatClampNeg c9)))] H := hP
  have hD : va_D A [(m0, .inr (4, [.int 0, .ref md, .int 0, .int (-1), .int 0, .ref mh, .ref mn, .ref mc, .int 0, .int 1, .int 0, .int 0, .ref mo, .ref mb, .ref mk, .ref ml, .ref ms, .ref mw])), (md, .inl (cI, 384, .inl (upd (upd (upd f (4 : Int32).toNatClampNeg a) (5 : Int32).toNatClampNeg b) (6 : Int32).toNatClampNeg c9)))] := hD
  refine lv_aload_n hx hb dM_write_30 rfl (lv_at hl 0 rfl) ?_
  refine lv_iload_n hx hb dM_write_31 rfl (lv_at hl 1 rfl) ?_
  refine lv_iconst (v := 3) hx hb dM_write_32 (by decide) ?_
  refine lv_iload hx hb dM_write_33 (lv_at hl 5 rfl) ?_
  have hPc := hP.sub (ws' := [(m0, .inr (4, [.int 0, .ref md, .int 0, .int (-1), .int 0, .ref mh, .ref mn, .ref mc, .int 0, .int 1, .int 0, .int 0, .ref mo, .ref mb, .ref mk, .ref ml, .ref ms, .ref mw])), (md, .inl (cI, 384, .inl (upd (upd (upd f (4 : Int32).toNatClampNeg a) (5 : Int32).toNatClampNeg b) (6 : Int32).toNatClampNeg c9)))]) [0, 1] rfl
  have hDc := hD.sub (ws' := [(m0, .inr (4, [.int 0, .ref md, .int 0, .int (-1), .int 0, .ref mh, .ref mn, .ref mc, .int 0, .int 1, .int 0, .int 0, .ref mo, .ref mb, .ref mk, .ref ml, .ref ms, .ref mw])), (md, .inl (cI, 384, .inl (upd (upd (upd f (4 : Int32).toNatClampNeg a) (5 : Int32).toNatClampNeg b) (6 : Int32).toNatClampNeg c9)))]) [0, 1] (by decide) rfl
  have hFc := va_free (wc := [(m0, .inr (4, [.int 0, .ref md, .int 0, .int (-1), .int 0, .ref mh, .ref mn, .ref mc, .int 0, .int 1, .int 0, .int 0, .ref mo, .ref mb, .ref mk, .ref ml, .ref ms, .ref mw])), (md, .inl (cI, 384, .inl (upd (upd (upd f (4 : Int32).toNatClampNeg a) (5 : Int32).toNatClampNeg b) (6 : Int32).toNatClampNeg c9)))]) hD hS hA [0, 1] rfl
  refine va_callv (va_runV (C := "LoggedStoreModel") (b := m0) (As := [.int 1, .int 3, .int e9]) (rest := []) ⟨hx, hb, hml, hown, hw⟩ (c_putWord3 l dC dI cI cZ cJ cT m0 md mh mn mc mo mb mk ml ms mw e9 (upd (upd (upd f (4 : Int32).toNatClampNeg a) (5 : Int32).toNatClampNeg b) (6 : Int32).toNatClampNeg c9) H.size) ⟨callB_of 3 hw (gA0 w741) rfl rfl rfl (hw _ w45) (hw _ w738) (by decide +kernel) ⟨Nat.le_of_ble_eq_true rfl, Nat.le_of_ble_eq_true rfl⟩, (hw _ w740), (hw _ w30)⟩ ⟨kb_Q, va_recv (ci := 4) (q0 := 0) hK hP rfl rfl, fun U hU hW => ⟨rfl, by rw [hU], by rw [hU]; exact hPc, hKK.moved hW, hDc.weaken (fun _ _ _ _ => trivial)⟩⟩ rfl rfl hl.1 rfl (lv_room (Nat.le_of_ble_eq_true rfl)) dM_write_35 ⟨Nat.le_of_ble_eq_true rfl, Nat.le_of_ble_eq_true rfl⟩) hS (fun q _ h => hFc q h) hFc (fun u8 t H1 locs ht hvm he9 hB hz1 hk1 hS => ?_)
  obtain ⟨hP1, hD1⟩ := hB
  rw [ht] at hP1
  obtain ⟨hP, hD⟩ := va_join (wr := []) (w1 := [(m0, .inr (4, [.int 0, .ref md, .int 0, .int (-1), .int 0, .ref mh, .ref mn, .ref mc, .int 0, .int 1, .int 0, .int 0, .ref mo, .ref mb, .ref mk, .ref ml, .ref ms, .ref mw])), (md, .inl (cI, 384, .inl (upd (upd (upd (upd f (4 : Int32).toNatClampNeg a) (5 : Int32).toNatClampNeg b) (6 : Int32).toNatClampNeg c9) (7 : Int32).toNatClampNeg e9)))]) hP hD [0, 1] [] rfl rfl (by decide) (by decide) hk1 hFc hP1 hD1
  generalize H1 = H at hP hS ⊢
  have hP : va_P (dC, dI) vwC [(m0, .inr (4, [.int 0, .ref md, .int 0, .int (-1), .int 0, .ref mh, .ref mn, .ref mc, .int 0, .int 1, .int 0, .int 0, .ref mo, .ref mb, .ref mk, .ref ml, .ref ms, .ref mw])), (md, .inl (cI, 384, .inl (upd (upd (upd (upd f (4 : Int32).toNatClampNeg a) (5 : Int32).toNatClampNeg b) (6 : Int32).toNatClampNeg c9) (7 : Int32).toNatClampNeg e9)))] H := hP
  have hD : va_D A [(m0, .inr (4, [.int 0, .ref md, .int 0, .int (-1), .int 0, .ref mh, .ref mn, .ref mc, .int 0, .int 1, .int 0, .int 0, .ref mo, .ref mb, .ref mk, .ref ml, .ref ms, .ref mw])), (md, .inl (cI, 384, .inl (upd (upd (upd (upd f (4 : Int32).toNatClampNeg a) (5 : Int32).toNatClampNeg b) (6 : Int32).toNatClampNeg c9) (7 : Int32).toNatClampNeg e9)))] := hD
  refine lv_aload_n hx hb dM_write_38 rfl (lv_at hl 0 rfl) ?_
  refine lv_aload_n hx hb dM_write_39 rfl (lv_at hl 0 rfl) ?_
  refine va_get (D := (dC, dI)) (ci := 4) (v := .int (-1)) (C := "LoggedStoreModel") (T := uM) (N := 18) hx hb hw inM hown hK hP 0 rfl rfl 3 (by decide) (hw _ w615) (fun _ h9 => h9) rfl dM_write_40 ?_
  refine lv_if_ne (tgt := 50) hx hb dM_write_43 (by decide) (fun _ => ?_) (fun h9 => absurd h9 (by decide))
  refine lv_iconst (v := 0) hx hb dM_write_50 (by decide) ?_
  refine va_put (D := (dC, dI)) (ci := 4) (v := .int 0) (ty := .boolean) (C := "LoggedStoreModel") (T := uM) (N := 18) hx hb hw inM tyM tyM_ok nmM hown hK hP hD hS 0 rfl rfl 2 (by decide) (hw _ w614) (fun _ h9 => h9) rfl (by decide +kernel) rfl rfl (Nat.le_of_ble_eq_true rfl) dM_write_51 (fun H locs hP hD hS => ?_)
  have hP : va_P (dC, dI) vwC [(m0, .inr (4, [.int 0, .ref md, .int 0, .int (-1), .int 0, .ref mh, .ref mn, .ref mc, .int 0, .int 1, .int 0, .int 0, .ref mo, .ref mb, .ref mk, .ref ml, .ref ms, .ref mw])), (md, .inl (cI, 384, .inl (upd (upd (upd (upd f (4 : Int32).toNatClampNeg a) (5 : Int32).toNatClampNeg b) (6 : Int32).toNatClampNeg c9) (7 : Int32).toNatClampNeg e9)))] H := hP
  have hD : va_D A [(m0, .inr (4, [.int 0, .ref md, .int 0, .int (-1), .int 0, .ref mh, .ref mn, .ref mc, .int 0, .int 1, .int 0, .int 0, .ref mo, .ref mb, .ref mk, .ref ml, .ref ms, .ref mw])), (md, .inl (cI, 384, .inl (upd (upd (upd (upd f (4 : Int32).toNatClampNeg a) (5 : Int32).toNatClampNeg b) (6 : Int32).toNatClampNeg c9) (7 : Int32).toNatClampNeg e9)))] := hD
  refine lv_aload_n hx hb dM_write_54 rfl (lv_at hl 0 rfl) ?_
  refine lv_aload_n hx hb dM_write_55 rfl (lv_at hl 0 rfl) ?_
  refine va_get (D := (dC, dI)) (ci := 4) (v := .int (-1)) (C := "LoggedStoreModel") (T := uM) (N := 18) hx hb hw inM hown hK hP 0 rfl rfl 3 (by decide) (hw _ w615) (fun _ h9 => h9) rfl dM_write_56 ?_
  refine lv_if_le (tgt := 71) hx hb dM_write_59 (by decide) (fun _ => ?_) (fun h9 => absurd (by decide) h9)
  refine lv_aload_n hx hb dM_write_71 rfl (lv_at hl 0 rfl) ?_
  refine va_get (D := (dC, dI)) (ci := 4) (v := .int (-1)) (C := "LoggedStoreModel") (T := uM) (N := 18) hx hb hw inM hown hK hP 0 rfl rfl 3 (by decide) (hw _ w615) (fun _ h9 => h9) rfl dM_write_72 ?_
  refine va_put (D := (dC, dI)) (ci := 4) (v := .int (-1)) (ty := .int) (C := "LoggedStoreModel") (T := uM) (N := 18) hx hb hw inM tyM tyM_ok nmM hown hK hP hD hS 0 rfl rfl 3 (by decide) (hw _ w615) (fun _ h9 => h9) rfl (by decide +kernel) rfl rfl (Nat.le_of_ble_eq_true rfl) dM_write_75 (fun H locs hP hD hS => ?_)
  have hP : va_P (dC, dI) vwC [(m0, .inr (4, [.int 0, .ref md, .int 0, .int (-1), .int 0, .ref mh, .ref mn, .ref mc, .int 0, .int 1, .int 0, .int 0, .ref mo, .ref mb, .ref mk, .ref ml, .ref ms, .ref mw])), (md, .inl (cI, 384, .inl (upd (upd (upd (upd f (4 : Int32).toNatClampNeg a) (5 : Int32).toNatClampNeg b) (6 : Int32).toNatClampNeg c9) (7 : Int32).toNatClampNeg e9)))] H := hP
  have hD : va_D A [(m0, .inr (4, [.int 0, .ref md, .int 0, .int (-1), .int 0, .ref mh, .ref mn, .ref mc, .int 0, .int 1, .int 0, .int 0, .ref mo, .ref mb, .ref mk, .ref ml, .ref ms, .ref mw])), (md, .inl (cI, 384, .inl (upd (upd (upd (upd f (4 : Int32).toNatClampNeg a) (5 : Int32).toNatClampNeg b) (6 : Int32).toNatClampNeg c9) (7 : Int32).toNatClampNeg e9)))] := hD
  have hP9 := hP.sub (ws' := [(m0, .inr (4, [.int 0, .ref md, .int 0, .int (-1), .int 0, .ref mh, .ref mn, .ref mc, .int 0, .int 1, .int 0, .int 0, .ref mo, .ref mb, .ref mk, .ref ml, .ref ms, .ref mw]))]) [0] rfl
  have hD9 := hD.sub (ws' := [(m0, .inr (4, [.int 0, .ref md, .int 0, .int (-1), .int 0, .ref mh, .ref mn, .ref mc, .int 0, .int 1, .int 0, .int 0, .ref mo, .ref mb, .ref mk, .ref ml, .ref ms, .ref mw]))]) [0] (by decide) rfl
  refine W.widen (k := 0) (n := 0) (by decide) (by decide) ?_
  exact W.vret hx hb hr (fun t ht hW => ⟨⟨fun _ => 0, rfl, trivial, by rw [ht]; exact hP9, hD9⟩, hS.F ht⟩) hS.2.2 dM_write_78

set_option maxHeartbeats 4000000 in
set_option maxRecDepth 100000 in
theorem c_M_writeChecked (l : Launch) (dC : Nat → ClassId) (dI : Nat → Nat → Nat) (cI cZ cJ cT : ClassId) (m0 md mh mn mc mo mb mk ml ms mw : Nat) (f : Nat → Int32) (sz : Nat) : Met l yM_writeChecked (Cond.code yM_writeChecked cM_writeChecked 5 none :: wsA) ({ frames := 2, cells := 0, slots := 0, locals := 48 }) (va_Pc [.ref m0, .int 1, .int 2, .int 64, .int 0] (fun U => U.heap.size = sz ∧ va_P (dC, dI) vwC [(m0, .inr (4, [.int 0, .ref md, .int 0, .int (-1), .int 0, .ref mh, .ref mn, .ref mc, .int 0, .int 1, .int 0, .int 0, .ref mo, .ref mb, .ref mk, .ref ml, .ref ms, .ref mw])), (md, .inl (cI, 384, .inl f))] U.heap ∧ KK dC dI cI cZ cJ cT U ∧ va_D (fun _ => True) [(m0, .inr (4, [.int 0, .ref md, .int 0, .int (-1), .int 0, .ref mh, .ref mn, .ref mc, .int 0, .int 1, .int 0, .int 0, .ref mo, .ref mb, .ref mk, .ref ml, .ref ms, .ref mw])), (md, .inl (cI, 384, .inl f))])) (va_Qv (S := Nat → Nat) (fun _ => True) (fun u t => va_P (dC, dI) vwC [(m0, .inr (4, [.int 0, .ref md, .int 0, .int (-1), .int 0, .ref mh, .ref mn, .ref mc, .int 0, .int 1, .int 0, .int 0, .ref mo, .ref mb, .ref mk, .ref ml, .ref ms, .ref mw]))] t.heap ∧ va_D (va_A [(m0, .inr (4, [.int 0, .ref md, .int 0, .int (-1), .int 0, .ref mh, .ref mn, .ref mc, .int 0, .int 1, .int 0, .int 0, .ref mo, .ref mb, .ref mk, .ref ml, .ref ms, .ref mw])), (md, .inl (cI, 384, .inl f))] sz) [(m0, .inr (4, [.int 0, .ref md, .int 0, .int (-1), .int 0, .ref mh, .ref mn, .ref mc, .int 0, .int 1, .int 0, .int 0, .ref mo, .ref mb, .ref mk, .ref ml, .ref ms, .ref mw]))]) (va_A [(m0, .inr (4, [.int 0, .ref md, .int 0, .int (-1), .int 0, .ref mh, .ref mn, .ref mc, .int 0, .int 1, .int 0, .int 0, .ref mo, .ref mb, .ref mk, .ref ml, .ref ms, .ref mw])), (md, .inl (cI, 384, .inl f))] sz)) 0 0 (va_A [(m0, .inr (4, [.int 0, .ref md, .int 0, .int (-1), .int 0, .ref mh, .ref mn, .ref mc, .int 0, .int 1, .int 0, .int 0, .ref mo, .ref mb, .ref mk, .ref ml, .ref ms, .ref mw])), (md, .inl (cI, 384, .inl f))] sz) := by
  refine Met.ofW (cc := cM_writeChecked) (maxL := 5) (ret := none) (by decide) rfl ?_
  intro p e s m args below meth c s₁ B hml hv
  obtain ⟨rfl, hsz, hP, hKK, hD0⟩ := hv
  have hK := hKK.1
  have hx := B.exec
  have hb := B.bytes
  have hr := B.returns
  have hw : ∀ w ∈ wsA, w.before _ s = true := fun w h => atoms_spec (ws := (Cond.code yM_writeChecked cM_writeChecked 5 none :: wsA)) B.pre w (List.mem_cons_of_mem _ h)
  have hown : s.vm.findClass "LoggedStoreModel" = some m.cls := findClass_of_methodNamed B.named
  have hlocks := B.notSynchronized
  subst hsz
  have hD := hD0.self (sz := s.heap.size)
  generalize hAe : va_A [(m0, .inr (4, [.int 0, .ref md, .int 0, .int (-1), .int 0, .ref mh, .ref mn, .ref mc, .int 0, .int 1, .int 0, .int 0, .ref mo, .ref mb, .ref mk, .ref ml, .ref ms, .ref mw])), (md, .inl (cI, 384, .inl f))] s.heap.size = A at hD ⊢
  have hA : ∀ q : Nat, s.heap.size ≤ q → A q := fun q h => by rw [← hAe]; exact Or.inr h
  have hS : va_S A s.heap s.heap [] := va_S.rf
  have hl := lv_entry ([.ref m0, .int 1, .int 2, .int 64, .int 0]) (n := 5) (Nat.le_of_ble_eq_true rfl)
  rw [lg_entry_eq]
  generalize (lg_sl ([.ref m0, .int 1, .int 2, .int 64, .int 0]) ++ List.replicate (5 - (lg_sl ([.ref m0, .int 1, .int 2, .int 64, .int 0])).length) Slot.unset).toArray = ls at hl ⊢
  have hl : lv_has ls 5 [(0, .ref m0), (1, .int 1), (2, .int 2), (3, .int 64), (4, .int 0)] := hl
  refine lv_aload_n hx hb dM_writeChecked_0 rfl (lv_at hl 0 rfl) ?_
  refine lv_iload_n hx hb dM_writeChecked_1 rfl (lv_at hl 1 rfl) ?_
  refine lv_iload_n hx hb dM_writeChecked_2 rfl (lv_at hl 2 rfl) ?_
  refine lv_iload_n hx hb dM_writeChecked_3 rfl (lv_at hl 3 rfl) ?_
  refine lv_iload hx hb dM_writeChecked_4 (lv_at hl 4 rfl) ?_
  refine lv_iload_n hx hb dM_writeChecked_6 rfl (lv_at hl 2 rfl) ?_
  refine lv_iload_n hx hb dM_writeChecked_7 rfl (lv_at hl 3 rfl) ?_
  refine lv_iload hx hb dM_writeChecked_8 (lv_at hl 4 rfl) ?_
  refine lv_iload_n hx hb dM_writeChecked_10 rfl (lv_at hl 1 rfl) ?_
  have hPc := hP.sub (ws' := []) [] rfl
  refine vp_callSi (W.runS (As := [.int 2, .int 64, .int 0, .int 1]) (rest := [.int 0, .int 64, .int 2, .int 1, .ref m0]) ⟨hx, hb, hml, hown, hw⟩ (c_M_chk l dC dI cI cZ cJ cT 2 64 0 1) ⟨callB_of 4 hw (gA0 w608) rfl rfl rfl (hw _ w45) (hw _ w606) (by decide +kernel) ⟨Nat.le_of_ble_eq_true rfl, Nat.le_of_ble_eq_true rfl⟩, (hw _ w607)⟩ ⟨kb_S, fun U hU hW => ⟨rfl, by rw [hU]; exact hPc, hKK.moved hW⟩⟩ rfl rfl hl.1 rfl (lv_room (Nat.le_of_ble_eq_true rfl)) dM_writeChecked_11 ⟨Nat.le_of_ble_eq_true rfl, Nat.le_of_ble_eq_true rfl⟩) (fun r1 e2 => ?_)
  obtain rfl : r1 = 1013773184 := e2.trans (by decide +kernel)
  have hPc := hP.sub (ws' := [(m0, .inr (4, [.int 0, .ref md, .int 0, .int (-1), .int 0, .ref mh, .ref mn, .ref mc, .int 0, .int 1, .int 0, .int 0, .ref mo, .ref mb, .ref mk, .ref ml, .ref ms, .ref mw])), (md, .inl (cI, 384, .inl f))]) [0, 1] rfl
  have hDc := hD.sub (ws' := [(m0, .inr (4, [.int 0, .ref md, .int 0, .int (-1), .int 0, .ref mh, .ref mn, .ref mc, .int 0, .int 1, .int 0, .int 0, .ref mo, .ref mb, .ref mk, .ref ml, .ref ms, .ref mw])), (md, .inl (cI, 384, .inl f))]) [0, 1] (by decide) rfl
  have hFc := va_free (wc := [(m0, .inr (4, [.int 0, .ref md, .int 0, .int (-1), .int 0, .ref mh, .ref mn, .ref mc, .int 0, .int 1, .int 0, .int 0, .ref mo, .ref mb, .ref mk, .ref ml, .ref ms, .ref mw])), (md, .inl (cI, 384, .inl f))]) hD hS hA [0, 1] rfl
  refine va_callv (va_runV (C := "LoggedStoreModel") (b := m0) (As := [.int 1, .int 2, .int 64, .int 0, .int 1013773184]) (rest := []) ⟨hx, hb, hml, hown, hw⟩ (c_M_write l dC dI cI cZ cJ cT m0 md mh mn mc mo mb mk ml ms mw 2 64 0 1013773184 f s.heap.size) ⟨callB_of 5 hw (gA0 w737) rfl rfl rfl (hw _ w45) (hw _ w734) (by decide +kernel) ⟨Nat.le_of_ble_eq_true rfl, Nat.le_of_ble_eq_true rfl⟩, (hw _ w736), (hw _ w29)⟩ ⟨kb_Q, va_recv (ci := 4) (q0 := 0) hK hP rfl rfl, fun U hU hW => ⟨rfl, by rw [hU], by rw [hU]; exact hPc, hKK.moved hW, hDc.weaken (fun _ _ _ _ => trivial)⟩⟩ rfl rfl hl.1 rfl (lv_room (Nat.le_of_ble_eq_true rfl)) dM_writeChecked_14 ⟨Nat.le_of_ble_eq_true rfl, Nat.le_of_ble_eq_true rfl⟩) hS (fun q _ h => hFc q h) hFc (fun u4 t H1 locs ht hvm he9 hB hz1 hk1 hS => ?_)
  obtain ⟨hP1, hD1⟩ := hB
  rw [ht] at hP1
  obtain ⟨hP, hD⟩ := va_join (wr := []) (w1 := [(m0, .inr (4, [.int 0, .ref md, .int 0, .int (-1), .int 0, .ref mh, .ref mn, .ref mc, .int 0, .int 1, .int 0, .int 0, .ref mo, .ref mb, .ref mk, .ref ml, .ref ms, .ref mw]))]) hP hD [0, 1] [] rfl rfl (by decide) (by decide) hk1 hFc hP1 hD1
  generalize H1 = H at hP hS ⊢
  have hP : va_P (dC, dI) vwC [(m0, .inr (4, [.int 0, .ref md, .int 0, .int (-1), .int 0, .ref mh, .ref mn, .ref mc, .int 0, .int 1, .int 0, .int 0, .ref mo, .ref mb, .ref mk, .ref ml, .ref ms, .ref mw]))] H := hP
  have hD : va_D A [(m0, .inr (4, [.int 0, .ref md, .int 0, .int (-1), .int 0, .ref mh, .ref mn, .ref mc, .int 0, .int 1, .int 0, .int 0, .ref mo, .ref mb, .ref mk, .ref ml, .ref ms, .ref mw]))] := hD
  have hP9 := hP.sub (ws' := [(m0, .inr (4, [.int 0, .ref md, .int 0, .int (-1), .int 0, .ref mh, .ref mn, .ref mc, .int 0, .int 1, .int 0, .int 0, .ref mo, .ref mb, .ref mk, .ref ml, .ref ms, .ref mw]))]) [0] rfl
  have hD9 := hD.sub (ws' := [(m0, .inr (4, [.int 0, .ref md, .int 0, .int (-1), .int 0, .ref mh, .ref mn, .ref mc, .int 0, .int 1, .int 0, .int 0, .ref mo, .ref mb, .ref mk, .ref ml, .ref ms, .ref mw]))]) [0] (by decide) rfl
  refine W.widen (k := 0) (n := 0) (by decide) (by decide) ?_
  exact W.vret hx hb hr (fun t ht hW => ⟨⟨fun _ => 0, rfl, trivial, by rw [ht]; exact hP9, hD9⟩, hS.F ht⟩) hS.2.2 dM_writeChecked_17

set_option maxHeartbeats 4000000 in
set_option maxRecDepth 100000 in
theorem c_M_checkpoint (l : Launch) (dC : Nat → ClassId) (dI : Nat → Nat → Nat) (cI cZ cJ cT : ClassId) (m0 md mh mn mc mo mb mk ml ms mw : Nat) (sz : Nat) : Met l yM_checkpoint (Cond.code yM_checkpoint cM_checkpoint 6 (some .int) :: wsA) ({ frames := 3, cells := 0, slots := 0, locals := 72 }) (va_Pc [.ref m0] (fun U => U.heap.size = sz ∧ va_P (dC, dI) vwC [(m0, .inr (4, [.int 0, .ref md, .int 0, .int (-1), .int 0, .ref mh, .ref mn, .ref mc, .int 0, .int 1, .int 0, .int 0, .ref mo, .ref mb, .ref mk, .ref ml, .ref ms, .ref mw])), (mh, .inl (cZ, 64, .inl (fun _ => 0))), (md, .inl (cI, 384, .inl MW0))] U.heap ∧ KK dC dI cI cZ cJ cT U ∧ va_D (fun _ => True) [(m0, .inr (4, [.int 0, .ref md, .int 0, .int (-1), .int 0, .ref mh, .ref mn, .ref mc, .int 0, .int 1, .int 0, .int 0, .ref mo, .ref mb, .ref mk, .ref ml, .ref ms, .ref mw])), (mh, .inl (cZ, 64, .inl (fun _ => 0))), (md, .inl (cI, 384, .inl MW0))])) (va_Qi (S := Nat → Nat) (fun r _ => r = 2) (fun u t => va_P (dC, dI) vwC [(m0, .inr (4, [.int 0, .ref md, .int 0, .int (-1), .int 0, .ref mh, .ref mn, .ref mc, .int 0, .int 2, .int 1, .int 0, .ref mo, .ref mb, .ref mk, .ref ml, .ref ms, .ref mw]))] t.heap ∧ va_D (va_A [(m0, .inr (4, [.int 0, .ref md, .int 0, .int (-1), .int 0, .ref mh, .ref mn, .ref mc, .int 0, .int 1, .int 0, .int 0, .ref mo, .ref mb, .ref mk, .ref ml, .ref ms, .ref mw])), (mh, .inl (cZ, 64, .inl (fun _ => 0))), (md, .inl (cI, 384, .inl MW0))] sz) [(m0, .inr (4, [.int 0, .ref md, .int 0, .int (-1), .int 0, .ref mh, .ref mn, .ref mc, .int 0, .int 2, .int 1, .int 0, .ref mo, .ref mb, .ref mk, .ref ml, .ref ms, .ref mw]))]) (va_A [(m0, .inr (4, [.int 0, .ref md, .int 0, .int (-1), .int 0, .ref mh, .ref mn, .ref mc, .int 0, .int 1, .int 0, .int 0, .ref mo, .ref mb, .ref mk, .ref ml, .ref ms, .ref mw])), (mh, .inl (cZ, 64, .inl (fun _ => 0))), (md, .inl (cI, 384, .inl MW0))] sz)) 0 0 (va_A [(m0, .inr (4, [.int 0, .ref md, .int 0, .int (-1), .int 0, .ref mh, .ref mn, .ref mc, .int 0, .int 1, .int 0, .int 0, .ref mo, .ref mb, .ref mk, .ref ml, .ref ms, .ref mw])), (mh, .inl (cZ, 64, .inl (fun _ => 0))), (md, .inl (cI, 384, .inl MW0))] sz) := by
  refine Met.ofW (cc := cM_checkpoint) (maxL := 6) (ret := (some .int)) (by decide) rfl ?_
  intro p e s m args below meth c s₁ B hml hv
  obtain ⟨rfl, hsz, hP, hKK, hD0⟩ := hv
  have hK := hKK.1
  have hx := B.exec
  have hb := B.bytes
  have hr := B.returns
  have hw : ∀ w ∈ wsA, w.before _ s = true := fun w h => atoms_spec (ws := (Cond.code yM_checkpoint cM_checkpoint 6 (some .int) :: wsA)) B.pre w (List.mem_cons_of_mem _ h)
  have hown : s.vm.findClass "LoggedStoreModel" = some m.cls := findClass_of_methodNamed B.named
  have hlocks := B.notSynchronized
  subst hsz
  have hD := hD0.self (sz := s.heap.size)
  generalize hAe : va_A [(m0, .inr (4, [.int 0, .ref md, .int 0, .int (-1), .int 0, .ref mh, .ref mn, .ref mc, .int 0, .int 1, .int 0, .int 0, .ref mo, .ref mb, .ref mk, .ref ml, .ref ms, .ref mw])), (mh, .inl (cZ, 64, .inl (fun _ => 0))), (md, .inl (cI, 384, .inl MW0))] s.heap.size = A at hD ⊢
  have hA : ∀ q : Nat, s.heap.size ≤ q → A q := fun q h => by rw [← hAe]; exact Or.inr h
  have hS : va_S A s.heap s.heap [] := va_S.rf
  have hl := lv_entry ([.ref m0]) (n := 6) (Nat.le_of_ble_eq_true rfl)
  rw [lg_entry_eq]
  generalize (lg_sl ([.ref m0]) ++ List.replicate (6 - (lg_sl ([.ref m0])).length) Slot.unset).toArray = ls at hl ⊢
  have hl : lv_has ls 6 [(0, .ref m0)] := hl
  refine lv_aload_n hx hb dM_checkpoint_0 rfl (lv_at hl 0 rfl) ?_
  refine lv_aload_n hx hb dM_checkpoint_1 rfl (lv_at hl 0 rfl) ?_
  refine va_get (D := (dC, dI)) (ci := 4) (v := .int 0) (C := "LoggedStoreModel") (T := uM) (N := 18) hx hb hw inM hown hK hP 0 rfl rfl 2 (by decide) (hw _ w614) (fun _ h9 => h9) rfl dM_checkpoint_2 ?_
  refine lv_if_eq (tgt := 12) hx hb dM_checkpoint_5 (by decide) (fun _ => ?_) (fun h9 => absurd (by decide) h9)
  refine lv_iconst (v := 0) hx hb dM_checkpoint_12 (by decide) ?_
  refine va_put (D := (dC, dI)) (ci := 4) (v := .int 0) (ty := .int) (C := "LoggedStoreModel") (T := uM) (N := 18) hx hb hw inM tyM tyM_ok nmM hown hK hP hD hS 0 rfl rfl 0 (by decide) (hw _ w612) (fun _ h9 => h9) rfl (by decide +kernel) rfl rfl (Nat.le_of_ble_eq_true rfl) dM_checkpoint_13 (fun H locs hP hD hS => ?_)
  have hP : va_P (dC, dI) vwC [(m0, .inr (4, [.int 0, .ref md, .int 0, .int (-1), .int 0, .ref mh, .ref mn, .ref mc, .int 0, .int 1, .int 0, .int 0, .ref mo, .ref mb, .ref mk, .ref ml, .ref ms, .ref mw])), (mh, .inl (cZ, 64, .inl (fun _ => 0))), (md, .inl (cI, 384, .inl MW0))] H := hP
  have hD : va_D A [(m0, .inr (4, [.int 0, .ref md, .int 0, .int (-1), .int 0, .ref mh, .ref mn, .ref mc, .int 0, .int 1, .int 0, .int 0, .ref mo, .ref mb, .ref mk, .ref ml, .ref ms, .ref mw])), (mh, .inl (cZ, 64, .inl (fun _ => 0))), (md, .inl (cI, 384, .inl MW0))] := hD
  refine lv_aload_n hx hb dM_checkpoint_16 rfl (lv_at hl 0 rfl) ?_
  refine va_get (D := (dC, dI)) (ci := 4) (v := .int 0) (C := "LoggedStoreModel") (T := uM) (N := 18) hx hb hw inM hown hK hP 0 rfl rfl 0 (by decide) (hw _ w612) (fun _ h9 => h9) rfl dM_checkpoint_17 ?_
  refine lv_if_le (tgt := 25) hx hb dM_checkpoint_20 (by decide) (fun _ => ?_) (fun h9 => absurd (by decide) h9)
  refine lv_aload_n hx hb dM_checkpoint_25 rfl (lv_at hl 0 rfl) ?_
  have hPc := hP.sub (ws' := [(m0, .inr (4, [.int 0, .ref md, .int 0, .int (-1), .int 0, .ref mh, .ref mn, .ref mc, .int 0, .int 1, .int 0, .int 0, .ref mo, .ref mb, .ref mk, .ref ml, .ref ms, .ref mw])), (mh, .inl (cZ, 64, .inl (fun _ => 0)))]) [0, 1] rfl
  refine vp_callSi (W.runV (C := "LoggedStoreModel") (b := m0) (As := []) (rest := []) ⟨hx, hb, hml, hown, hw⟩ (c_countNow l dC dI cI cZ cJ cT m0 md mh mn mc mo mb mk ml ms mw) ⟨callB_of 0 hw (gA0 w753) rfl rfl rfl (hw _ w45) (hw _ w750) (by decide +kernel) ⟨Nat.le_of_ble_eq_true rfl, Nat.le_of_ble_eq_true rfl⟩, (hw _ w752), (hw _ w32)⟩ ⟨kb_S, va_recv (ci := 4) (q0 := 0) hK hP rfl rfl, fun U hU hW => ⟨rfl, by rw [hU]; exact hPc, hKK.moved hW⟩⟩ rfl rfl hl.1 rfl (lv_room (Nat.le_of_ble_eq_true rfl)) dM_checkpoint_26 ⟨Nat.le_of_ble_eq_true rfl, Nat.le_of_ble_eq_true rfl⟩) (fun r1 e2 => ?_)
  obtain rfl : r1 = 0 := e2
  refine lv_istore_n hx hb dM_checkpoint_29 rfl hl (by decide) rfl (fun ls hl => ?_)
  have hl : lv_has ls 6 [(1, .int 0), (0, .ref m0)] := hl
  refine lv_iconst (v := 1) hx hb dM_checkpoint_30 (by decide) ?_
  refine lv_aload_n hx hb dM_checkpoint_31 rfl (lv_at hl 1 rfl) ?_
  refine va_get (D := (dC, dI)) (ci := 4) (v := .int 0) (C := "LoggedStoreModel") (T := uM) (N := 18) hx hb hw inM hown hK hP 0 rfl rfl 10 (by decide) (hw _ w622) (fun _ h9 => h9) rfl dM_checkpoint_32 ?_
  refine lv_isub hx hb dM_checkpoint_35 ?_
  refine lv_topi (nm_r (e' := 1) (by decide +kernel) ?_)
  refine lv_istore_n hx hb dM_checkpoint_36 rfl hl (by decide) rfl (fun ls hl => ?_)
  have hl : lv_has ls 6 [(2, .int 1), (1, .int 0), (0, .ref m0)] := hl
  refine lv_iconst (v := 0) hx hb dM_checkpoint_37 (by decide) ?_
  refine lv_istore_n hx hb dM_checkpoint_38 rfl hl (by decide) rfl (fun ls hl => ?_)
  have hl : lv_has ls 6 [(3, .int 0), (2, .int 1), (1, .int 0), (0, .ref m0)] := hl
  refine lv_iload_n hx hb dM_checkpoint_39 rfl (lv_at hl 0 rfl) ?_
  refine lv_iload_n hx hb dM_checkpoint_40 rfl (lv_at hl 2 rfl) ?_
  refine lv_icmp_ge (tgt := 120) hx hb dM_checkpoint_41 (by decide) (fun _ => ?_) (fun h9 => absurd (by decide) h9)
  refine lv_aload_n hx hb dM_checkpoint_120 rfl (lv_at hl 3 rfl) ?_
  refine lv_aload_n hx hb dM_checkpoint_121 rfl (lv_at hl 3 rfl) ?_
  refine va_get (D := (dC, dI)) (ci := 4) (v := .int 1) (C := "LoggedStoreModel") (T := uM) (N := 18) hx hb hw inM hown hK hP 0 rfl rfl 9 (by decide) (hw _ w621) (fun _ h9 => h9) rfl dM_checkpoint_122 ?_
  refine lv_iconst (v := 2) hx hb dM_checkpoint_125 (by decide) ?_
  refine lv_irem hx hb dM_checkpoint_126 (by decide) ?_
  refine lv_topi (nm_r (e' := 1) (by decide +kernel) ?_)
  refine lv_iconst (v := 1) hx hb dM_checkpoint_127 (by decide) ?_
  refine lv_icmp_ne (tgt := 135) hx hb dM_checkpoint_128 (by decide) (fun h9 => absurd (by decide) h9) (fun _ => ?_)
  refine lv_iconst (v := 1) hx hb dM_checkpoint_131 (by decide) ?_
  refine lv_goto (tgt := 136) hx hb dM_checkpoint_132 (by decide) ?_
  refine lv_aload_n hx hb dM_checkpoint_136 rfl (lv_at hl 3 rfl) ?_
  refine va_get (D := (dC, dI)) (ci := 4) (v := .int 1) (C := "LoggedStoreModel") (T := uM) (N := 18) hx hb hw inM hown hK hP 0 rfl rfl 9 (by decide) (hw _ w621) (fun _ h9 => h9) rfl dM_checkpoint_137 ?_
  refine lv_iconst (v := 1) hx hb dM_checkpoint_140 (by decide) ?_
  refine lv_iadd hx hb dM_checkpoint_141 ?_
  refine lv_topi (nm_r (e' := 2) (by decide +kernel) ?_)
  refine lv_bipush (v := 64) hx hb dM_checkpoint_142 (by decide) ?_
  refine lv_iload_n hx hb dM_checkpoint_144 rfl (lv_at hl 1 rfl) ?_
  refine lv_imul hx hb dM_checkpoint_145 ?_
  refine lv_topi (nm_r (e' := 64) (by decide +kernel) ?_)
  refine lv_iload_n hx hb dM_checkpoint_146 rfl (lv_at hl 2 rfl) ?_
  refine lv_iadd hx hb dM_checkpoint_147 ?_
  refine lv_topi (nm_r (e' := 64) (by decide +kernel) ?_)
  refine lv_aload_n hx hb dM_checkpoint_148 rfl (lv_at hl 3 rfl) ?_
  refine va_get (D := (dC, dI)) (ci := 4) (v := .int 0) (C := "LoggedStoreModel") (T := uM) (N := 18) hx hb hw inM hown hK hP 0 rfl rfl 8 (by decide) (hw _ w620) (fun _ h9 => h9) rfl dM_checkpoint_149 ?_
  have hPc := hP.sub (ws' := [(m0, .inr (4, [.int 0, .ref md, .int 0, .int (-1), .int 0, .ref mh, .ref mn, .ref mc, .int 0, .int 1, .int 0, .int 0, .ref mo, .ref mb, .ref mk, .ref ml, .ref ms, .ref mw])), (md, .inl (cI, 384, .inl MW0))]) [0, 2] rfl
  have hDc := hD.sub (ws' := [(m0, .inr (4, [.int 0, .ref md, .int 0, .int (-1), .int 0, .ref mh, .ref mn, .ref mc, .int 0, .int 1, .int 0, .int 0, .ref mo, .ref mb, .ref mk, .ref ml, .ref ms, .ref mw])), (md, .inl (cI, 384, .inl MW0))]) [0, 2] (by decide) rfl
  have hFc := va_free (wc := [(m0, .inr (4, [.int 0, .ref md, .int 0, .int (-1), .int 0, .ref mh, .ref mn, .ref mc, .int 0, .int 1, .int 0, .int 0, .ref mo, .ref mb, .ref mk, .ref ml, .ref ms, .ref mw])), (md, .inl (cI, 384, .inl MW0))]) hD hS hA [0, 2] rfl
  refine va_callv (va_runV (C := "LoggedStoreModel") (b := m0) (As := [.int 1, .int 2, .int 64, .int 0]) (rest := []) ⟨hx, hb, hml, hown, hw⟩ (c_M_writeChecked l dC dI cI cZ cJ cT m0 md mh mn mc mo mb mk ml ms mw MW0 H.size) ⟨callB_of 4 hw (gA0 w733) rfl rfl rfl (hw _ w45) (hw _ w730) (by decide +kernel) ⟨Nat.le_of_ble_eq_true rfl, Nat.le_of_ble_eq_true rfl⟩, (hw _ w732), (hw _ w28)⟩ ⟨kb_Q, va_recv (ci := 4) (q0 := 0) hK hP rfl rfl, fun U hU hW => ⟨rfl, by rw [hU], by rw [hU]; exact hPc, hKK.moved hW, hDc.weaken (fun _ _ _ _ => trivial)⟩⟩ rfl rfl hl.1 rfl (lv_room (Nat.le_of_ble_eq_true rfl)) dM_checkpoint_152 ⟨Nat.le_of_ble_eq_true rfl, Nat.le_of_ble_eq_true rfl⟩) hS (fun q _ h => hFc q h) hFc (fun u4 t H1 locs ht hvm he9 hB hz1 hk1 hS => ?_)
  obtain ⟨hP1, hD1⟩ := hB
  rw [ht] at hP1
  obtain ⟨hP, hD⟩ := va_join (wr := [(mh, .inl (cZ, 64, .inl (fun _ => 0)))]) (w1 := [(m0, .inr (4, [.int 0, .ref md, .int 0, .int (-1), .int 0, .ref mh, .ref mn, .ref mc, .int 0, .int 1, .int 0, .int 0, .ref mo, .ref mb, .ref mk, .ref ml, .ref ms, .ref mw]))]) hP hD [0, 2] [1] rfl rfl (by decide) (by decide) hk1 hFc hP1 hD1
  generalize H1 = H at hP hS ⊢
  have hP : va_P (dC, dI) vwC [(mh, .inl (cZ, 64, .inl (fun _ => 0))), (m0, .inr (4, [.int 0, .ref md, .int 0, .int (-1), .int 0, .ref mh, .ref mn, .ref mc, .int 0, .int 1, .int 0, .int 0, .ref mo, .ref mb, .ref mk, .ref ml, .ref ms, .ref mw]))] H := hP
  have hD : va_D A [(mh, .inl (cZ, 64, .inl (fun _ => 0))), (m0, .inr (4, [.int 0, .ref md, .int 0, .int (-1), .int 0, .ref mh, .ref mn, .ref mc, .int 0, .int 1, .int 0, .int 0, .ref mo, .ref mb, .ref mk, .ref ml, .ref ms, .ref mw]))] := hD
  refine lv_aload_n hx hb dM_checkpoint_155 rfl (lv_at hl 3 rfl) ?_
  refine va_get (D := (dC, dI)) (ci := 4) (v := .int 0) (C := "LoggedStoreModel") (T := uM) (N := 18) hx hb hw inM hown hK hP 1 rfl rfl 2 (by decide) (hw _ w614) (fun _ h9 => h9) rfl dM_checkpoint_156 ?_
  refine lv_if_eq (tgt := 169) hx hb dM_checkpoint_159 (by decide) (fun _ => ?_) (fun h9 => absurd (by decide) h9)
  refine lv_aload_n hx hb dM_checkpoint_169 rfl (lv_at hl 3 rfl) ?_
  refine lv_dup hx hb dM_checkpoint_170 rfl ?_
  refine va_get (D := (dC, dI)) (ci := 4) (v := .int 1) (C := "LoggedStoreModel") (T := uM) (N := 18) hx hb hw inM hown hK hP 1 rfl rfl 9 (by decide) (hw _ w621) (fun _ h9 => h9) rfl dM_checkpoint_171 ?_
  refine lv_iconst (v := 1) hx hb dM_checkpoint_174 (by decide) ?_
  refine lv_iadd hx hb dM_checkpoint_175 ?_
  refine lv_topi (nm_r (e' := 2) (by decide +kernel) ?_)
  refine va_put (D := (dC, dI)) (ci := 4) (v := .int 2) (ty := .int) (C := "LoggedStoreModel") (T := uM) (N := 18) hx hb hw inM tyM tyM_ok nmM hown hK hP hD hS 1 rfl rfl 9 (by decide) (hw _ w621) (fun _ h9 => h9) rfl (by decide +kernel) rfl rfl (Nat.le_of_ble_eq_true rfl) dM_checkpoint_176 (fun H locs hP hD hS => ?_)
  have hP : va_P (dC, dI) vwC [(mh, .inl (cZ, 64, .inl (fun _ => 0))), (m0, .inr (4, [.int 0, .ref md, .int 0, .int (-1), .int 0, .ref mh, .ref mn, .ref mc, .int 0, .int 2, .int 0, .int 0, .ref mo, .ref mb, .ref mk, .ref ml, .ref ms, .ref mw]))] H := hP
  have hD : va_D A [(mh, .inl (cZ, 64, .inl (fun _ => 0))), (m0, .inr (4, [.int 0, .ref md, .int 0, .int (-1), .int 0, .ref mh, .ref mn, .ref mc, .int 0, .int 2, .int 0, .int 0, .ref mo, .ref mb, .ref mk, .ref ml, .ref ms, .ref mw]))] := hD
  refine lv_aload_n hx hb dM_checkpoint_179 rfl (lv_at hl 3 rfl) ?_
  refine lv_iload_n hx hb dM_checkpoint_180 rfl (lv_at hl 1 rfl) ?_
  refine va_put (D := (dC, dI)) (ci := 4) (v := .int 1) (ty := .int) (C := "LoggedStoreModel") (T := uM) (N := 18) hx hb hw inM tyM tyM_ok nmM hown hK hP hD hS 1 rfl rfl 10 (by decide) (hw _ w622) (fun _ h9 => h9) rfl (by decide +kernel) rfl rfl (Nat.le_of_ble_eq_true rfl) dM_checkpoint_181 (fun H locs hP hD hS => ?_)
  have hP : va_P (dC, dI) vwC [(mh, .inl (cZ, 64, .inl (fun _ => 0))), (m0, .inr (4, [.int 0, .ref md, .int 0, .int (-1), .int 0, .ref mh, .ref mn, .ref mc, .int 0, .int 2, .int 1, .int 0, .ref mo, .ref mb, .ref mk, .ref ml, .ref ms, .ref mw]))] H := hP
  have hD : va_D A [(mh, .inl (cZ, 64, .inl (fun _ => 0))), (m0, .inr (4, [.int 0, .ref md, .int 0, .int (-1), .int 0, .ref mh, .ref mn, .ref mc, .int 0, .int 2, .int 1, .int 0, .ref mo, .ref mb, .ref mk, .ref ml, .ref ms, .ref mw]))] := hD
  refine lv_aload_n hx hb dM_checkpoint_184 rfl (lv_at hl 3 rfl) ?_
  refine lv_iconst (v := 0) hx hb dM_checkpoint_185 (by decide) ?_
  refine va_put (D := (dC, dI)) (ci := 4) (v := .int 0) (ty := .int) (C := "LoggedStoreModel") (T := uM) (N := 18) hx hb hw inM tyM tyM_ok nmM hown hK hP hD hS 1 rfl rfl 11 (by decide) (hw _ w623) (fun _ h9 => h9) rfl (by decide +kernel) rfl rfl (Nat.le_of_ble_eq_true rfl) dM_checkpoint_186 (fun H locs hP hD hS => ?_)
  have hP : va_P (dC, dI) vwC [(mh, .inl (cZ, 64, .inl (fun _ => 0))), (m0, .inr (4, [.int 0, .ref md, .int 0, .int (-1), .int 0, .ref mh, .ref mn, .ref mc, .int 0, .int 2, .int 1, .int 0, .ref mo, .ref mb, .ref mk, .ref ml, .ref ms, .ref mw]))] H := hP
  have hD : va_D A [(mh, .inl (cZ, 64, .inl (fun _ => 0))), (m0, .inr (4, [.int 0, .ref md, .int 0, .int (-1), .int 0, .ref mh, .ref mn, .ref mc, .int 0, .int 2, .int 1, .int 0, .ref mo, .ref mb, .ref mk, .ref ml, .ref ms, .ref mw]))] := hD
  refine lv_aload_n hx hb dM_checkpoint_189 rfl (lv_at hl 3 rfl) ?_
  refine va_get (D := (dC, dI)) (ci := 4) (v := .int 2) (C := "LoggedStoreModel") (T := uM) (N := 18) hx hb hw inM hown hK hP 1 rfl rfl 9 (by decide) (hw _ w621) (fun _ h9 => h9) rfl dM_checkpoint_190 ?_
  have hP9 := hP.sub (ws' := [(m0, .inr (4, [.int 0, .ref md, .int 0, .int (-1), .int 0, .ref mh, .ref mn, .ref mc, .int 0, .int 2, .int 1, .int 0, .ref mo, .ref mb, .ref mk, .ref ml, .ref ms, .ref mw]))]) [1] rfl
  have hD9 := hD.sub (ws' := [(m0, .inr (4, [.int 0, .ref md, .int 0, .int (-1), .int 0, .ref mh, .ref mn, .ref mc, .int 0, .int 2, .int 1, .int 0, .ref mo, .ref mb, .ref mk, .ref ml, .ref ms, .ref mw]))]) [1] (by decide) rfl
  refine W.widen (k := 0) (n := 0) (by decide) (by decide) ?_
  exact W.iret (v := 2) hx hb hr (fun t ht hW => ⟨⟨2, fun _ => 0, rfl, rfl, by rw [ht]; exact hP9, hD9⟩, hS.F ht⟩) hS.2.2 dM_checkpoint_193

set_option maxHeartbeats 4000000 in
set_option maxRecDepth 100000 in
theorem c_M_isGood0 (l : Launch) (dC : Nat → ClassId) (dI : Nat → Nat → Nat) (cI cZ cJ cT : ClassId) (m0 md mh mn mc mo mb mk ml ms mw : Nat) : Met l yM_isGood (Cond.code yM_isGood cM_isGood 2 (some .boolean) :: wsA) ({ frames := 1, cells := 0, slots := 0, locals := 23 }) (va_Pc [.ref m0, .int 0] (fun U => va_P (dC, dI) vwC [(m0, .inr (4, [.int 0, .ref md, .int 0, .int (-1), .int 0, .ref mh, .ref mn, .ref mc, .int 0, .int 1, .int 0, .int 0, .ref mo, .ref mb, .ref mk, .ref ml, .ref ms, .ref mw])), (md, .inl (cI, 384, .inl MW0))] U.heap ∧ KK dC dI cI cZ cJ cT U)) (vp_Si (fun r => r = 1)) 0 0 (fun _ => False) := by
  refine Met.ofW (cc := cM_isGood) (maxL := 2) (ret := (some .boolean)) (by decide) rfl ?_
  intro p e s m args below meth c s₁ B hml hv
  obtain ⟨rfl, hP, hKK⟩ := hv
  have hK := hKK.1
  have hx := B.exec
  have hb := B.bytes
  have hr := B.returns
  have hw : ∀ w ∈ wsA, w.before _ s = true := fun w h => atoms_spec (ws := (Cond.code yM_isGood cM_isGood 2 (some .boolean) :: wsA)) B.pre w (List.mem_cons_of_mem _ h)
  have hown : s.vm.findClass "LoggedStoreModel" = some m.cls := findClass_of_methodNamed B.named
  have hlocks := B.notSynchronized
  have hl := lv_entry ([.ref m0, .int 0]) (n := 2) (Nat.le_of_ble_eq_true rfl)
  rw [lg_entry_eq]
  generalize (lg_sl ([.ref m0, .int 0]) ++ List.replicate (2 - (lg_sl ([.ref m0, .int 0])).length) Slot.unset).toArray = ls at hl ⊢
  have hl : lv_has ls 2 [(0, .ref m0), (1, .int 0)] := hl
  refine lv_aload_n hx hb dM_isGood_0 rfl (lv_at hl 0 rfl) ?_
  refine va_get (D := (dC, dI)) (ci := 4) (v := .ref md) (C := "LoggedStoreModel") (T := uM) (N := 18) hx hb hw inM hown hK hP 0 rfl rfl 1 (by decide) (hw _ w613) (fun _ h9 => h9) rfl dM_isGood_1 ?_
  refine lv_iconst (v := 4) hx hb dM_isGood_4 (by decide) ?_
  refine lv_iload_n hx hb dM_isGood_5 rfl (lv_at hl 1 rfl) ?_
  refine lv_imul hx hb dM_isGood_6 ?_
  refine lv_topi (nm_r (e' := 0) (by decide +kernel) ?_)
  refine lv_iconst (v := 3) hx hb dM_isGood_7 (by decide) ?_
  refine lv_iadd hx hb dM_isGood_8 ?_
  refine lv_topi (nm_r (e' := 3) (by decide +kernel) ?_)
  refine va_iald hx hb hK hP 1 0 rfl rfl (tv_in (by decide +kernel)) dM_isGood_9 ?_
  refine lv_topi (nm_r (e' := 1013969759) (by decide +kernel) ?_)
  refine lv_aload_n hx hb dM_isGood_10 rfl (lv_at hl 0 rfl) ?_
  refine va_get (D := (dC, dI)) (ci := 4) (v := .ref md) (C := "LoggedStoreModel") (T := uM) (N := 18) hx hb hw inM hown hK hP 0 rfl rfl 1 (by decide) (hw _ w613) (fun _ h9 => h9) rfl dM_isGood_11 ?_
  refine lv_iconst (v := 4) hx hb dM_isGood_14 (by decide) ?_
  refine lv_iload_n hx hb dM_isGood_15 rfl (lv_at hl 1 rfl) ?_
  refine lv_imul hx hb dM_isGood_16 ?_
  refine lv_topi (nm_r (e' := 0) (by decide +kernel) ?_)
  refine va_iald hx hb hK hP 1 0 rfl rfl (tv_in (by decide +kernel)) dM_isGood_17 ?_
  refine lv_topi (nm_r (e' := 1) (by decide +kernel) ?_)
  refine lv_aload_n hx hb dM_isGood_18 rfl (lv_at hl 0 rfl) ?_
  refine va_get (D := (dC, dI)) (ci := 4) (v := .ref md) (C := "LoggedStoreModel") (T := uM) (N := 18) hx hb hw inM hown hK hP 0 rfl rfl 1 (by decide) (hw _ w613) (fun _ h9 => h9) rfl dM_isGood_19 ?_
  refine lv_iconst (v := 4) hx hb dM_isGood_22 (by decide) ?_
  refine lv_iload_n hx hb dM_isGood_23 rfl (lv_at hl 1 rfl) ?_
  refine lv_imul hx hb dM_isGood_24 ?_
  refine lv_topi (nm_r (e' := 0) (by decide +kernel) ?_)
  refine lv_iconst (v := 1) hx hb dM_isGood_25 (by decide) ?_
  refine lv_iadd hx hb dM_isGood_26 ?_
  refine lv_topi (nm_r (e' := 1) (by decide +kernel) ?_)
  refine va_iald hx hb hK hP 1 0 rfl rfl (tv_in (by decide +kernel)) dM_isGood_27 ?_
  refine lv_topi (nm_r (e' := 0) (by decide +kernel) ?_)
  refine lv_aload_n hx hb dM_isGood_28 rfl (lv_at hl 0 rfl) ?_
  refine va_get (D := (dC, dI)) (ci := 4) (v := .ref md) (C := "LoggedStoreModel") (T := uM) (N := 18) hx hb hw inM hown hK hP 0 rfl rfl 1 (by decide) (hw _ w613) (fun _ h9 => h9) rfl dM_isGood_29 ?_
  refine lv_iconst (v := 4) hx hb dM_isGood_32 (by decide) ?_
  refine lv_iload_n hx hb dM_isGood_33 rfl (lv_at hl 1 rfl) ?_
  refine lv_imul hx hb dM_isGood_34 ?_
  refine lv_topi (nm_r (e' := 0) (by decide +kernel) ?_)
  refine lv_iconst (v := 2) hx hb dM_isGood_35 (by decide) ?_
  refine lv_iadd hx hb dM_isGood_36 ?_
  refine lv_topi (nm_r (e' := 2) (by decide +kernel) ?_)
  refine va_iald hx hb hK hP 1 0 rfl rfl (tv_in (by decide +kernel)) dM_isGood_37 ?_
  refine lv_topi (nm_r (e' := 0) (by decide +kernel) ?_)
  refine lv_iload_n hx hb dM_isGood_38 rfl (lv_at hl 1 rfl) ?_
  have hPc := hP.sub (ws' := []) [] rfl
  refine vp_callSi (W.runS (As := [.int 1, .int 0, .int 0, .int 0]) (rest := [.int 1013969759]) ⟨hx, hb, hml, hown, hw⟩ (c_M_chk l dC dI cI cZ cJ cT 1 0 0 0) ⟨callB_of 4 hw (gA0 w608) rfl rfl rfl (hw _ w45) (hw _ w606) (by decide +kernel) ⟨Nat.le_of_ble_eq_true rfl, Nat.le_of_ble_eq_true rfl⟩, (hw _ w607)⟩ ⟨kb_S, fun U hU hW => ⟨rfl, by rw [hU]; exact hPc, hKK.moved hW⟩⟩ rfl rfl hl.1 rfl (lv_room (Nat.le_of_ble_eq_true rfl)) dM_isGood_39 ⟨Nat.le_of_ble_eq_true rfl, Nat.le_of_ble_eq_true rfl⟩) (fun r1 e2 => ?_)
  obtain rfl : r1 = 1013969759 := e2.trans (by decide +kernel)
  refine lv_icmp_ne (tgt := 49) hx hb dM_isGood_42 (by decide) (fun h9 => absurd (by decide) h9) (fun _ => ?_)
  refine lv_iconst (v := 1) hx hb dM_isGood_45 (by decide) ?_
  refine lv_goto (tgt := 50) hx hb dM_isGood_46 (by decide) ?_
  exact W.zret (v := 1) (ty := .boolean) hx hb hr (by decide) (fun t ht hW => ⟨1, rfl, rfl, ht⟩) (fun q h => by cases h) dM_isGood_50

set_option maxHeartbeats 4000000 in
set_option maxRecDepth 100000 in
theorem c_M_isGood1 (l : Launch) (dC : Nat → ClassId) (dI : Nat → Nat → Nat) (cI cZ cJ cT : ClassId) (m0 md mh mn mc mo mb mk ml ms mw : Nat) : Met l yM_isGood (Cond.code yM_isGood cM_isGood 2 (some .boolean) :: wsA) ({ frames := 1, cells := 0, slots := 0, locals := 23 }) (va_Pc [.ref m0, .int 1] (fun U => va_P (dC, dI) vwC [(m0, .inr (4, [.int 0, .ref md, .int 0, .int (-1), .int 0, .ref mh, .ref mn, .ref mc, .int 0, .int 1, .int 0, .int 0, .ref mo, .ref mb, .ref mk, .ref ml, .ref ms, .ref mw])), (md, .inl (cI, 384, .inl MW0))] U.heap ∧ KK dC dI cI cZ cJ cT U)) (vp_Si (fun r => r = 0)) 0 0 (fun _ => False) := by
  refine Met.ofW (cc := cM_isGood) (maxL := 2) (ret := (some .boolean)) (by decide) rfl ?_
  intro p e s m args below meth c s₁ B hml hv
  obtain ⟨rfl, hP, hKK⟩ := hv
  have hK := hKK.1
  have hx := B.exec
  have hb := B.bytes
  have hr := B.returns
  have hw : ∀ w ∈ wsA, w.before _ s = true := fun w h => atoms_spec (ws := (Cond.code yM_isGood cM_isGood 2 (some .boolean) :: wsA)) B.pre w (List.mem_cons_of_mem _ h)
  have hown : s.vm.findClass "LoggedStoreModel" = some m.cls := findClass_of_methodNamed B.named
  have hlocks := B.notSynchronized
  have hl := lv_entry ([.ref m0, .int 1]) (n := 2) (Nat.le_of_ble_eq_true rfl)
  rw [lg_entry_eq]
  generalize (lg_sl ([.ref m0, .int 1]) ++ List.replicate (2 - (lg_sl ([.ref m0, .int 1])).length) Slot.unset).toArray = ls at hl ⊢
  have hl : lv_has ls 2 [(0, .ref m0), (1, .int 1)] := hl
  refine lv_aload_n hx hb dM_isGood_0 rfl (lv_at hl 0 rfl) ?_
  refine va_get (D := (dC, dI)) (ci := 4) (v := .ref md) (C := "LoggedStoreModel") (T := uM) (N := 18) hx hb hw inM hown hK hP 0 rfl rfl 1 (by decide) (hw _ w613) (fun _ h9 => h9) rfl dM_isGood_1 ?_
  refine lv_iconst (v := 4) hx hb dM_isGood_4 (by decide) ?_
  refine lv_iload_n hx hb dM_isGood_5 rfl (lv_at hl 1 rfl) ?_
  refine lv_imul hx hb dM_isGood_6 ?_
  refine lv_topi (nm_r (e' := 4) (by decide +kernel) ?_)
  refine lv_iconst (v := 3) hx hb dM_isGood_7 (by decide) ?_
  refine lv_iadd hx hb dM_isGood_8 ?_
  refine lv_topi (nm_r (e' := 7) (by decide +kernel) ?_)
  refine va_iald hx hb hK hP 1 0 rfl rfl (tv_in (by decide +kernel)) dM_isGood_9 ?_
  refine lv_topi (nm_r (e' := 0) (by decide +kernel) ?_)
  refine lv_aload_n hx hb dM_isGood_10 rfl (lv_at hl 0 rfl) ?_
  refine va_get (D := (dC, dI)) (ci := 4) (v := .ref md) (C := "LoggedStoreModel") (T := uM) (N := 18) hx hb hw inM hown hK hP 0 rfl rfl 1 (by decide) (hw _ w613) (fun _ h9 => h9) rfl dM_isGood_11 ?_
  refine lv_iconst (v := 4) hx hb dM_isGood_14 (by decide) ?_
  refine lv_iload_n hx hb dM_isGood_15 rfl (lv_at hl 1 rfl) ?_
  refine lv_imul hx hb dM_isGood_16 ?_
  refine lv_topi (nm_r (e' := 4) (by decide +kernel) ?_)
  refine va_iald hx hb hK hP 1 0 rfl rfl (tv_in (by decide +kernel)) dM_isGood_17 ?_
  refine lv_topi (nm_r (e' := 0) (by decide +kernel) ?_)
  refine lv_aload_n hx hb dM_isGood_18 rfl (lv_at hl 0 rfl) ?_
  refine va_get (D := (dC, dI)) (ci := 4) (v := .ref md) (C := "LoggedStoreModel") (T := uM) (N := 18) hx hb hw inM hown hK hP 0 rfl rfl 1 (by decide) (hw _ w613) (fun _ h9 => h9) rfl dM_isGood_19 ?_
  refine lv_iconst (v := 4) hx hb dM_isGood_22 (by decide) ?_
  refine lv_iload_n hx hb dM_isGood_23 rfl (lv_at hl 1 rfl) ?_
  refine lv_imul hx hb dM_isGood_24 ?_
  refine lv_topi (nm_r (e' := 4) (by decide +kernel) ?_)
  refine lv_iconst (v := 1) hx hb dM_isGood_25 (by decide) ?_
  refine lv_iadd hx hb dM_isGood_26 ?_
  refine lv_topi (nm_r (e' := 5) (by decide +kernel) ?_)
  refine va_iald hx hb hK hP 1 0 rfl rfl (tv_in (by decide +kernel)) dM_isGood_27 ?_
  refine lv_topi (nm_r (e' := 0) (by decide +kernel) ?_)
  refine lv_aload_n hx hb dM_isGood_28 rfl (lv_at hl 0 rfl) ?_
  refine va_get (D := (dC, dI)) (ci := 4) (v := .ref md) (C := "LoggedStoreModel") (T := uM) (N := 18) hx hb hw inM hown hK hP 0 rfl rfl 1 (by decide) (hw _ w613) (fun _ h9 => h9) rfl dM_isGood_29 ?_
  refine lv_iconst (v := 4) hx hb dM_isGood_32 (by decide) ?_
  refine lv_iload_n hx hb dM_isGood_33 rfl (lv_at hl 1 rfl) ?_
  refine lv_imul hx hb dM_isGood_34 ?_
  refine lv_topi (nm_r (e' := 4) (by decide +kernel) ?_)
  refine lv_iconst (v := 2) hx hb dM_isGood_35 (by decide) ?_
  refine lv_iadd hx hb dM_isGood_36 ?_
  refine lv_topi (nm_r (e' := 6) (by decide +kernel) ?_)
  refine va_iald hx hb hK hP 1 0 rfl rfl (tv_in (by decide +kernel)) dM_isGood_37 ?_
  refine lv_topi (nm_r (e' := 0) (by decide +kernel) ?_)
  refine lv_iload_n hx hb dM_isGood_38 rfl (lv_at hl 1 rfl) ?_
  have hPc := hP.sub (ws' := []) [] rfl
  refine vp_callSi (W.runS (As := [.int 0, .int 0, .int 0, .int 1]) (rest := [.int 0]) ⟨hx, hb, hml, hown, hw⟩ (c_M_chk l dC dI cI cZ cJ cT 0 0 0 1) ⟨callB_of 4 hw (gA0 w608) rfl rfl rfl (hw _ w45) (hw _ w606) (by decide +kernel) ⟨Nat.le_of_ble_eq_true rfl, Nat.le_of_ble_eq_true rfl⟩, (hw _ w607)⟩ ⟨kb_S, fun U hU hW => ⟨rfl, by rw [hU]; exact hPc, hKK.moved hW⟩⟩ rfl rfl hl.1 rfl (lv_room (Nat.le_of_ble_eq_true rfl)) dM_isGood_39 ⟨Nat.le_of_ble_eq_true rfl, Nat.le_of_ble_eq_true rfl⟩) (fun r1 e2 => ?_)
  obtain rfl : r1 = 1013904320 := e2.trans (by decide +kernel)
  refine lv_icmp_ne (tgt := 49) hx hb dM_isGood_42 (by decide) (fun _ => ?_) (fun h9 => absurd h9 (by decide))
  refine lv_iconst (v := 0) hx hb dM_isGood_49 (by decide) ?_
  exact W.zret (v := 0) (ty := .boolean) hx hb hr (by decide) (fun t ht hW => ⟨0, rfl, rfl, ht⟩) (fun q h => by cases h) dM_isGood_50

set_option maxHeartbeats 4000000 in
set_option maxRecDepth 100000 in
theorem c_M_isGood22 (l : Launch) (dC : Nat → ClassId) (dI : Nat → Nat → Nat) (cI cZ cJ cT : ClassId) (m0 md mh mn mc mo mb mk ml ms mw : Nat) : Met l yM_isGood (Cond.code yM_isGood cM_isGood 2 (some .boolean) :: wsA) ({ frames := 1, cells := 0, slots := 0, locals := 23 }) (va_Pc [.ref m0, .int 22] (fun U => va_P (dC, dI) vwC [(m0, .inr (4, [.int 0, .ref md, .int 0, .int (-1), .int 0, .ref mh, .ref mn, .ref mc, .int 0, .int 1, .int 0, .int 0, .ref mo, .ref mb, .ref mk, .ref ml, .ref ms, .ref mw])), (md, .inl (cI, 384, .inl MW0))] U.heap ∧ KK dC dI cI cZ cJ cT U)) (vp_Si (fun r => r = 0)) 0 0 (fun _ => False) := by
  refine Met.ofW (cc := cM_isGood) (maxL := 2) (ret := (some .boolean)) (by decide) rfl ?_
  intro p e s m args below meth c s₁ B hml hv
  obtain ⟨rfl, hP, hKK⟩ := hv
  have hK := hKK.1
  have hx := B.exec
  have hb := B.bytes
  have hr := B.returns
  have hw : ∀ w ∈ wsA, w.before _ s = true := fun w h => atoms_spec (ws := (Cond.code yM_isGood cM_isGood 2 (some .boolean) :: wsA)) B.pre w (List.mem_cons_of_mem _ h)
  have hown : s.vm.findClass "LoggedStoreModel" = some m.cls := findClass_of_methodNamed B.named
  have hlocks := B.notSynchronized
  have hl := lv_entry ([.ref m0, .int 22]) (n := 2) (Nat.le_of_ble_eq_true rfl)
  rw [lg_entry_eq]
  generalize (lg_sl ([.ref m0, .int 22]) ++ List.replicate (2 - (lg_sl ([.ref m0, .int 22])).length) Slot.unset).toArray = ls at hl ⊢
  have hl : lv_has ls 2 [(0, .ref m0), (1, .int 22)] := hl
  refine lv_aload_n hx hb dM_isGood_0 rfl (lv_at hl 0 rfl) ?_
  refine va_get (D := (dC, dI)) (ci := 4) (v := .ref md) (C := "LoggedStoreModel") (T := uM) (N := 18) hx hb hw inM hown hK hP 0 rfl rfl 1 (by decide) (hw _ w613) (fun _ h9 => h9) rfl dM_isGood_1 ?_
  refine lv_iconst (v := 4) hx hb dM_isGood_4 (by decide) ?_
  refine lv_iload_n hx hb dM_isGood_5 rfl (lv_at hl 1 rfl) ?_
  refine lv_imul hx hb dM_isGood_6 ?_
  refine lv_topi (nm_r (e' := 88) (by decide +kernel) ?_)
  refine lv_iconst (v := 3) hx hb dM_isGood_7 (by decide) ?_
  refine lv_iadd hx hb dM_isGood_8 ?_
  refine lv_topi (nm_r (e' := 91) (by decide +kernel) ?_)
  refine va_iald hx hb hK hP 1 0 rfl rfl (tv_in (by decide +kernel)) dM_isGood_9 ?_
  refine lv_topi (nm_r (e' := 0) (by decide +kernel) ?_)
  refine lv_aload_n hx hb dM_isGood_10 rfl (lv_at hl 0 rfl) ?_
  refine va_get (D := (dC, dI)) (ci := 4) (v := .ref md) (C := "LoggedStoreModel") (T := uM) (N := 18) hx hb hw inM hown hK hP 0 rfl rfl 1 (by decide) (hw _ w613) (fun _ h9 => h9) rfl dM_isGood_11 ?_
  refine lv_iconst (v := 4) hx hb dM_isGood_14 (by decide) ?_
  refine lv_iload_n hx hb dM_isGood_15 rfl (lv_at hl 1 rfl) ?_
  refine lv_imul hx hb dM_isGood_16 ?_
  refine lv_topi (nm_r (e' := 88) (by decide +kernel) ?_)
  refine va_iald hx hb hK hP 1 0 rfl rfl (tv_in (by decide +kernel)) dM_isGood_17 ?_
  refine lv_topi (nm_r (e' := 0) (by decide +kernel) ?_)
  refine lv_aload_n hx hb dM_isGood_18 rfl (lv_at hl 0 rfl) ?_
  refine va_get (D := (dC, dI)) (ci := 4) (v := .ref md) (C := "LoggedStoreModel") (T := uM) (N := 18) hx hb hw inM hown hK hP 0 rfl rfl 1 (by decide) (hw _ w613) (fun _ h9 => h9) rfl dM_isGood_19 ?_
  refine lv_iconst (v := 4) hx hb dM_isGood_22 (by decide) ?_
  refine lv_iload_n hx hb dM_isGood_23 rfl (lv_at hl 1 rfl) ?_
  refine lv_imul hx hb dM_isGood_24 ?_
  refine lv_topi (nm_r (e' := 88) (by decide +kernel) ?_)
  refine lv_iconst (v := 1) hx hb dM_isGood_25 (by decide) ?_
  refine lv_iadd hx hb dM_isGood_26 ?_
  refine lv_topi (nm_r (e' := 89) (by decide +kernel) ?_)
  refine va_iald hx hb hK hP 1 0 rfl rfl (tv_in (by decide +kernel)) dM_isGood_27 ?_
  refine lv_topi (nm_r (e' := 0) (by decide +kernel) ?_)
  refine lv_aload_n hx hb dM_isGood_28 rfl (lv_at hl 0 rfl) ?_
  refine va_get (D := (dC, dI)) (ci := 4) (v := .ref md) (C := "LoggedStoreModel") (T := uM) (N := 18) hx hb hw inM hown hK hP 0 rfl rfl 1 (by decide) (hw _ w613) (fun _ h9 => h9) rfl dM_isGood_29 ?_
  refine lv_iconst (v := 4) hx hb dM_isGood_32 (by decide) ?_
  refine lv_iload_n hx hb dM_isGood_33 rfl (lv_at hl 1 rfl) ?_
  refine lv_imul hx hb dM_isGood_34 ?_
  refine lv_topi (nm_r (e' := 88) (by decide +kernel) ?_)
  refine lv_iconst (v := 2) hx hb dM_isGood_35 (by decide) ?_
  refine lv_iadd hx hb dM_isGood_36 ?_
  refine lv_topi (nm_r (e' := 90) (by decide +kernel) ?_)
  refine va_iald hx hb hK hP 1 0 rfl rfl (tv_in (by decide +kernel)) dM_isGood_37 ?_
  refine lv_topi (nm_r (e' := 0) (by decide +kernel) ?_)
  refine lv_iload_n hx hb dM_isGood_38 rfl (lv_at hl 1 rfl) ?_
  have hPc := hP.sub (ws' := []) [] rfl
  refine vp_callSi (W.runS (As := [.int 0, .int 0, .int 0, .int 22]) (rest := [.int 0]) ⟨hx, hb, hml, hown, hw⟩ (c_M_chk l dC dI cI cZ cJ cT 0 0 0 22) ⟨callB_of 4 hw (gA0 w608) rfl rfl rfl (hw _ w45) (hw _ w606) (by decide +kernel) ⟨Nat.le_of_ble_eq_true rfl, Nat.le_of_ble_eq_true rfl⟩, (hw _ w607)⟩ ⟨kb_S, fun U hU hW => ⟨rfl, by rw [hU]; exact hPc, hKK.moved hW⟩⟩ rfl rfl hl.1 rfl (lv_room (Nat.le_of_ble_eq_true rfl)) dM_isGood_39 ⟨Nat.le_of_ble_eq_true rfl, Nat.le_of_ble_eq_true rfl⟩) (fun r1 e2 => ?_)
  obtain rfl : r1 = 1013906357 := e2.trans (by decide +kernel)
  refine lv_icmp_ne (tgt := 49) hx hb dM_isGood_42 (by decide) (fun _ => ?_) (fun h9 => absurd h9 (by decide))
  refine lv_iconst (v := 0) hx hb dM_isGood_49 (by decide) ?_
  exact W.zret (v := 0) (ty := .boolean) hx hb hr (by decide) (fun t ht hW => ⟨0, rfl, rfl, ht⟩) (fun q h => by cases h) dM_isGood_50

set_option maxHeartbeats 4000000 in
set_option maxRecDepth 100000 in
theorem c_M_counts0 (l : Launch) (dC : Nat → ClassId) (dI : Nat → Nat → Nat) (cI cZ cJ cT : ClassId) (m0 md mh mn mc mo mb mk ml ms mw : Nat) : Met l yM_counts (Cond.code yM_counts cM_counts 2 (some .boolean) :: wsA) ({ frames := 2, cells := 0, slots := 0, locals := 44 }) (va_Pc [.ref m0, .int 0] (fun U => va_P (dC, dI) vwC [(m0, .inr (4, [.int 0, .ref md, .int 0, .int (-1), .int 0, .ref mh, .ref mn, .ref mc, .int 0, .int 1, .int 0, .int 0, .ref mo, .ref mb, .ref mk, .ref ml, .ref ms, .ref mw])), (md, .inl (cI, 384, .inl MW0))] U.heap ∧ KK dC dI cI cZ cJ cT U)) (vp_Si (fun r => r = 1)) 0 0 (fun _ => False) := by
  refine Met.ofW (cc := cM_counts) (maxL := 2) (ret := (some .boolean)) (by decide) rfl ?_
  intro p e s m args below meth c s₁ B hml hv
  obtain ⟨rfl, hP, hKK⟩ := hv
  have hK := hKK.1
  have hx := B.exec
  have hb := B.bytes
  have hr := B.returns
  have hw : ∀ w ∈ wsA, w.before _ s = true := fun w h => atoms_spec (ws := (Cond.code yM_counts cM_counts 2 (some .boolean) :: wsA)) B.pre w (List.mem_cons_of_mem _ h)
  have hown : s.vm.findClass "LoggedStoreModel" = some m.cls := findClass_of_methodNamed B.named
  have hlocks := B.notSynchronized
  have hl := lv_entry ([.ref m0, .int 0]) (n := 2) (Nat.le_of_ble_eq_true rfl)
  rw [lg_entry_eq]
  generalize (lg_sl ([.ref m0, .int 0]) ++ List.replicate (2 - (lg_sl ([.ref m0, .int 0])).length) Slot.unset).toArray = ls at hl ⊢
  have hl : lv_has ls 2 [(0, .ref m0), (1, .int 0)] := hl
  refine lv_aload_n hx hb dM_counts_0 rfl (lv_at hl 0 rfl) ?_
  refine lv_iload_n hx hb dM_counts_1 rfl (lv_at hl 1 rfl) ?_
  have hPc := hP.sub (ws' := [(m0, .inr (4, [.int 0, .ref md, .int 0, .int (-1), .int 0, .ref mh, .ref mn, .ref mc, .int 0, .int 1, .int 0, .int 0, .ref mo, .ref mb, .ref mk, .ref ml, .ref ms, .ref mw])), (md, .inl (cI, 384, .inl MW0))]) [0, 1] rfl
  refine vp_callSi (W.runV (C := "LoggedStoreModel") (b := m0) (As := [.int 0]) (rest := []) ⟨hx, hb, hml, hown, hw⟩ (c_M_isGood0 l dC dI cI cZ cJ cT m0 md mh mn mc mo mb mk ml ms mw) ⟨callB_of 1 hw (gA0 w769) rfl rfl rfl (hw _ w45) (hw _ w766) (by decide +kernel) ⟨Nat.le_of_ble_eq_true rfl, Nat.le_of_ble_eq_true rfl⟩, (hw _ w768), (hw _ w35)⟩ ⟨kb_S, va_recv (ci := 4) (q0 := 0) hK hP rfl rfl, fun U hU hW => ⟨rfl, by rw [hU]; exact hPc, hKK.moved hW⟩⟩ rfl rfl hl.1 rfl (lv_room (Nat.le_of_ble_eq_true rfl)) dM_counts_2 ⟨Nat.le_of_ble_eq_true rfl, Nat.le_of_ble_eq_true rfl⟩) (fun r1 e2 => ?_)
  obtain rfl : r1 = 1 := e2
  refine lv_if_eq (tgt := 28) hx hb dM_counts_5 (by decide) (fun h9 => absurd h9 (by decide)) (fun _ => ?_)
  refine lv_aload_n hx hb dM_counts_8 rfl (lv_at hl 0 rfl) ?_
  refine va_get (D := (dC, dI)) (ci := 4) (v := .ref md) (C := "LoggedStoreModel") (T := uM) (N := 18) hx hb hw inM hown hK hP 0 rfl rfl 1 (by decide) (hw _ w613) (fun _ h9 => h9) rfl dM_counts_9 ?_
  refine lv_iconst (v := 4) hx hb dM_counts_12 (by decide) ?_
  refine lv_iload_n hx hb dM_counts_13 rfl (lv_at hl 1 rfl) ?_
  refine lv_imul hx hb dM_counts_14 ?_
  refine lv_topi (nm_r (e' := 0) (by decide +kernel) ?_)
  refine va_iald hx hb hK hP 1 0 rfl rfl (tv_in (by decide +kernel)) dM_counts_15 ?_
  refine lv_topi (nm_r (e' := 1) (by decide +kernel) ?_)
  refine lv_iconst (v := 1) hx hb dM_counts_16 (by decide) ?_
  refine lv_iadd hx hb dM_counts_17 ?_
  refine lv_topi (nm_r (e' := 2) (by decide +kernel) ?_)
  refine lv_iconst (v := 1) hx hb dM_counts_18 (by decide) ?_
  refine lv_iand hx hb dM_counts_19 ?_
  refine lv_topi (nm_r (e' := 0) (by decide +kernel) ?_)
  refine lv_iload_n hx hb dM_counts_20 rfl (lv_at hl 1 rfl) ?_
  refine lv_icmp_ne (tgt := 28) hx hb dM_counts_21 (by decide) (fun h9 => absurd (by decide) h9) (fun _ => ?_)
  refine lv_iconst (v := 1) hx hb dM_counts_24 (by decide) ?_
  refine lv_goto (tgt := 29) hx hb dM_counts_25 (by decide) ?_
  exact W.zret (v := 1) (ty := .boolean) hx hb hr (by decide) (fun t ht hW => ⟨1, rfl, rfl, ht⟩) (fun q h => by cases h) dM_counts_29

set_option maxHeartbeats 4000000 in
set_option maxRecDepth 100000 in
theorem c_M_counts1 (l : Launch) (dC : Nat → ClassId) (dI : Nat → Nat → Nat) (cI cZ cJ cT : ClassId) (m0 md mh mn mc mo mb mk ml ms mw : Nat) : Met l yM_counts (Cond.code yM_counts cM_counts 2 (some .boolean) :: wsA) ({ frames := 2, cells := 0, slots := 0, locals := 44 }) (va_Pc [.ref m0, .int 1] (fun U => va_P (dC, dI) vwC [(m0, .inr (4, [.int 0, .ref md, .int 0, .int (-1), .int 0, .ref mh, .ref mn, .ref mc, .int 0, .int 1, .int 0, .int 0, .ref mo, .ref mb, .ref mk, .ref ml, .ref ms, .ref mw])), (md, .inl (cI, 384, .inl MW0))] U.heap ∧ KK dC dI cI cZ cJ cT U)) (vp_Si (fun r => r = 0)) 0 0 (fun _ => False) := by
  refine Met.ofW (cc := cM_counts) (maxL := 2) (ret := (some .boolean)) (by decide) rfl ?_
  intro p e s m args below meth c s₁ B hml hv
  obtain ⟨rfl, hP, hKK⟩ := hv
  have hK := hKK.1
  have hx := B.exec
  have hb := B.bytes
  have hr := B.returns
  have hw : ∀ w ∈ wsA, w.before _ s = true := fun w h => atoms_spec (ws := (Cond.code yM_counts cM_counts 2 (some .boolean) :: wsA)) B.pre w (List.mem_cons_of_mem _ h)
  have hown : s.vm.findClass "LoggedStoreModel" = some m.cls := findClass_of_methodNamed B.named
  have hlocks := B.notSynchronized
  have hl := lv_entry ([.ref m0, .int 1]) (n := 2) (Nat.le_of_ble_eq_true rfl)
  rw [lg_entry_eq]
  generalize (lg_sl ([.ref m0, .int 1]) ++ List.replicate (2 - (lg_sl ([.ref m0, .int 1])).length) Slot.unset).toArray = ls at hl ⊢
  have hl : lv_has ls 2 [(0, .ref m0), (1, .int 1)] := hl
  refine lv_aload_n hx hb dM_counts_0 rfl (lv_at hl 0 rfl) ?_
  refine lv_iload_n hx hb dM_counts_1 rfl (lv_at hl 1 rfl) ?_
  have hPc := hP.sub (ws' := [(m0, .inr (4, [.int 0, .ref md, .int 0, .int (-1), .int 0, .ref mh, .ref mn, .ref mc, .int 0, .int 1, .int 0, .int 0, .ref mo, .ref mb, .ref mk, .ref ml, .ref ms, .ref mw])), (md, .inl (cI, 384, .inl MW0))]) [0, 1] rfl
  refine vp_callSi (W.runV (C := "LoggedStoreModel") (b := m0) (As := [.int 1]) (rest := []) ⟨hx, hb, hml, hown, hw⟩ (c_M_isGood1 l dC dI cI cZ cJ cT m0 md mh mn mc mo mb mk ml ms mw) ⟨callB_of 1 hw (gA0 w769) rfl rfl rfl (hw _ w45) (hw _ w766) (by decide +kernel) ⟨Nat.le_of_ble_eq_true rfl, Nat.le_of_ble_eq_true rfl⟩, (hw _ w768), (hw _ w35)⟩ ⟨kb_S, va_recv (ci := 4) (q0 := 0) hK hP rfl rfl, fun U hU hW => ⟨rfl, by rw [hU]; exact hPc, hKK.moved hW⟩⟩ rfl rfl hl.1 rfl (lv_room (Nat.le_of_ble_eq_true rfl)) dM_counts_2 ⟨Nat.le_of_ble_eq_true rfl, Nat.le_of_ble_eq_true rfl⟩) (fun r1 e2 => ?_)
  obtain rfl : r1 = 0 := e2
  refine lv_if_eq (tgt := 28) hx hb dM_counts_5 (by decide) (fun _ => ?_) (fun h9 => absurd (by decide) h9)
  refine lv_iconst (v := 0) hx hb dM_counts_28 (by decide) ?_
  exact W.zret (v := 0) (ty := .boolean) hx hb hr (by decide) (fun t ht hW => ⟨0, rfl, rfl, ht⟩) (fun q h => by cases h) dM_counts_29

set_option maxHeartbeats 4000000 in
set_option maxRecDepth 100000 in
theorem c_M_takeArea (l : Launch) (dC : Nat → ClassId) (dI : Nat → Nat → Nat) (cI cZ cJ cT : ClassId) (m0 md mh mn mc mo mb mk ml ms mw : Nat) (sz : Nat) : Met l yM_takeArea (Cond.code yM_takeArea cM_takeArea 5 none :: wsA) ({ frames := 0, cells := 0, slots := 0, locals := 0 }) (va_Pc [.ref m0, .int 0] (fun U => U.heap.size = sz ∧ va_P (dC, dI) vwC [(m0, .inr (4, [.int 0, .ref md, .int 0, .int (-1), .int 0, .ref mh, .ref mn, .ref mc, .int 0, .int 1, .int 0, .int 0, .ref mo, .ref mb, .ref mk, .ref ml, .ref ms, .ref mw])), (md, .inl (cI, 384, .inl MW0)), (mh, .inl (cZ, 64, .inl (fun _ => 0))), (mn, .inl (cI, 64, .inl (fun _ => 0))), (mc, .inl (cI, 64, .inl (fun _ => 0)))] U.heap ∧ KK dC dI cI cZ cJ cT U ∧ va_D (fun _ => True) [(m0, .inr (4, [.int 0, .ref md, .int 0, .int (-1), .int 0, .ref mh, .ref mn, .ref mc, .int 0, .int 1, .int 0, .int 0, .ref mo, .ref mb, .ref mk, .ref ml, .ref ms, .ref mw])), (md, .inl (cI, 384, .inl MW0)), (mh, .inl (cZ, 64, .inl (fun _ => 0))), (mn, .inl (cI, 64, .inl (fun _ => 0))), (mc, .inl (cI, 64, .inl (fun _ => 0)))])) (va_Qv (S := Nat → Nat) (fun _ => True) (fun u t => va_P (dC, dI) vwC [(m0, .inr (4, [.int 0, .ref md, .int 0, .int (-1), .int 0, .ref mh, .ref mn, .ref mc, .int 0, .int 1, .int 0, .int 0, .ref mo, .ref mb, .ref mk, .ref ml, .ref ms, .ref mw])), (md, .inl (cI, 384, .inl MW0))] t.heap ∧ va_D (va_A [(m0, .inr (4, [.int 0, .ref md, .int 0, .int (-1), .int 0, .ref mh, .ref mn, .ref mc, .int 0, .int 1, .int 0, .int 0, .ref mo, .ref mb, .ref mk, .ref ml, .ref ms, .ref mw])), (md, .inl (cI, 384, .inl MW0)), (mh, .inl (cZ, 64, .inl (fun _ => 0))), (mn, .inl (cI, 64, .inl (fun _ => 0))), (mc, .inl (cI, 64, .inl (fun _ => 0)))] sz) [(m0, .inr (4, [.int 0, .ref md, .int 0, .int (-1), .int 0, .ref mh, .ref mn, .ref mc, .int 0, .int 1, .int 0, .int 0, .ref mo, .ref mb, .ref mk, .ref ml, .ref ms, .ref mw])), (md, .inl (cI, 384, .inl MW0))]) (va_A [(m0, .inr (4, [.int 0, .ref md, .int 0, .int (-1), .int 0, .ref mh, .ref mn, .ref mc, .int 0, .int 1, .int 0, .int 0, .ref mo, .ref mb, .ref mk, .ref ml, .ref ms, .ref mw])), (md, .inl (cI, 384, .inl MW0)), (mh, .inl (cZ, 64, .inl (fun _ => 0))), (mn, .inl (cI, 64, .inl (fun _ => 0))), (mc, .inl (cI, 64, .inl (fun _ => 0)))] sz)) 0 0 (va_A [(m0, .inr (4, [.int 0, .ref md, .int 0, .int (-1), .int 0, .ref mh, .ref mn, .ref mc, .int 0, .int 1, .int 0, .int 0, .ref mo, .ref mb, .ref mk, .ref ml, .ref ms, .ref mw])), (md, .inl (cI, 384, .inl MW0)), (mh, .inl (cZ, 64, .inl (fun _ => 0))), (mn, .inl (cI, 64, .inl (fun _ => 0))), (mc, .inl (cI, 64, .inl (fun _ => 0)))] sz) := by
  refine Met.ofW (cc := cM_takeArea) (maxL := 5) (ret := none) (by decide) rfl ?_
  intro p e s m args below meth c s₁ B hml hv
  obtain ⟨rfl, hsz, hP, hKK, hD0⟩ := hv
  have hK := hKK.1
  have hx := B.exec
  have hb := B.bytes
  have hr := B.returns
  have hw : ∀ w ∈ wsA, w.before _ s = true := fun w h => atoms_spec (ws := (Cond.code yM_takeArea cM_takeArea 5 none :: wsA)) B.pre w (List.mem_cons_of_mem _ h)
  have hown : s.vm.findClass "LoggedStoreModel" = some m.cls := findClass_of_methodNamed B.named
  have hlocks := B.notSynchronized
  subst hsz
  have hD := hD0.self (sz := s.heap.size)
  generalize hAe : va_A [(m0, .inr (4, [.int 0, .ref md, .int 0, .int (-1), .int 0, .ref mh, .ref mn, .ref mc, .int 0, .int 1, .int 0, .int 0, .ref mo, .ref mb, .ref mk, .ref ml, .ref ms, .ref mw])), (md, .inl (cI, 384, .inl MW0)), (mh, .inl (cZ, 64, .inl (fun _ => 0))), (mn, .inl (cI, 64, .inl (fun _ => 0))), (mc, .inl (cI, 64, .inl (fun _ => 0)))] s.heap.size = A at hD ⊢
  have hA : ∀ q : Nat, s.heap.size ≤ q → A q := fun q h => by rw [← hAe]; exact Or.inr h
  have hS : va_S A s.heap s.heap [] := va_S.rf
  have hl := lv_entry ([.ref m0, .int 0]) (n := 5) (Nat.le_of_ble_eq_true rfl)
  rw [lg_entry_eq]
  generalize (lg_sl ([.ref m0, .int 0]) ++ List.replicate (5 - (lg_sl ([.ref m0, .int 0])).length) Slot.unset).toArray = ls at hl ⊢
  have hl : lv_has ls 5 [(0, .ref m0), (1, .int 0)] := hl
  refine lv_aload_n hx hb dM_takeArea_0 rfl (lv_at hl 0 rfl) ?_
  refine lv_aload_n hx hb dM_takeArea_1 rfl (lv_at hl 0 rfl) ?_
  refine va_get (D := (dC, dI)) (ci := 4) (v := .ref md) (C := "LoggedStoreModel") (T := uM) (N := 18) hx hb hw inM hown hK hP 0 rfl rfl 1 (by decide) (hw _ w613) (fun _ h9 => h9) rfl dM_takeArea_2 ?_
  refine lv_iconst (v := 4) hx hb dM_takeArea_5 (by decide) ?_
  refine lv_iload_n hx hb dM_takeArea_6 rfl (lv_at hl 1 rfl) ?_
  refine lv_imul hx hb dM_takeArea_7 ?_
  refine lv_topi (nm_r (e' := 0) (by decide +kernel) ?_)
  refine va_iald hx hb hK hP 1 0 rfl rfl (tv_in (by decide +kernel)) dM_takeArea_8 ?_
  refine lv_topi (nm_r (e' := 1) (by decide +kernel) ?_)
  refine va_put (D := (dC, dI)) (ci := 4) (v := .int 1) (ty := .int) (C := "LoggedStoreModel") (T := uM) (N := 18) hx hb hw inM tyM tyM_ok nmM hown hK hP hD hS 0 rfl rfl 9 (by decide) (hw _ w621) (fun _ h9 => h9) rfl (by decide +kernel) rfl rfl (Nat.le_of_ble_eq_true rfl) dM_takeArea_9 (fun H locs hP hD hS => ?_)
  have hP : va_P (dC, dI) vwC [(m0, .inr (4, [.int 0, .ref md, .int 0, .int (-1), .int 0, .ref mh, .ref mn, .ref mc, .int 0, .int 1, .int 0, .int 0, .ref mo, .ref mb, .ref mk, .ref ml, .ref ms, .ref mw])), (md, .inl (cI, 384, .inl MW0)), (mh, .inl (cZ, 64, .inl (fun _ => 0))), (mn, .inl (cI, 64, .inl (fun _ => 0))), (mc, .inl (cI, 64, .inl (fun _ => 0)))] H := hP
  have hD : va_D A [(m0, .inr (4, [.int 0, .ref md, .int 0, .int (-1), .int 0, .ref mh, .ref mn, .ref mc, .int 0, .int 1, .int 0, .int 0, .ref mo, .ref mb, .ref mk, .ref ml, .ref ms, .ref mw])), (md, .inl (cI, 384, .inl MW0)), (mh, .inl (cZ, 64, .inl (fun _ => 0))), (mn, .inl (cI, 64, .inl (fun _ => 0))), (mc, .inl (cI, 64, .inl (fun _ => 0)))] := hD
  refine lv_aload_n hx hb dM_takeArea_12 rfl (lv_at hl 0 rfl) ?_
  refine lv_aload_n hx hb dM_takeArea_13 rfl (lv_at hl 0 rfl) ?_
  refine va_get (D := (dC, dI)) (ci := 4) (v := .ref md) (C := "LoggedStoreModel") (T := uM) (N := 18) hx hb hw inM hown hK hP 0 rfl rfl 1 (by decide) (hw _ w613) (fun _ h9 => h9) rfl dM_takeArea_14 ?_
  refine lv_iconst (v := 4) hx hb dM_takeArea_17 (by decide) ?_
  refine lv_iload_n hx hb dM_takeArea_18 rfl (lv_at hl 1 rfl) ?_
  refine lv_imul hx hb dM_takeArea_19 ?_
  refine lv_topi (nm_r (e' := 0) (by decide +kernel) ?_)
  refine lv_iconst (v := 1) hx hb dM_takeArea_20 (by decide) ?_
  refine lv_iadd hx hb dM_takeArea_21 ?_
  refine lv_topi (nm_r (e' := 1) (by decide +kernel) ?_)
  refine va_iald hx hb hK hP 1 0 rfl rfl (tv_in (by decide +kernel)) dM_takeArea_22 ?_
  refine lv_topi (nm_r (e' := 0) (by decide +kernel) ?_)
  refine lv_bipush (v := 64) hx hb dM_takeArea_23 (by decide) ?_
  refine lv_idiv hx hb dM_takeArea_25 (by decide) ?_
  refine lv_topi (nm_r (e' := 0) (by decide +kernel) ?_)
  refine va_put (D := (dC, dI)) (ci := 4) (v := .int 0) (ty := .int) (C := "LoggedStoreModel") (T := uM) (N := 18) hx hb hw inM tyM tyM_ok nmM hown hK hP hD hS 0 rfl rfl 10 (by decide) (hw _ w622) (fun _ h9 => h9) rfl (by decide +kernel) rfl rfl (Nat.le_of_ble_eq_true rfl) dM_takeArea_26 (fun H locs hP hD hS => ?_)
  have hP : va_P (dC, dI) vwC [(m0, .inr (4, [.int 0, .ref md, .int 0, .int (-1), .int 0, .ref mh, .ref mn, .ref mc, .int 0, .int 1, .int 0, .int 0, .ref mo, .ref mb, .ref mk, .ref ml, .ref ms, .ref mw])), (md, .inl (cI, 384, .inl MW0)), (mh, .inl (cZ, 64, .inl (fun _ => 0))), (mn, .inl (cI, 64, .inl (fun _ => 0))), (mc, .inl (cI, 64, .inl (fun _ => 0)))] H := hP
  have hD : va_D A [(m0, .inr (4, [.int 0, .ref md, .int 0, .int (-1), .int 0, .ref mh, .ref mn, .ref mc, .int 0, .int 1, .int 0, .int 0, .ref mo, .ref mb, .ref mk, .ref ml, .ref ms, .ref mw])), (md, .inl (cI, 384, .inl MW0)), (mh, .inl (cZ, 64, .inl (fun _ => 0))), (mn, .inl (cI, 64, .inl (fun _ => 0))), (mc, .inl (cI, 64, .inl (fun _ => 0)))] := hD
  refine lv_aload_n hx hb dM_takeArea_29 rfl (lv_at hl 0 rfl) ?_
  refine va_get (D := (dC, dI)) (ci := 4) (v := .ref md) (C := "LoggedStoreModel") (T := uM) (N := 18) hx hb hw inM hown hK hP 0 rfl rfl 1 (by decide) (hw _ w613) (fun _ h9 => h9) rfl dM_takeArea_30 ?_
  refine lv_iconst (v := 4) hx hb dM_takeArea_33 (by decide) ?_
  refine lv_iload_n hx hb dM_takeArea_34 rfl (lv_at hl 1 rfl) ?_
  refine lv_imul hx hb dM_takeArea_35 ?_
  refine lv_topi (nm_r (e' := 0) (by decide +kernel) ?_)
  refine lv_iconst (v := 1) hx hb dM_takeArea_36 (by decide) ?_
  refine lv_iadd hx hb dM_takeArea_37 ?_
  refine lv_topi (nm_r (e' := 1) (by decide +kernel) ?_)
  refine va_iald hx hb hK hP 1 0 rfl rfl (tv_in (by decide +kernel)) dM_takeArea_38 ?_
  refine lv_topi (nm_r (e' := 0) (by decide +kernel) ?_)
  refine lv_bipush (v := 64) hx hb dM_takeArea_39 (by decide) ?_
  refine lv_irem hx hb dM_takeArea_41 (by decide) ?_
  refine lv_topi (nm_r (e' := 0) (by decide +kernel) ?_)
  refine lv_istore_n hx hb dM_takeArea_42 rfl hl (by decide) rfl (fun ls hl => ?_)
  have hl : lv_has ls 5 [(2, .int 0), (0, .ref m0), (1, .int 0)] := hl
  refine lv_aload_n hx hb dM_takeArea_43 rfl (lv_at hl 1 rfl) ?_
  refine lv_aload_n hx hb dM_takeArea_44 rfl (lv_at hl 1 rfl) ?_
  refine va_get (D := (dC, dI)) (ci := 4) (v := .ref md) (C := "LoggedStoreModel") (T := uM) (N := 18) hx hb hw inM hown hK hP 0 rfl rfl 1 (by decide) (hw _ w613) (fun _ h9 => h9) rfl dM_takeArea_45 ?_
  refine lv_iconst (v := 4) hx hb dM_takeArea_48 (by decide) ?_
  refine lv_iload_n hx hb dM_takeArea_49 rfl (lv_at hl 2 rfl) ?_
  refine lv_imul hx hb dM_takeArea_50 ?_
  refine lv_topi (nm_r (e' := 0) (by decide +kernel) ?_)
  refine lv_iconst (v := 2) hx hb dM_takeArea_51 (by decide) ?_
  refine lv_iadd hx hb dM_takeArea_52 ?_
  refine lv_topi (nm_r (e' := 2) (by decide +kernel) ?_)
  refine va_iald hx hb hK hP 1 0 rfl rfl (tv_in (by decide +kernel)) dM_takeArea_53 ?_
  refine lv_topi (nm_r (e' := 0) (by decide +kernel) ?_)
  refine va_put (D := (dC, dI)) (ci := 4) (v := .int 0) (ty := .int) (C := "LoggedStoreModel") (T := uM) (N := 18) hx hb hw inM tyM tyM_ok nmM hown hK hP hD hS 0 rfl rfl 8 (by decide) (hw _ w620) (fun _ h9 => h9) rfl (by decide +kernel) rfl rfl (Nat.le_of_ble_eq_true rfl) dM_takeArea_54 (fun H locs hP hD hS => ?_)
  have hP : va_P (dC, dI) vwC [(m0, .inr (4, [.int 0, .ref md, .int 0, .int (-1), .int 0, .ref mh, .ref mn, .ref mc, .int 0, .int 1, .int 0, .int 0, .ref mo, .ref mb, .ref mk, .ref ml, .ref ms, .ref mw])), (md, .inl (cI, 384, .inl MW0)), (mh, .inl (cZ, 64, .inl (fun _ => 0))), (mn, .inl (cI, 64, .inl (fun _ => 0))), (mc, .inl (cI, 64, .inl (fun _ => 0)))] H := hP
  have hD : va_D A [(m0, .inr (4, [.int 0, .ref md, .int 0, .int (-1), .int 0, .ref mh, .ref mn, .ref mc, .int 0, .int 1, .int 0, .int 0, .ref mo, .ref mb, .ref mk, .ref ml, .ref ms, .ref mw])), (md, .inl (cI, 384, .inl MW0)), (mh, .inl (cZ, 64, .inl (fun _ => 0))), (mn, .inl (cI, 64, .inl (fun _ => 0))), (mc, .inl (cI, 64, .inl (fun _ => 0)))] := hD
  refine lv_iconst (v := 0) hx hb dM_takeArea_57 (by decide) ?_
  refine lv_istore_n hx hb dM_takeArea_58 rfl hl (by decide) rfl (fun ls hl => ?_)
  have hl : lv_has ls 5 [(3, .int 0), (2, .int 0), (0, .ref m0), (1, .int 0)] := hl
  refine tk_forW (nL := 5) (D := (dC, dI)) (cl := vwC) (A := A) (H0 := s.heap) (σ := (Nat → Int32) × (Nat → Int32) × (Nat → Int32)) (G := fun ls H locs => W p l e _ s m _ below meth c H locs _ _ _ (F0 m 59 ls [])) (fun i => [(3, .int (nI i)), (2, .int 0), (0, .ref m0), (1, .int 0)]) (fun z => [(m0, .inr (4, [.int 0, .ref md, .int 0, .int (-1), .int 0, .ref mh, .ref mn, .ref mc, .int 0, .int 1, .int 0, .int 0, .ref mo, .ref mb, .ref mk, .ref ml, .ref ms, .ref mw])), (md, .inl (cI, 384, .inl MW0)), (mh, .inl (cZ, 64, .inl z.1)), (mn, .inl (cI, 64, .inl z.2.1)), (mc, .inl (cI, 64, .inl z.2.2))]) 64 ?_ ?_ (fun _ => 0, fun _ => 0, fun _ => 0) ls H locs hl hP hD hS
  · intro z ls H locs hl hP hD hS
    have hl : lv_has ls 5 [(3, .int (nI 64)), (2, .int 0), (0, .ref m0), (1, .int 0)] := hl
    have hP : va_P (dC, dI) vwC [(m0, .inr (4, [.int 0, .ref md, .int 0, .int (-1), .int 0, .ref mh, .ref mn, .ref mc, .int 0, .int 1, .int 0, .int 0, .ref mo, .ref mb, .ref mk, .ref ml, .ref ms, .ref mw])), (md, .inl (cI, 384, .inl MW0)), (mh, .inl (cZ, 64, .inl z.1)), (mn, .inl (cI, 64, .inl z.2.1)), (mc, .inl (cI, 64, .inl z.2.2))] H := hP
    have hD : va_D A [(m0, .inr (4, [.int 0, .ref md, .int 0, .int (-1), .int 0, .ref mh, .ref mn, .ref mc, .int 0, .int 1, .int 0, .int 0, .ref mo, .ref mb, .ref mk, .ref ml, .ref ms, .ref mw])), (md, .inl (cI, 384, .inl MW0)), (mh, .inl (cZ, 64, .inl z.1)), (mn, .inl (cI, 64, .inl z.2.1)), (mc, .inl (cI, 64, .inl z.2.2))] := hD
    refine lv_iload_n hx hb dM_takeArea_59 rfl (lv_at hl 0 rfl) ?_
    refine lv_bipush (v := 64) hx hb dM_takeArea_60 (by decide) ?_
    refine lv_icmp_ge (tgt := 92) hx hb dM_takeArea_62 (by decide) (fun _ => ?_) (fun h9 => absurd (by decide +kernel) h9)
    refine lv_iconst (v := 0) hx hb dM_takeArea_92 (by decide) ?_
    refine lv_istore_n hx hb dM_takeArea_93 rfl hl (by decide) rfl (fun ls hl => ?_)
    have hl : lv_has ls 5 [(3, .int 0), (2, .int 0), (0, .ref m0), (1, .int 0)] := hl
    refine lv_iload_n hx hb dM_takeArea_94 rfl (lv_at hl 0 rfl) ?_
    refine lv_iload_n hx hb dM_takeArea_95 rfl (lv_at hl 1 rfl) ?_
    refine lv_icmp_ge (tgt := 162) hx hb dM_takeArea_96 (by decide) (fun _ => ?_) (fun h9 => absurd (by decide) h9)
    have hP9 := hP.sub (ws' := [(m0, .inr (4, [.int 0, .ref md, .int 0, .int (-1), .int 0, .ref mh, .ref mn, .ref mc, .int 0, .int 1, .int 0, .int 0, .ref mo, .ref mb, .ref mk, .ref ml, .ref ms, .ref mw])), (md, .inl (cI, 384, .inl MW0))]) [0, 1] rfl
    have hD9 := hD.sub (ws' := [(m0, .inr (4, [.int 0, .ref md, .int 0, .int (-1), .int 0, .ref mh, .ref mn, .ref mc, .int 0, .int 1, .int 0, .int 0, .ref mo, .ref mb, .ref mk, .ref ml, .ref ms, .ref mw])), (md, .inl (cI, 384, .inl MW0))]) [0, 1] (by decide) rfl
    refine W.widen (k := 0) (n := 0) (by decide) (by decide) ?_
    exact W.vret hx hb hr (fun t ht hW => ⟨⟨fun _ => 0, rfl, trivial, by rw [ht]; exact hP9, hD9⟩, hS.F ht⟩) hS.2.2 dM_takeArea_162
  · intro i hi z ls H locs hl hP hD hS ih
    have hl : lv_has ls 5 [(3, .int (nI i)), (2, .int 0), (0, .ref m0), (1, .int 0)] := hl
    have hP : va_P (dC, dI) vwC [(m0, .inr (4, [.int 0, .ref md, .int 0, .int (-1), .int 0, .ref mh, .ref mn, .ref mc, .int 0, .int 1, .int 0, .int 0, .ref mo, .ref mb, .ref mk, .ref ml, .ref ms, .ref mw])), (md, .inl (cI, 384, .inl MW0)), (mh, .inl (cZ, 64, .inl z.1)), (mn, .inl (cI, 64, .inl z.2.1)), (mc, .inl (cI, 64, .inl z.2.2))] H := hP
    have hD : va_D A [(m0, .inr (4, [.int 0, .ref md, .int 0, .int (-1), .int 0, .ref mh, .ref mn, .ref mc, .int 0, .int 1, .int 0, .int 0, .ref mo, .ref mb, .ref mk, .ref ml, .ref ms, .ref mw])), (md, .inl (cI, 384, .inl MW0)), (mh, .inl (cZ, 64, .inl z.1)), (mn, .inl (cI, 64, .inl z.2.1)), (mc, .inl (cI, 64, .inl z.2.2))] := hD
    refine lv_iload_n hx hb dM_takeArea_59 rfl (lv_at hl 0 rfl) ?_
    refine lv_bipush (v := 64) hx hb dM_takeArea_60 (by decide) ?_
    refine lv_icmp_ge (tgt := 92) hx hb dM_takeArea_62 (by decide) (fun h9 => absurd h9 (nI_ge hi (by decide))) (fun _ => ?_)
    refine lv_aload_n hx hb dM_takeArea_65 rfl (lv_at hl 2 rfl) ?_
    refine va_get (D := (dC, dI)) (ci := 4) (v := .ref mh) (C := "LoggedStoreModel") (T := uM) (N := 18) hx hb hw inM hown hK hP 0 rfl rfl 5 (by decide) (hw _ w617) (fun _ h9 => h9) rfl dM_takeArea_66 ?_
    refine lv_iload_n hx hb dM_takeArea_69 rfl (lv_at hl 0 rfl) ?_
    refine lv_iconst (v := 0) hx hb dM_takeArea_70 (by decide) ?_
    refine va_zast hx hb hK hP hD hS 2 1 rfl rfl (vp_in_nI hi (by decide)) dM_takeArea_71 (fun H locs hP hD hS => ?_)
    have hP : va_P (dC, dI) vwC [(m0, .inr (4, [.int 0, .ref md, .int 0, .int (-1), .int 0, .ref mh, .ref mn, .ref mc, .int 0, .int 1, .int 0, .int 0, .ref mo, .ref mb, .ref mk, .ref ml, .ref ms, .ref mw])), (md, .inl (cI, 384, .inl MW0)), (mh, .inl (cZ, 64, .inl (upd z.1 (nI i : Int32).toNatClampNeg (vp_nar .boolean 0)))), (mn, .inl (cI, 64, .inl z.2.1)), (mc, .inl (cI, 64, .inl z.2.2))] H := hP
    have hD : va_D A [(m0, .inr (4, [.int 0, .ref md, .int 0, .int (-1), .int 0, .ref mh, .ref mn, .ref mc, .int 0, .int 1, .int 0, .int 0, .ref mo, .ref mb, .ref mk, .ref ml, .ref ms, .ref mw])), (md, .inl (cI, 384, .inl MW0)), (mh, .inl (cZ, 64, .inl (upd z.1 (nI i : Int32).toNatClampNeg (vp_nar .boolean 0)))), (mn, .inl (cI, 64, .inl z.2.1)), (mc, .inl (cI, 64, .inl z.2.2))] := hD
    refine lv_aload_n hx hb dM_takeArea_72 rfl (lv_at hl 2 rfl) ?_
    refine va_get (D := (dC, dI)) (ci := 4) (v := .ref mn) (C := "LoggedStoreModel") (T := uM) (N := 18) hx hb hw inM hown hK hP 0 rfl rfl 6 (by decide) (hw _ w618) (fun _ h9 => h9) rfl dM_takeArea_73 ?_
    refine lv_iload_n hx hb dM_takeArea_76 rfl (lv_at hl 0 rfl) ?_
    refine lv_iconst (v := 0) hx hb dM_takeArea_77 (by decide) ?_
    refine va_iast hx hb hK hP hD hS 3 0 rfl rfl (vp_in_nI hi (by decide)) dM_takeArea_78 (fun H locs hP hD hS => ?_)
    have hP : va_P (dC, dI) vwC [(m0, .inr (4, [.int 0, .ref md, .int 0, .int (-1), .int 0, .ref mh, .ref mn, .ref mc, .int 0, .int 1, .int 0, .int 0, .ref mo, .ref mb, .ref mk, .ref ml, .ref ms, .ref mw])), (md, .inl (cI, 384, .inl MW0)), (mh, .inl (cZ, 64, .inl (upd z.1 (nI i : Int32).toNatClampNeg (vp_nar .boolean 0)))), (mn, .inl (cI, 64, .inl (upd z.2.1 (nI i : Int32).toNatClampNeg 0))), (mc, .inl (cI, 64, .inl z.2.2))] H := hP
    have hD : va_D A [(m0, .inr (4, [.int 0, .ref md, .int 0, .int (-1), .int 0, .ref mh, .ref mn, .ref mc, .int 0, .int 1, .int 0, .int 0, .ref mo, .ref mb, .ref mk, .ref ml, .ref ms, .ref mw])), (md, .inl (cI, 384, .inl MW0)), (mh, .inl (cZ, 64, .inl (upd z.1 (nI i : Int32).toNatClampNeg (vp_nar .boolean 0)))), (mn, .inl (cI, 64, .inl (upd z.2.1 (nI i : Int32).toNatClampNeg 0))), (mc, .inl (cI, 64, .inl z.2.2))] := hD
    refine lv_aload_n hx hb dM_takeArea_79 rfl (lv_at hl 2 rfl) ?_
    refine va_get (D := (dC, dI)) (ci := 4) (v := .ref mc) (C := "LoggedStoreModel") (T := uM) (N := 18) hx hb hw inM hown hK hP 0 rfl rfl 7 (by decide) (hw _ w619) (fun _ h9 => h9) rfl dM_takeArea_80 ?_
    refine lv_iload_n hx hb dM_takeArea_83 rfl (lv_at hl 0 rfl) ?_
    refine lv_iconst (v := 0) hx hb dM_takeArea_84 (by decide) ?_
    refine va_iast hx hb hK hP hD hS 4 0 rfl rfl (vp_in_nI hi (by decide)) dM_takeArea_85 (fun H locs hP hD hS => ?_)
    have hP : va_P (dC, dI) vwC [(m0, .inr (4, [.int 0, .ref md, .int 0, .int (-1), .int 0, .ref mh, .ref mn, .ref mc, .int 0, .int 1, .int 0, .int 0, .ref mo, .ref mb, .ref mk, .ref ml, .ref ms, .ref mw])), (md, .inl (cI, 384, .inl MW0)), (mh, .inl (cZ, 64, .inl (upd z.1 (nI i : Int32).toNatClampNeg (vp_nar .boolean 0)))), (mn, .inl (cI, 64, .inl (upd z.2.1 (nI i : Int32).toNatClampNeg 0))), (mc, .inl (cI, 64, .inl (upd z.2.2 (nI i : Int32).toNatClampNeg 0)))] H := hP
    have hD : va_D A [(m0, .inr (4, [.int 0, .ref md, .int 0, .int (-1), .int 0, .ref mh, .ref mn, .ref mc, .int 0, .int 1, .int 0, .int 0, .ref mo, .ref mb, .ref mk, .ref ml, .ref ms, .ref mw])), (md, .inl (cI, 384, .inl MW0)), (mh, .inl (cZ, 64, .inl (upd z.1 (nI i : Int32).toNatClampNeg (vp_nar .boolean 0)))), (mn, .inl (cI, 64, .inl (upd z.2.1 (nI i : Int32).toNatClampNeg 0))), (mc, .inl (cI, 64, .inl (upd z.2.2 (nI i : Int32).toNatClampNeg 0)))] := hD
    refine lv_iinc (k := 0) (v := nI (i + 1)) hx hb dM_takeArea_86 hl rfl (nI_1 i) (by decide) rfl (fun ls hl => ?_)
    have hl : lv_has ls 5 [(3, .int (nI (i + 1))), (2, .int 0), (0, .ref m0), (1, .int 0)] := hl
    refine lv_goto (tgt := 59) hx hb dM_takeArea_89 (by decide) ?_
    exact ih (upd z.1 (nI i : Int32).toNatClampNeg (vp_nar .boolean 0), upd z.2.1 (nI i : Int32).toNatClampNeg 0, upd z.2.2 (nI i : Int32).toNatClampNeg 0) ls H locs hl hP hD hS

set_option maxHeartbeats 4000000 in
set_option maxRecDepth 100000 in
theorem c_M_takeLog (l : Launch) (dC : Nat → ClassId) (dI : Nat → Nat → Nat) (cI cZ cJ cT : ClassId) (m0 md mh mn mc mo mb mk ml ms mw : Nat) (sz : Nat) : Met l yM_takeLog (Cond.code yM_takeLog cM_takeLog 7 none :: wsA) ({ frames := 2, cells := 0, slots := 0, locals := 44 }) (va_Pc [.ref m0] (fun U => U.heap.size = sz ∧ va_P (dC, dI) vwC [(m0, .inr (4, [.int 0, .ref md, .int 0, .int (-1), .int 0, .ref mh, .ref mn, .ref mc, .int 0, .int 1, .int 0, .int 0, .ref mo, .ref mb, .ref mk, .ref ml, .ref ms, .ref mw])), (md, .inl (cI, 384, .inl MW0))] U.heap ∧ KK dC dI cI cZ cJ cT U ∧ va_D (fun _ => True) [(m0, .inr (4, [.int 0, .ref md, .int 0, .int (-1), .int 0, .ref mh, .ref mn, .ref mc, .int 0, .int 1, .int 0, .int 0, .ref mo, .ref mb, .ref mk, .ref ml, .ref ms, .ref mw])), (md, .inl (cI, 384, .inl MW0))])) (va_Qv (S := Nat → Nat) (fun _ => True) (fun u t => va_P (dC, dI) vwC [(m0, .inr (4, [.int 0, .ref md, .int 0, .int (-1), .int 0, .ref mh, .ref mn, .ref mc, .int 0, .int 1, .int 0, .int 0, .ref mo, .ref mb, .ref mk, .ref ml, .ref ms, .ref mw])), (md, .inl (cI, 384, .inl MW0))] t.heap ∧ va_D (va_A [(m0, .inr (4, [.int 0, .ref md, .int 0, .int (-1), .int 0, .ref mh, .ref mn, .ref mc, .int 0, .int 1, .int 0, .int 0, .ref mo, .ref mb, .ref mk, .ref ml, .ref ms, .ref mw])), (md, .inl (cI, 384, .inl MW0))] sz) [(m0, .inr (4, [.int 0, .ref md, .int 0, .int (-1), .int 0, .ref mh, .ref mn, .ref mc, .int 0, .int 1, .int 0, .int 0, .ref mo, .ref mb, .ref mk, .ref ml, .ref ms, .ref mw])), (md, .inl (cI, 384, .inl MW0))]) (va_A [(m0, .inr (4, [.int 0, .ref md, .int 0, .int (-1), .int 0, .ref mh, .ref mn, .ref mc, .int 0, .int 1, .int 0, .int 0, .ref mo, .ref mb, .ref mk, .ref ml, .ref ms, .ref mw])), (md, .inl (cI, 384, .inl MW0))] sz)) 0 0 (va_A [(m0, .inr (4, [.int 0, .ref md, .int 0, .int (-1), .int 0, .ref mh, .ref mn, .ref mc, .int 0, .int 1, .int 0, .int 0, .ref mo, .ref mb, .ref mk, .ref ml, .ref ms, .ref mw])), (md, .inl (cI, 384, .inl MW0))] sz) := by
  refine Met.ofW (cc := cM_takeLog) (maxL := 7) (ret := none) (by decide) rfl ?_
  intro p e s m args below meth c s₁ B hml hv
  obtain ⟨rfl, hsz, hP, hKK, hD0⟩ := hv
  have hK := hKK.1
  have hx := B.exec
  have hb := B.bytes
  have hr := B.returns
  have hw : ∀ w ∈ wsA, w.before _ s = true := fun w h => atoms_spec (ws := (Cond.code yM_takeLog cM_takeLog 7 none :: wsA)) B.pre w (List.mem_cons_of_mem _ h)
  have hown : s.vm.findClass "LoggedStoreModel" = some m.cls := findClass_of_methodNamed B.named
  have hlocks := B.notSynchronized
  subst hsz
  have hD := hD0.self (sz := s.heap.size)
  generalize hAe : va_A [(m0, .inr (4, [.int 0, .ref md, .int 0, .int (-1), .int 0, .ref mh, .ref mn, .ref mc, .int 0, .int 1, .int 0, .int 0, .ref mo, .ref mb, .ref mk, .ref ml, .ref ms, .ref mw])), (md, .inl (cI, 384, .inl MW0))] s.heap.size = A at hD ⊢
  have hA : ∀ q : Nat, s.heap.size ≤ q → A q := fun q h => by rw [← hAe]; exact Or.inr h
  have hS : va_S A s.heap s.heap [] := va_S.rf
  have hl := lv_entry ([.ref m0]) (n := 7) (Nat.le_of_ble_eq_true rfl)
  rw [lg_entry_eq]
  generalize (lg_sl ([.ref m0]) ++ List.replicate (7 - (lg_sl ([.ref m0])).length) Slot.unset).toArray = ls at hl ⊢
  have hl : lv_has ls 7 [(0, .ref m0)] := hl
  refine lv_aload_n hx hb dM_takeLog_0 rfl (lv_at hl 0 rfl) ?_
  refine lv_iconst (v := 0) hx hb dM_takeLog_1 (by decide) ?_
  refine va_put (D := (dC, dI)) (ci := 4) (v := .int 0) (ty := .int) (C := "LoggedStoreModel") (T := uM) (N := 18) hx hb hw inM tyM tyM_ok nmM hown hK hP hD hS 0 rfl rfl 11 (by decide) (hw _ w623) (fun _ h9 => h9) rfl (by decide +kernel) rfl rfl (Nat.le_of_ble_eq_true rfl) dM_takeLog_2 (fun H locs hP hD hS => ?_)
  have hP : va_P (dC, dI) vwC [(m0, .inr (4, [.int 0, .ref md, .int 0, .int (-1), .int 0, .ref mh, .ref mn, .ref mc, .int 0, .int 1, .int 0, .int 0, .ref mo, .ref mb, .ref mk, .ref ml, .ref ms, .ref mw])), (md, .inl (cI, 384, .inl MW0))] H := hP
  have hD : va_D A [(m0, .inr (4, [.int 0, .ref md, .int 0, .int (-1), .int 0, .ref mh, .ref mn, .ref mc, .int 0, .int 1, .int 0, .int 0, .ref mo, .ref mb, .ref mk, .ref ml, .ref ms, .ref mw])), (md, .inl (cI, 384, .inl MW0))] := hD
  refine lv_iconst (v := 0) hx hb dM_takeLog_5 (by decide) ?_
  refine lv_istore_n hx hb dM_takeLog_6 rfl hl (by decide) rfl (fun ls hl => ?_)
  have hl : lv_has ls 7 [(1, .int 0), (0, .ref m0)] := hl
  refine lv_iconst (v := 1) hx hb dM_takeLog_7 (by decide) ?_
  refine lv_istore_n hx hb dM_takeLog_8 rfl hl (by decide) rfl (fun ls hl => ?_)
  have hl : lv_has ls 7 [(2, .int 1), (1, .int 0), (0, .ref m0)] := hl
  refine lv_iconst (v := 0) hx hb dM_takeLog_9 (by decide) ?_
  refine lv_istore_n hx hb dM_takeLog_10 rfl hl (by decide) rfl (fun ls hl => ?_)
  have hl : lv_has ls 7 [(3, .int 0), (2, .int 1), (1, .int 0), (0, .ref m0)] := hl
  refine lv_iload_n hx hb dM_takeLog_11 rfl (lv_at hl 0 rfl) ?_
  refine lv_bipush (v := 74) hx hb dM_takeLog_12 (by decide) ?_
  refine lv_icmp_ge (tgt := 207) hx hb dM_takeLog_14 (by decide) (fun h9 => absurd h9 (by decide)) (fun _ => ?_)
  refine lv_iload_n hx hb dM_takeLog_17 rfl (lv_at hl 1 rfl) ?_
  refine lv_if_eq (tgt := 207) hx hb dM_takeLog_18 (by decide) (fun h9 => absurd h9 (by decide)) (fun _ => ?_)
  refine lv_bipush (v := 22) hx hb dM_takeLog_21 (by decide) ?_
  refine lv_iload_n hx hb dM_takeLog_23 rfl (lv_at hl 0 rfl) ?_
  refine lv_iadd hx hb dM_takeLog_24 ?_
  refine lv_topi (nm_r (e' := 22) (by decide +kernel) ?_)
  refine lv_istore hx hb dM_takeLog_25 hl (by decide) rfl (fun ls hl => ?_)
  have hl : lv_has ls 7 [(4, .int 22), (3, .int 0), (2, .int 1), (1, .int 0), (0, .ref m0)] := hl
  refine lv_aload_n hx hb dM_takeLog_27 rfl (lv_at hl 4 rfl) ?_
  refine va_get (D := (dC, dI)) (ci := 4) (v := .ref md) (C := "LoggedStoreModel") (T := uM) (N := 18) hx hb hw inM hown hK hP 0 rfl rfl 1 (by decide) (hw _ w613) (fun _ h9 => h9) rfl dM_takeLog_28 ?_
  refine lv_iconst (v := 4) hx hb dM_takeLog_31 (by decide) ?_
  refine lv_iload hx hb dM_takeLog_32 (lv_at hl 0 rfl) ?_
  refine lv_imul hx hb dM_takeLog_34 ?_
  refine lv_topi (nm_r (e' := 88) (by decide +kernel) ?_)
  refine va_iald hx hb hK hP 1 0 rfl rfl (tv_in (by decide +kernel)) dM_takeLog_35 ?_
  refine lv_topi (nm_r (e' := 0) (by decide +kernel) ?_)
  refine lv_iconst (v := 4) hx hb dM_takeLog_36 (by decide) ?_
  refine lv_aload_n hx hb dM_takeLog_37 rfl (lv_at hl 4 rfl) ?_
  refine va_get (D := (dC, dI)) (ci := 4) (v := .int 1) (C := "LoggedStoreModel") (T := uM) (N := 18) hx hb hw inM hown hK hP 0 rfl rfl 9 (by decide) (hw _ w621) (fun _ h9 => h9) rfl dM_takeLog_38 ?_
  refine lv_imul hx hb dM_takeLog_41 ?_
  refine lv_topi (nm_r (e' := 4) (by decide +kernel) ?_)
  refine lv_isub hx hb dM_takeLog_42 ?_
  refine lv_topi (nm_r (e' := (-4)) (by decide +kernel) ?_)
  refine lv_istore hx hb dM_takeLog_43 hl (by decide) rfl (fun ls hl => ?_)
  have hl : lv_has ls 7 [(5, .int (-4)), (4, .int 22), (3, .int 0), (2, .int 1), (1, .int 0), (0, .ref m0)] := hl
  refine lv_aload_n hx hb dM_takeLog_45 rfl (lv_at hl 5 rfl) ?_
  refine lv_iload hx hb dM_takeLog_46 (lv_at hl 1 rfl) ?_
  have hPc := hP.sub (ws' := [(m0, .inr (4, [.int 0, .ref md, .int 0, .int (-1), .int 0, .ref mh, .ref mn, .ref mc, .int 0, .int 1, .int 0, .int 0, .ref mo, .ref mb, .ref mk, .ref ml, .ref ms, .ref mw])), (md, .inl (cI, 384, .inl MW0))]) [0, 1] rfl
  refine vp_callSi (W.runV (C := "LoggedStoreModel") (b := m0) (As := [.int 22]) (rest := []) ⟨hx, hb, hml, hown, hw⟩ (c_M_isGood22 l dC dI cI cZ cJ cT m0 md mh mn mc mo mb mk ml ms mw) ⟨callB_of 1 hw (gA0 w769) rfl rfl rfl (hw _ w45) (hw _ w766) (by decide +kernel) ⟨Nat.le_of_ble_eq_true rfl, Nat.le_of_ble_eq_true rfl⟩, (hw _ w768), (hw _ w35)⟩ ⟨kb_S, va_recv (ci := 4) (q0 := 0) hK hP rfl rfl, fun U hU hW => ⟨rfl, by rw [hU]; exact hPc, hKK.moved hW⟩⟩ rfl rfl hl.1 rfl (lv_room (Nat.le_of_ble_eq_true rfl)) dM_takeLog_48 ⟨Nat.le_of_ble_eq_true rfl, Nat.le_of_ble_eq_true rfl⟩) (fun r1 e2 => ?_)
  obtain rfl : r1 = 0 := e2
  refine lv_if_eq (tgt := 68) hx hb dM_takeLog_51 (by decide) (fun _ => ?_) (fun h9 => absurd (by decide) h9)
  refine lv_iconst (v := 0) hx hb dM_takeLog_68 (by decide) ?_
  refine lv_istore_n hx hb dM_takeLog_69 rfl hl (by decide) rfl (fun ls hl => ?_)
  have hl : lv_has ls 7 [(2, .int 0), (5, .int (-4)), (4, .int 22), (3, .int 0), (1, .int 0), (0, .ref m0)] := hl
  refine lv_iload_n hx hb dM_takeLog_70 rfl (lv_at hl 0 rfl) ?_
  refine lv_if_eq (tgt := 86) hx hb dM_takeLog_71 (by decide) (fun _ => ?_) (fun h9 => absurd (by decide) h9)
  refine lv_iload_n hx hb dM_takeLog_86 rfl (lv_at hl 0 rfl) ?_
  refine lv_if_eq (tgt := 201) hx hb dM_takeLog_87 (by decide) (fun _ => ?_) (fun h9 => absurd (by decide) h9)
  refine lv_iinc (k := 3) (v := 1) hx hb dM_takeLog_201 hl rfl (by decide +kernel) (by decide) rfl (fun ls hl => ?_)
  have hl : lv_has ls 7 [(3, .int 1), (2, .int 0), (5, .int (-4)), (4, .int 22), (1, .int 0), (0, .ref m0)] := hl
  refine lv_goto (tgt := 11) hx hb dM_takeLog_204 (by decide) ?_
  refine lv_iload_n hx hb dM_takeLog_11 rfl (lv_at hl 0 rfl) ?_
  refine lv_bipush (v := 74) hx hb dM_takeLog_12 (by decide) ?_
  refine lv_icmp_ge (tgt := 207) hx hb dM_takeLog_14 (by decide) (fun h9 => absurd h9 (by decide)) (fun _ => ?_)
  refine lv_iload_n hx hb dM_takeLog_17 rfl (lv_at hl 1 rfl) ?_
  refine lv_if_eq (tgt := 207) hx hb dM_takeLog_18 (by decide) (fun _ => ?_) (fun h9 => absurd (by decide) h9)
  have hP9 := hP.sub (ws' := [(m0, .inr (4, [.int 0, .ref md, .int 0, .int (-1), .int 0, .ref mh, .ref mn, .ref mc, .int 0, .int 1, .int 0, .int 0, .ref mo, .ref mb, .ref mk, .ref ml, .ref ms, .ref mw])), (md, .inl (cI, 384, .inl MW0))]) [0, 1] rfl
  have hD9 := hD.sub (ws' := [(m0, .inr (4, [.int 0, .ref md, .int 0, .int (-1), .int 0, .ref mh, .ref mn, .ref mc, .int 0, .int 1, .int 0, .int 0, .ref mo, .ref mb, .ref mk, .ref ml, .ref ms, .ref mw])), (md, .inl (cI, 384, .inl MW0))]) [0, 1] (by decide) rfl
  refine W.widen (k := 0) (n := 0) (by decide) (by decide) ?_
  exact W.vret hx hb hr (fun t ht hW => ⟨⟨fun _ => 0, rfl, trivial, by rw [ht]; exact hP9, hD9⟩, hS.F ht⟩) hS.2.2 dM_takeLog_207

set_option maxHeartbeats 4000000 in
set_option maxRecDepth 100000 in
theorem c_M_recover (l : Launch) (dC : Nat → ClassId) (dI : Nat → Nat → Nat) (cI cZ cJ cT : ClassId) (m0 md mh mn mc mo mb mk ml ms mw : Nat) (sz : Nat) : Met l yM_recover (Cond.code yM_recover cM_recover 3 (some .int) :: wsA) ({ frames := 3, cells := 0, slots := 0, locals := 70 }) (va_Pc [.ref m0] (fun U => U.heap.size = sz ∧ va_P (dC, dI) vwC [(m0, .inr (4, [.int 0, .ref md, .int 0, .int (-1), .int 0, .ref mh, .ref mn, .ref mc, .int 0, .int 1, .int 0, .int 0, .ref mo, .ref mb, .ref mk, .ref ml, .ref ms, .ref mw])), (md, .inl (cI, 384, .inl MW0)), (mh, .inl (cZ, 64, .inl (fun _ => 0))), (mn, .inl (cI, 64, .inl (fun _ => 0))), (mc, .inl (cI, 64, .inl (fun _ => 0))), (mo, .inl (cZ, 3, .inl (fun _ => 0)))] U.heap ∧ KK dC dI cI cZ cJ cT U ∧ va_D (fun _ => True) [(m0, .inr (4, [.int 0, .ref md, .int 0, .int (-1), .int 0, .ref mh, .ref mn, .ref mc, .int 0, .int 1, .int 0, .int 0, .ref mo, .ref mb, .ref mk, .ref ml, .ref ms, .ref mw])), (md, .inl (cI, 384, .inl MW0)), (mh, .inl (cZ, 64, .inl (fun _ => 0))), (mn, .inl (cI, 64, .inl (fun _ => 0))), (mc, .inl (cI, 64, .inl (fun _ => 0))), (mo, .inl (cZ, 3, .inl (fun _ => 0)))])) (va_Qi (S := Nat → Nat) (fun r _ => r = 0) (fun u t => va_P (dC, dI) vwC [(m0, .inr (4, [.int 0, .ref md, .int 0, .int (-1), .int 0, .ref mh, .ref mn, .ref mc, .int 0, .int 1, .int 0, .int 0, .ref mo, .ref mb, .ref mk, .ref ml, .ref ms, .ref mw]))] t.heap ∧ va_D (va_A [(m0, .inr (4, [.int 0, .ref md, .int 0, .int (-1), .int 0, .ref mh, .ref mn, .ref mc, .int 0, .int 1, .int 0, .int 0, .ref mo, .ref mb, .ref mk, .ref ml, .ref ms, .ref mw])), (md, .inl (cI, 384, .inl MW0)), (mh, .inl (cZ, 64, .inl (fun _ => 0))), (mn, .inl (cI, 64, .inl (fun _ => 0))), (mc, .inl (cI, 64, .inl (fun _ => 0))), (mo, .inl (cZ, 3, .inl (fun _ => 0)))] sz) [(m0, .inr (4, [.int 0, .ref md, .int 0, .int (-1), .int 0, .ref mh, .ref mn, .ref mc, .int 0, .int 1, .int 0, .int 0, .ref mo, .ref mb, .ref mk, .ref ml, .ref ms, .ref mw]))]) (va_A [(m0, .inr (4, [.int 0, .ref md, .int 0, .int (-1), .int 0, .ref mh, .ref mn, .ref mc, .int 0, .int 1, .int 0, .int 0, .ref mo, .ref mb, .ref mk, .ref ml, .ref ms, .ref mw])), (md, .inl (cI, 384, .inl MW0)), (mh, .inl (cZ, 64, .inl (fun _ => 0))), (mn, .inl (cI, 64, .inl (fun _ => 0))), (mc, .inl (cI, 64, .inl (fun _ => 0))), (mo, .inl (cZ, 3, .inl (fun _ => 0)))] sz)) 0 0 (va_A [(m0, .inr (4, [.int 0, .ref md, .int 0, .int (-1), .int 0, .ref mh, .ref mn, .ref mc, .int 0, .int 1, .int 0, .int 0, .ref mo, .ref mb, .ref mk, .ref ml, .ref ms, .ref mw])), (md, .inl (cI, 384, .inl MW0)), (mh, .inl (cZ, 64, .inl (fun _ => 0))), (mn, .inl (cI, 64, .inl (fun _ => 0))), (mc, .inl (cI, 64, .inl (fun _ => 0))), (mo, .inl (cZ, 3, .inl (fun _ => 0)))] sz) := by
  refine Met.ofW (cc := cM_recover) (maxL := 3) (ret := (some .int)) (by decide) rfl ?_
  intro p e s m args below meth c s₁ B hml hv
  obtain ⟨rfl, hsz, hP, hKK, hD0⟩ := hv
  have hK := hKK.1
  have hx := B.exec
  have hb := B.bytes
  have hr := B.returns
  have hw : ∀ w ∈ wsA, w.before _ s = true := fun w h => atoms_spec (ws := (Cond.code yM_recover cM_recover 3 (some .int) :: wsA)) B.pre w (List.mem_cons_of_mem _ h)
  have hown : s.vm.findClass "LoggedStoreModel" = some m.cls := findClass_of_methodNamed B.named
  have hlocks := B.notSynchronized
  subst hsz
  have hD := hD0.self (sz := s.heap.size)
  generalize hAe : va_A [(m0, .inr (4, [.int 0, .ref md, .int 0, .int (-1), .int 0, .ref mh, .ref mn, .ref mc, .int 0, .int 1, .int 0, .int 0, .ref mo, .ref mb, .ref mk, .ref ml, .ref ms, .ref mw])), (md, .inl (cI, 384, .inl MW0)), (mh, .inl (cZ, 64, .inl (fun _ => 0))), (mn, .inl (cI, 64, .inl (fun _ => 0))), (mc, .inl (cI, 64, .inl (fun _ => 0))), (mo, .inl (cZ, 3, .inl (fun _ => 0)))] s.heap.size = A at hD ⊢
  have hA : ∀ q : Nat, s.heap.size ≤ q → A q := fun q h => by rw [← hAe]; exact Or.inr h
  have hS : va_S A s.heap s.heap [] := va_S.rf
  have hl := lv_entry ([.ref m0]) (n := 3) (Nat.le_of_ble_eq_true rfl)
  rw [lg_entry_eq]
  generalize (lg_sl ([.ref m0]) ++ List.replicate (3 - (lg_sl ([.ref m0])).length) Slot.unset).toArray = ls at hl ⊢
  have hl : lv_has ls 3 [(0, .ref m0)] := hl
  refine lv_aload_n hx hb dM_recover_0 rfl (lv_at hl 0 rfl) ?_
  refine lv_iconst (v := 0) hx hb dM_recover_1 (by decide) ?_
  refine va_put (D := (dC, dI)) (ci := 4) (v := .int 0) (ty := .int) (C := "LoggedStoreModel") (T := uM) (N := 18) hx hb hw inM tyM tyM_ok nmM hown hK hP hD hS 0 rfl rfl 0 (by decide) (hw _ w612) (fun _ h9 => h9) rfl (by decide +kernel) rfl rfl (Nat.le_of_ble_eq_true rfl) dM_recover_2 (fun H locs hP hD hS => ?_)
  have hP : va_P (dC, dI) vwC [(m0, .inr (4, [.int 0, .ref md, .int 0, .int (-1), .int 0, .ref mh, .ref mn, .ref mc, .int 0, .int 1, .int 0, .int 0, .ref mo, .ref mb, .ref mk, .ref ml, .ref ms, .ref mw])), (md, .inl (cI, 384, .inl MW0)), (mh, .inl (cZ, 64, .inl (fun _ => 0))), (mn, .inl (cI, 64, .inl (fun _ => 0))), (mc, .inl (cI, 64, .inl (fun _ => 0))), (mo, .inl (cZ, 3, .inl (fun _ => 0)))] H := hP
  have hD : va_D A [(m0, .inr (4, [.int 0, .ref md, .int 0, .int (-1), .int 0, .ref mh, .ref mn, .ref mc, .int 0, .int 1, .int 0, .int 0, .ref mo, .ref mb, .ref mk, .ref ml, .ref ms, .ref mw])), (md, .inl (cI, 384, .inl MW0)), (mh, .inl (cZ, 64, .inl (fun _ => 0))), (mn, .inl (cI, 64, .inl (fun _ => 0))), (mc, .inl (cI, 64, .inl (fun _ => 0))), (mo, .inl (cZ, 3, .inl (fun _ => 0)))] := hD
  refine lv_aload_n hx hb dM_recover_5 rfl (lv_at hl 0 rfl) ?_
  refine lv_iconst (v := 0) hx hb dM_recover_6 (by decide) ?_
  refine va_put (D := (dC, dI)) (ci := 4) (v := .int 0) (ty := .boolean) (C := "LoggedStoreModel") (T := uM) (N := 18) hx hb hw inM tyM tyM_ok nmM hown hK hP hD hS 0 rfl rfl 2 (by decide) (hw _ w614) (fun _ h9 => h9) rfl (by decide +kernel) rfl rfl (Nat.le_of_ble_eq_true rfl) dM_recover_7 (fun H locs hP hD hS => ?_)
  have hP : va_P (dC, dI) vwC [(m0, .inr (4, [.int 0, .ref md, .int 0, .int (-1), .int 0, .ref mh, .ref mn, .ref mc, .int 0, .int 1, .int 0, .int 0, .ref mo, .ref mb, .ref mk, .ref ml, .ref ms, .ref mw])), (md, .inl (cI, 384, .inl MW0)), (mh, .inl (cZ, 64, .inl (fun _ => 0))), (mn, .inl (cI, 64, .inl (fun _ => 0))), (mc, .inl (cI, 64, .inl (fun _ => 0))), (mo, .inl (cZ, 3, .inl (fun _ => 0)))] H := hP
  have hD : va_D A [(m0, .inr (4, [.int 0, .ref md, .int 0, .int (-1), .int 0, .ref mh, .ref mn, .ref mc, .int 0, .int 1, .int 0, .int 0, .ref mo, .ref mb, .ref mk, .ref ml, .ref ms, .ref mw])), (md, .inl (cI, 384, .inl MW0)), (mh, .inl (cZ, 64, .inl (fun _ => 0))), (mn, .inl (cI, 64, .inl (fun _ => 0))), (mc, .inl (cI, 64, .inl (fun _ => 0))), (mo, .inl (cZ, 3, .inl (fun _ => 0)))] := hD
  refine lv_aload_n hx hb dM_recover_10 rfl (lv_at hl 0 rfl) ?_
  refine lv_iconst (v := (-1)) hx hb dM_recover_11 (by decide) ?_
  refine va_put (D := (dC, dI)) (ci := 4) (v := .int (-1)) (ty := .int) (C := "LoggedStoreModel") (T := uM) (N := 18) hx hb hw inM tyM tyM_ok nmM hown hK hP hD hS 0 rfl rfl 3 (by decide) (hw _ w615) (fun _ h9 => h9) rfl (by decide +kernel) rfl rfl (Nat.le_of_ble_eq_true rfl) dM_recover_12 (fun H locs hP hD hS => ?_)
  have hP : va_P (dC, dI) vwC [(m0, .inr (4, [.int 0, .ref md, .int 0, .int (-1), .int 0, .ref mh, .ref mn, .ref mc, .int 0, .int 1, .int 0, .int 0, .ref mo, .ref mb, .ref mk, .ref ml, .ref ms, .ref mw])), (md, .inl (cI, 384, .inl MW0)), (mh, .inl (cZ, 64, .inl (fun _ => 0))), (mn, .inl (cI, 64, .inl (fun _ => 0))), (mc, .inl (cI, 64, .inl (fun _ => 0))), (mo, .inl (cZ, 3, .inl (fun _ => 0)))] H := hP
  have hD : va_D A [(m0, .inr (4, [.int 0, .ref md, .int 0, .int (-1), .int 0, .ref mh, .ref mn, .ref mc, .int 0, .int 1, .int 0, .int 0, .ref mo, .ref mb, .ref mk, .ref ml, .ref ms, .ref mw])), (md, .inl (cI, 384, .inl MW0)), (mh, .inl (cZ, 64, .inl (fun _ => 0))), (mn, .inl (cI, 64, .inl (fun _ => 0))), (mc, .inl (cI, 64, .inl (fun _ => 0))), (mo, .inl (cZ, 3, .inl (fun _ => 0)))] := hD
  refine lv_iconst (v := 0) hx hb dM_recover_15 (by decide) ?_
  refine lv_istore_n hx hb dM_recover_16 rfl hl (by decide) rfl (fun ls hl => ?_)
  have hl : lv_has ls 3 [(1, .int 0), (0, .ref m0)] := hl
  refine lv_iload_n hx hb dM_recover_17 rfl (lv_at hl 0 rfl) ?_
  refine lv_iconst (v := 3) hx hb dM_recover_18 (by decide) ?_
  refine lv_icmp_ge (tgt := 35) hx hb dM_recover_19 (by decide) (fun h9 => absurd h9 (by decide)) (fun _ => ?_)
  refine lv_aload_n hx hb dM_recover_22 rfl (lv_at hl 1 rfl) ?_
  refine va_get (D := (dC, dI)) (ci := 4) (v := .ref mo) (C := "LoggedStoreModel") (T := uM) (N := 18) hx hb hw inM hown hK hP 0 rfl rfl 12 (by decide) (hw _ w624) (fun _ h9 => h9) rfl dM_recover_23 ?_
  refine lv_iload_n hx hb dM_recover_26 rfl (lv_at hl 0 rfl) ?_
  refine lv_iconst (v := 0) hx hb dM_recover_27 (by decide) ?_
  refine va_zast hx hb hK hP hD hS 5 1 rfl rfl (tv_in (by decide +kernel)) dM_recover_28 (fun H locs hP hD hS => ?_)
  have hP : va_P (dC, dI) vwC [(m0, .inr (4, [.int 0, .ref md, .int 0, .int (-1), .int 0, .ref mh, .ref mn, .ref mc, .int 0, .int 1, .int 0, .int 0, .ref mo, .ref mb, .ref mk, .ref ml, .ref ms, .ref mw])), (md, .inl (cI, 384, .inl MW0)), (mh, .inl (cZ, 64, .inl (fun _ => 0))), (mn, .inl (cI, 64, .inl (fun _ => 0))), (mc, .inl (cI, 64, .inl (fun _ => 0))), (mo, .inl (cZ, 3, .inl (upd (fun _ => 0) (0 : Int32).toNatClampNeg (vp_nar .boolean 0))))] H := hP
  have hD : va_D A [(m0, .inr (4, [.int 0, .ref md, .int 0, .int (-1), .int 0, .ref mh, .ref mn, .ref mc, .int 0, .int 1, .int 0, .int 0, .ref mo, .ref mb, .ref mk, .ref ml, .ref ms, .ref mw])), (md, .inl (cI, 384, .inl MW0)), (mh, .inl (cZ, 64, .inl (fun _ => 0))), (mn, .inl (cI, 64, .inl (fun _ => 0))), (mc, .inl (cI, 64, .inl (fun _ => 0))), (mo, .inl (cZ, 3, .inl (upd (fun _ => 0) (0 : Int32).toNatClampNeg (vp_nar .boolean 0))))] := hD
  refine lv_iinc (k := 0) (v := 1) hx hb dM_recover_29 hl rfl (by decide +kernel) (by decide) rfl (fun ls hl => ?_)
  have hl : lv_has ls 3 [(1, .int 1), (0, .ref m0)] := hl
  refine lv_goto (tgt := 17) hx hb dM_recover_32 (by decide) ?_
  refine lv_iload_n hx hb dM_recover_17 rfl (lv_at hl 0 rfl) ?_
  refine lv_iconst (v := 3) hx hb dM_recover_18 (by decide) ?_
  refine lv_icmp_ge (tgt := 35) hx hb dM_recover_19 (by decide) (fun h9 => absurd h9 (by decide)) (fun _ => ?_)
  refine lv_aload_n hx hb dM_recover_22 rfl (lv_at hl 1 rfl) ?_
  refine va_get (D := (dC, dI)) (ci := 4) (v := .ref mo) (C := "LoggedStoreModel") (T := uM) (N := 18) hx hb hw inM hown hK hP 0 rfl rfl 12 (by decide) (hw _ w624) (fun _ h9 => h9) rfl dM_recover_23 ?_
  refine lv_iload_n hx hb dM_recover_26 rfl (lv_at hl 0 rfl) ?_
  refine lv_iconst (v := 0) hx hb dM_recover_27 (by decide) ?_
  refine va_zast hx hb hK hP hD hS 5 1 rfl rfl (tv_in (by decide +kernel)) dM_recover_28 (fun H locs hP hD hS => ?_)
  have hP : va_P (dC, dI) vwC [(m0, .inr (4, [.int 0, .ref md, .int 0, .int (-1), .int 0, .ref mh, .ref mn, .ref mc, .int 0, .int 1, .int 0, .int 0, .ref mo, .ref mb, .ref mk, .ref ml, .ref ms, .ref mw])), (md, .inl (cI, 384, .inl MW0)), (mh, .inl (cZ, 64, .inl (fun _ => 0))), (mn, .inl (cI, 64, .inl (fun _ => 0))), (mc, .inl (cI, 64, .inl (fun _ => 0))), (mo, .inl (cZ, 3, .inl (upd (upd (fun _ => 0) (0 : Int32).toNatClampNeg (vp_nar .boolean 0)) (1 : Int32).toNatClampNeg (vp_nar .boolean 0))))] H := hP
  have hD : va_D A [(m0, .inr (4, [.int 0, .ref md, .int 0, .int (-1), .int 0, .ref mh, .ref mn, .ref mc, .int 0, .int 1, .int 0, .int 0, .ref mo, .ref mb, .ref mk, .ref ml, .ref ms, .ref mw])), (md, .inl (cI, 384, .inl MW0)), (mh, .inl (cZ, 64, .inl (fun _ => 0))), (mn, .inl (cI, 64, .inl (fun _ => 0))), (mc, .inl (cI, 64, .inl (fun _ => 0))), (mo, .inl (cZ, 3, .inl (upd (upd (fun _ => 0) (0 : Int32).toNatClampNeg (vp_nar .boolean 0)) (1 : Int32).toNatClampNeg (vp_nar .boolean 0))))] := hD
  refine lv_iinc (k := 0) (v := 2) hx hb dM_recover_29 hl rfl (by decide +kernel) (by decide) rfl (fun ls hl => ?_)
  have hl : lv_has ls 3 [(1, .int 2), (0, .ref m0)] := hl
  refine lv_goto (tgt := 17) hx hb dM_recover_32 (by decide) ?_
  refine lv_iload_n hx hb dM_recover_17 rfl (lv_at hl 0 rfl) ?_
  refine lv_iconst (v := 3) hx hb dM_recover_18 (by decide) ?_
  refine lv_icmp_ge (tgt := 35) hx hb dM_recover_19 (by decide) (fun h9 => absurd h9 (by decide)) (fun _ => ?_)
  refine lv_aload_n hx hb dM_recover_22 rfl (lv_at hl 1 rfl) ?_
  refine va_get (D := (dC, dI)) (ci := 4) (v := .ref mo) (C := "LoggedStoreModel") (T := uM) (N := 18) hx hb hw inM hown hK hP 0 rfl rfl 12 (by decide) (hw _ w624) (fun _ h9 => h9) rfl dM_recover_23 ?_
  refine lv_iload_n hx hb dM_recover_26 rfl (lv_at hl 0 rfl) ?_
  refine lv_iconst (v := 0) hx hb dM_recover_27 (by decide) ?_
  refine va_zast hx hb hK hP hD hS 5 1 rfl rfl (tv_in (by decide +kernel)) dM_recover_28 (fun H locs hP hD hS => ?_)
  have hP : va_P (dC, dI) vwC [(m0, .inr (4, [.int 0, .ref md, .int 0, .int (-1), .int 0, .ref mh, .ref mn, .ref mc, .int 0, .int 1, .int 0, .int 0, .ref mo, .ref mb, .ref mk, .ref ml, .ref ms, .ref mw])), (md, .inl (cI, 384, .inl MW0)), (mh, .inl (cZ, 64, .inl (fun _ => 0))), (mn, .inl (cI, 64, .inl (fun _ => 0))), (mc, .inl (cI, 64, .inl (fun _ => 0))), (mo, .inl (cZ, 3, .inl (upd (upd (upd (fun _ => 0) (0 : Int32).toNatClampNeg (vp_nar .boolean 0)) (1 : Int32).toNatClampNeg (vp_nar .boolean 0)) (2 : Int32).toNatClampNeg (vp_nar .boolean 0))))] H := hP
  have hD : va_D A [(m0, .inr (4, [.int 0, .ref md, .int 0, .int (-1), .int 0, .ref mh, .ref mn, .ref mc, .int 0, .int 1, .int 0, .int 0, .ref mo, .ref mb, .ref mk, .ref ml, .ref ms, .ref mw])), (md, .inl (cI, 384, .inl MW0)), (mh, .inl (cZ, 64, .inl (fun _ => 0))), (mn, .inl (cI, 64, .inl (fun _ => 0))), (mc, .inl (cI, 64, .inl (fun _ => 0))), (mo, .inl (cZ, 3, .inl (upd (upd (upd (fun _ => 0) (0 : Int32).toNatClampNeg (vp_nar .boolean 0)) (1 : Int32).toNatClampNeg (vp_nar .boolean 0)) (2 : Int32).toNatClampNeg (vp_nar .boolean 0))))] := hD
  refine lv_iinc (k := 0) (v := 3) hx hb dM_recover_29 hl rfl (by decide +kernel) (by decide) rfl (fun ls hl => ?_)
  have hl : lv_has ls 3 [(1, .int 3), (0, .ref m0)] := hl
  refine lv_goto (tgt := 17) hx hb dM_recover_32 (by decide) ?_
  refine lv_iload_n hx hb dM_recover_17 rfl (lv_at hl 0 rfl) ?_
  refine lv_iconst (v := 3) hx hb dM_recover_18 (by decide) ?_
  refine lv_icmp_ge (tgt := 35) hx hb dM_recover_19 (by decide) (fun _ => ?_) (fun h9 => absurd (by decide) h9)
  refine lv_aload_n hx hb dM_recover_35 rfl (lv_at hl 1 rfl) ?_
  refine lv_iconst (v := 0) hx hb dM_recover_36 (by decide) ?_
  have hPc := hP.sub (ws' := [(m0, .inr (4, [.int 0, .ref md, .int 0, .int (-1), .int 0, .ref mh, .ref mn, .ref mc, .int 0, .int 1, .int 0, .int 0, .ref mo, .ref mb, .ref mk, .ref ml, .ref ms, .ref mw])), (md, .inl (cI, 384, .inl MW0))]) [0, 1] rfl
  refine vp_callSi (W.runV (C := "LoggedStoreModel") (b := m0) (As := [.int 0]) (rest := []) ⟨hx, hb, hml, hown, hw⟩ (c_M_counts0 l dC dI cI cZ cJ cT m0 md mh mn mc mo mb mk ml ms mw) ⟨callB_of 1 hw (gA0 w765) rfl rfl rfl (hw _ w45) (hw _ w762) (by decide +kernel) ⟨Nat.le_of_ble_eq_true rfl, Nat.le_of_ble_eq_true rfl⟩, (hw _ w764), (hw _ w34)⟩ ⟨kb_S, va_recv (ci := 4) (q0 := 0) hK hP rfl rfl, fun U hU hW => ⟨rfl, by rw [hU]; exact hPc, hKK.moved hW⟩⟩ rfl rfl hl.1 rfl (lv_room (Nat.le_of_ble_eq_true rfl)) dM_recover_37 ⟨Nat.le_of_ble_eq_true rfl, Nat.le_of_ble_eq_true rfl⟩) (fun r1 e2 => ?_)
  obtain rfl : r1 = 1 := e2
  refine lv_istore_n hx hb dM_recover_40 rfl hl (by decide) rfl (fun ls hl => ?_)
  have hl : lv_has ls 3 [(1, .int 1), (0, .ref m0)] := hl
  refine lv_aload_n hx hb dM_recover_41 rfl (lv_at hl 1 rfl) ?_
  refine lv_iconst (v := 1) hx hb dM_recover_42 (by decide) ?_
  have hPc := hP.sub (ws' := [(m0, .inr (4, [.int 0, .ref md, .int 0, .int (-1), .int 0, .ref mh, .ref mn, .ref mc, .int 0, .int 1, .int 0, .int 0, .ref mo, .ref mb, .ref mk, .ref ml, .ref ms, .ref mw])), (md, .inl (cI, 384, .inl MW0))]) [0, 1] rfl
  refine vp_callSi (W.runV (C := "LoggedStoreModel") (b := m0) (As := [.int 1]) (rest := []) ⟨hx, hb, hml, hown, hw⟩ (c_M_counts1 l dC dI cI cZ cJ cT m0 md mh mn mc mo mb mk ml ms mw) ⟨callB_of 1 hw (gA0 w765) rfl rfl rfl (hw _ w45) (hw _ w762) (by decide +kernel) ⟨Nat.le_of_ble_eq_true rfl, Nat.le_of_ble_eq_true rfl⟩, (hw _ w764), (hw _ w34)⟩ ⟨kb_S, va_recv (ci := 4) (q0 := 0) hK hP rfl rfl, fun U hU hW => ⟨rfl, by rw [hU]; exact hPc, hKK.moved hW⟩⟩ rfl rfl hl.1 rfl (lv_room (Nat.le_of_ble_eq_true rfl)) dM_recover_43 ⟨Nat.le_of_ble_eq_true rfl, Nat.le_of_ble_eq_true rfl⟩) (fun r3 e4 => ?_)
  obtain rfl : r3 = 0 := e4
  refine lv_istore_n hx hb dM_recover_46 rfl hl (by decide) rfl (fun ls hl => ?_)
  have hl : lv_has ls 3 [(2, .int 0), (1, .int 1), (0, .ref m0)] := hl
  refine lv_aload_n hx hb dM_recover_47 rfl (lv_at hl 2 rfl) ?_
  refine lv_iload_n hx hb dM_recover_48 rfl (lv_at hl 0 rfl) ?_
  refine lv_if_eq (tgt := 75) hx hb dM_recover_49 (by decide) (fun _ => ?_) (fun h9 => absurd (by decide) h9)
  refine lv_iconst (v := 0) hx hb dM_recover_75 (by decide) ?_
  have hPc := hP.sub (ws' := [(m0, .inr (4, [.int 0, .ref md, .int 0, .int (-1), .int 0, .ref mh, .ref mn, .ref mc, .int 0, .int 1, .int 0, .int 0, .ref mo, .ref mb, .ref mk, .ref ml, .ref ms, .ref mw])), (md, .inl (cI, 384, .inl MW0)), (mh, .inl (cZ, 64, .inl (fun _ => 0))), (mn, .inl (cI, 64, .inl (fun _ => 0))), (mc, .inl (cI, 64, .inl (fun _ => 0)))]) [0, 1, 2, 3, 4] rfl
  have hDc := hD.sub (ws' := [(m0, .inr (4, [.int 0, .ref md, .int 0, .int (-1), .int 0, .ref mh, .ref mn, .ref mc, .int 0, .int 1, .int 0, .int 0, .ref mo, .ref mb, .ref mk, .ref ml, .ref ms, .ref mw])), (md, .inl (cI, 384, .inl MW0)), (mh, .inl (cZ, 64, .inl (fun _ => 0))), (mn, .inl (cI, 64, .inl (fun _ => 0))), (mc, .inl (cI, 64, .inl (fun _ => 0)))]) [0, 1, 2, 3, 4] (by decide) rfl
  have hFc := va_free (wc := [(m0, .inr (4, [.int 0, .ref md, .int 0, .int (-1), .int 0, .ref mh, .ref mn, .ref mc, .int 0, .int 1, .int 0, .int 0, .ref mo, .ref mb, .ref mk, .ref ml, .ref ms, .ref mw])), (md, .inl (cI, 384, .inl MW0)), (mh, .inl (cZ, 64, .inl (fun _ => 0))), (mn, .inl (cI, 64, .inl (fun _ => 0))), (mc, .inl (cI, 64, .inl (fun _ => 0)))]) hD hS hA [0, 1, 2, 3, 4] rfl
  refine va_callv (va_runV (C := "LoggedStoreModel") (b := m0) (As := [.int 0]) (rest := []) ⟨hx, hb, hml, hown, hw⟩ (c_M_takeArea l dC dI cI cZ cJ cT m0 md mh mn mc mo mb mk ml ms mw H.size) ⟨callB_of 1 hw (gA0 w773) rfl rfl rfl (hw _ w45) (hw _ w770) (by decide +kernel) ⟨Nat.le_of_ble_eq_true rfl, Nat.le_of_ble_eq_true rfl⟩, (hw _ w772), (hw _ w36)⟩ ⟨kb_Q, va_recv (ci := 4) (q0 := 0) hK hP rfl rfl, fun U hU hW => ⟨rfl, by rw [hU], by rw [hU]; exact hPc, hKK.moved hW, hDc.weaken (fun _ _ _ _ => trivial)⟩⟩ rfl rfl hl.1 rfl (lv_room (Nat.le_of_ble_eq_true rfl)) dM_recover_76 ⟨Nat.le_of_ble_eq_true rfl, Nat.le_of_ble_eq_true rfl⟩) hS (fun q _ h => hFc q h) hFc (fun u6 t H1 locs ht hvm he9 hB hz1 hk1 hS => ?_)
  obtain ⟨hP1, hD1⟩ := hB
  rw [ht] at hP1
  obtain ⟨hP, hD⟩ := va_join (wr := [(mo, .inl (cZ, 3, .inl (upd (upd (upd (fun _ => 0) (0 : Int32).toNatClampNeg (vp_nar .boolean 0)) (1 : Int32).toNatClampNeg (vp_nar .boolean 0)) (2 : Int32).toNatClampNeg (vp_nar .boolean 0))))]) (w1 := [(m0, .inr (4, [.int 0, .ref md, .int 0, .int (-1), .int 0, .ref mh, .ref mn, .ref mc, .int 0, .int 1, .int 0, .int 0, .ref mo, .ref mb, .ref mk, .ref ml, .ref ms, .ref mw])), (md, .inl (cI, 384, .inl MW0))]) hP hD [0, 1, 2, 3, 4] [5] rfl rfl (by decide) (by decide) hk1 hFc hP1 hD1
  generalize H1 = H at hP hS ⊢
  have hP : va_P (dC, dI) vwC [(mo, .inl (cZ, 3, .inl (upd (upd (upd (fun _ => 0) (0 : Int32).toNatClampNeg (vp_nar .boolean 0)) (1 : Int32).toNatClampNeg (vp_nar .boolean 0)) (2 : Int32).toNatClampNeg (vp_nar .boolean 0)))), (m0, .inr (4, [.int 0, .ref md, .int 0, .int (-1), .int 0, .ref mh, .ref mn, .ref mc, .int 0, .int 1, .int 0, .int 0, .ref mo, .ref mb, .ref mk, .ref ml, .ref ms, .ref mw])), (md, .inl (cI, 384, .inl MW0))] H := hP
  have hD : va_D A [(mo, .inl (cZ, 3, .inl (upd (upd (upd (fun _ => 0) (0 : Int32).toNatClampNeg (vp_nar .boolean 0)) (1 : Int32).toNatClampNeg (vp_nar .boolean 0)) (2 : Int32).toNatClampNeg (vp_nar .boolean 0)))), (m0, .inr (4, [.int 0, .ref md, .int 0, .int (-1), .int 0, .ref mh, .ref mn, .ref mc, .int 0, .int 1, .int 0, .int 0, .ref mo, .ref mb, .ref mk, .ref ml, .ref ms, .ref mw])), (md, .inl (cI, 384, .inl MW0))] := hD
  refine lv_aload_n hx hb dM_recover_79 rfl (lv_at hl 2 rfl) ?_
  have hPc := hP.sub (ws' := [(m0, .inr (4, [.int 0, .ref md, .int 0, .int (-1), .int 0, .ref mh, .ref mn, .ref mc, .int 0, .int 1, .int 0, .int 0, .ref mo, .ref mb, .ref mk, .ref ml, .ref ms, .ref mw])), (md, .inl (cI, 384, .inl MW0))]) [1, 2] rfl
  have hDc := hD.sub (ws' := [(m0, .inr (4, [.int 0, .ref md, .int 0, .int (-1), .int 0, .ref mh, .ref mn, .ref mc, .int 0, .int 1, .int 0, .int 0, .ref mo, .ref mb, .ref mk, .ref ml, .ref ms, .ref mw])), (md, .inl (cI, 384, .inl MW0))]) [1, 2] (by decide) rfl
  have hFc := va_free (wc := [(m0, .inr (4, [.int 0, .ref md, .int 0, .int (-1), .int 0, .ref mh, .ref mn, .ref mc, .int 0, .int 1, .int 0, .int 0, .ref mo, .ref mb, .ref mk, .ref ml, .ref ms, .ref mw])), (md, .inl (cI, 384, .inl MW0))]) hD hS hA [1, 2] rfl
  refine va_callv (va_runV (C := "LoggedStoreModel") (b := m0) (As := []) (rest := []) ⟨hx, hb, hml, hown, hw⟩ (c_M_takeLog l dC dI cI cZ cJ cT m0 md mh mn mc mo mb mk ml ms mw H.size) ⟨callB_of 0 hw (gA0 w777) rfl rfl rfl (hw _ w45) (hw _ w774) (by decide +kernel) ⟨Nat.le_of_ble_eq_true rfl, Nat.le_of_ble_eq_true rfl⟩, (hw _ w776), (hw _ w37)⟩ ⟨kb_Q, va_recv (ci := 4) (q0 := 1) hK hP rfl rfl, fun U hU hW => ⟨rfl, by rw [hU], by rw [hU]; exact hPc, hKK.moved hW, hDc.weaken (fun _ _ _ _ => trivial)⟩⟩ rfl rfl hl.1 rfl (lv_room (Nat.le_of_ble_eq_true rfl)) dM_recover_80 ⟨Nat.le_of_ble_eq_true rfl, Nat.le_of_ble_eq_true rfl⟩) hS (fun q _ h => hFc q h) hFc (fun u8 t H1 locs ht hvm he9 hB hz1 hk1 hS => ?_)
  obtain ⟨hP1, hD1⟩ := hB
  rw [ht] at hP1
  obtain ⟨hP, hD⟩ := va_join (wr := [(mo, .inl (cZ, 3, .inl (upd (upd (upd (fun _ => 0) (0 : Int32).toNatClampNeg (vp_nar .boolean 0)) (1 : Int32).toNatClampNeg (vp_nar .boolean 0)) (2 : Int32).toNatClampNeg (vp_nar .boolean 0))))]) (w1 := [(m0, .inr (4, [.int 0, .ref md, .int 0, .int (-1), .int 0, .ref mh, .ref mn, .ref mc, .int 0, .int 1, .int 0, .int 0, .ref mo, .ref mb, .ref mk, .ref ml, .ref ms, .ref mw])), (md, .inl (cI, 384, .inl MW0))]) hP hD [1, 2] [0] rfl rfl (by decide) (by decide) hk1 hFc hP1 hD1
  generalize H1 = H at hP hS ⊢
  have hP : va_P (dC, dI) vwC [(mo, .inl (cZ, 3, .inl (upd (upd (upd (fun _ => 0) (0 : Int32).toNatClampNeg (vp_nar .boolean 0)) (1 : Int32).toNatClampNeg (vp_nar .boolean 0)) (2 : Int32).toNatClampNeg (vp_nar .boolean 0)))), (m0, .inr (4, [.int 0, .ref md, .int 0, .int (-1), .int 0, .ref mh, .ref mn, .ref mc, .int 0, .int 1, .int 0, .int 0, .ref mo, .ref mb, .ref mk, .ref ml, .ref ms, .ref mw])), (md, .inl (cI, 384, .inl MW0))] H := hP
  have hD : va_D A [(mo, .inl (cZ, 3, .inl (upd (upd (upd (fun _ => 0) (0 : Int32).toNatClampNeg (vp_nar .boolean 0)) (1 : Int32).toNatClampNeg (vp_nar .boolean 0)) (2 : Int32).toNatClampNeg (vp_nar .boolean 0)))), (m0, .inr (4, [.int 0, .ref md, .int 0, .int (-1), .int 0, .ref mh, .ref mn, .ref mc, .int 0, .int 1, .int 0, .int 0, .ref mo, .ref mb, .ref mk, .ref ml, .ref ms, .ref mw])), (md, .inl (cI, 384, .inl MW0))] := hD
  refine lv_aload_n hx hb dM_recover_83 rfl (lv_at hl 2 rfl) ?_
  refine va_get (D := (dC, dI)) (ci := 4) (v := .int 0) (C := "LoggedStoreModel") (T := uM) (N := 18) hx hb hw inM hown hK hP 1 rfl rfl 8 (by decide) (hw _ w620) (fun _ h9 => h9) rfl dM_recover_84 ?_
  have hP9 := hP.sub (ws' := [(m0, .inr (4, [.int 0, .ref md, .int 0, .int (-1), .int 0, .ref mh, .ref mn, .ref mc, .int 0, .int 1, .int 0, .int 0, .ref mo, .ref mb, .ref mk, .ref ml, .ref ms, .ref mw]))]) [1] rfl
  have hD9 := hD.sub (ws' := [(m0, .inr (4, [.int 0, .ref md, .int 0, .int (-1), .int 0, .ref mh, .ref mn, .ref mc, .int 0, .int 1, .int 0, .int 0, .ref mo, .ref mb, .ref mk, .ref ml, .ref ms, .ref mw]))]) [1] (by decide) rfl
  refine W.widen (k := 0) (n := 0) (by decide) (by decide) ?_
  exact W.iret (v := 0) hx hb hr (fun t ht hW => ⟨⟨0, fun _ => 0, rfl, rfl, by rw [ht]; exact hP9, hD9⟩, hS.F ht⟩) hS.2.2 dM_recover_87
end
section
set_option maxRecDepth 100000 in
theorem w1 : (Cond.selects "LoggedStore" yS_countingHeader yS_countingHeader) ∈ wsA := List.mem_filter.mpr ⟨List.mem_of_getElem? (i := 1) rfl, rfl⟩
set_option maxRecDepth 100000 in
theorem w2 : (Cond.selects "LoggedStore" yS_isHeader yS_isHeader) ∈ wsA := List.mem_filter.mpr ⟨List.mem_of_getElem? (i := 2) rfl, rfl⟩
set_option maxRecDepth 100000 in
theorem w3 : (Cond.selects "LoggedStore" yS_readCheckpoint yS_readCheckpoint) ∈ wsA := List.mem_filter.mpr ⟨List.mem_of_getElem? (i := 3) rfl, rfl⟩
set_option maxRecDepth 100000 in
theorem w4 : (Cond.selects "LoggedStore" yS_readArea yS_readArea) ∈ wsA := List.mem_filter.mpr ⟨List.mem_of_getElem? (i := 4) rfl, rfl⟩
set_option maxRecDepth 100000 in
theorem w5 : (Cond.selects "LoggedStore" yS_redoLog yS_redoLog) ∈ wsA := List.mem_filter.mpr ⟨List.mem_of_getElem? (i := 5) rfl, rfl⟩
set_option maxRecDepth 100000 in
theorem w6 : (Cond.selects "LoggedStore" yS_isOfThisLog yS_isOfThisLog) ∈ wsA := List.mem_filter.mpr ⟨List.mem_of_getElem? (i := 6) rfl, rfl⟩
set_option maxRecDepth 100000 in
theorem w54 : (Cond.initialized "java/util/Arrays") ∈ wsA := List.mem_filter.mpr ⟨List.mem_of_getElem? (i := 54) rfl, rfl⟩
set_option maxRecDepth 100000 in
theorem w122 : (Cond.fieldLink "LoggedStore" 57 "LoggedStore$Transaction" "open" "Z") ∈ wsA := List.mem_filter.mpr ⟨List.mem_of_getElem? (i := 122) rfl, rfl⟩
set_option maxRecDepth 100000 in
theorem w200 : (Cond.code yS_recover cS_recover 2 (some .int)) ∈ wsA := List.mem_filter.mpr ⟨List.mem_of_getElem? (i := 200) rfl, rfl⟩
set_option maxRecDepth 100000 in
theorem w201 : (Cond.methodLink "LoggedStore" 153 yD_powerUp) ∈ wsA := List.mem_filter.mpr ⟨List.mem_of_getElem? (i := 201) rfl, rfl⟩
set_option maxRecDepth 100000 in
theorem w202 : (Cond.instanceMethod yD_powerUp) ∈ wsA := List.mem_filter.mpr ⟨List.mem_of_getElem? (i := 202) rfl, rfl⟩
set_option maxRecDepth 100000 in
theorem w203 : (Cond.selects "LoggedStore$Disk" yD_powerUp yD_powerUp) ∈ wsA := List.mem_filter.mpr ⟨List.mem_of_getElem? (i := 203) rfl, rfl⟩
set_option maxRecDepth 100000 in
theorem w204 : (Cond.code yD_powerUp cD_powerUp 1 none) ∈ wsA := List.mem_filter.mpr ⟨List.mem_of_getElem? (i := 204) rfl, rfl⟩
set_option maxRecDepth 100000 in
theorem w205 : (Cond.methodLink "LoggedStore" 156 yY_fill) ∈ wsA := List.mem_filter.mpr ⟨List.mem_of_getElem? (i := 205) rfl, rfl⟩
set_option maxRecDepth 100000 in
theorem w206 : (Cond.static yY_fill) ∈ wsA := List.mem_filter.mpr ⟨List.mem_of_getElem? (i := 206) rfl, rfl⟩
set_option maxRecDepth 100000 in
theorem w207 : (Cond.code yY_fill cY_fill 4 none) ∈ wsA := List.mem_filter.mpr ⟨List.mem_of_getElem? (i := 207) rfl, rfl⟩
set_option maxRecDepth 100000 in
theorem w208 : (Cond.methodLink "LoggedStore" 162 yS_countingHeader) ∈ wsA := List.mem_filter.mpr ⟨List.mem_of_getElem? (i := 208) rfl, rfl⟩
set_option maxRecDepth 100000 in
theorem w210 : (Cond.instanceMethod yS_countingHeader) ∈ wsA := List.mem_filter.mpr ⟨List.mem_of_getElem? (i := 210) rfl, rfl⟩
set_option maxRecDepth 100000 in
theorem w211 : (Cond.code yS_countingHeader cS_countingHeader 1 (some .int)) ∈ wsA := List.mem_filter.mpr ⟨List.mem_of_getElem? (i := 211) rfl, rfl⟩
set_option maxRecDepth 100000 in
theorem w212 : (Cond.methodLink "LoggedStore" 226 yS_isHeader) ∈ wsA := List.mem_filter.mpr ⟨List.mem_of_getElem? (i := 212) rfl, rfl⟩
set_option maxRecDepth 100000 in
theorem w214 : (Cond.instanceMethod yS_isHeader) ∈ wsA := List.mem_filter.mpr ⟨List.mem_of_getElem? (i := 214) rfl, rfl⟩
set_option maxRecDepth 100000 in
theorem w215 : (Cond.code yS_isHeader cS_isHeader 2 (some .boolean)) ∈ wsA := List.mem_filter.mpr ⟨List.mem_of_getElem? (i := 215) rfl, rfl⟩
set_option maxRecDepth 100000 in
theorem w216 : (Cond.methodLink "LoggedStore" 229 yD_isGood) ∈ wsA := List.mem_filter.mpr ⟨List.mem_of_getElem? (i := 216) rfl, rfl⟩
set_option maxRecDepth 100000 in
theorem w217 : (Cond.instanceMethod yD_isGood) ∈ wsA := List.mem_filter.mpr ⟨List.mem_of_getElem? (i := 217) rfl, rfl⟩
set_option maxRecDepth 100000 in
theorem w218 : (Cond.selects "LoggedStore$Disk" yD_isGood yD_isGood) ∈ wsA := List.mem_filter.mpr ⟨List.mem_of_getElem? (i := 218) rfl, rfl⟩
set_option maxRecDepth 100000 in
theorem w219 : (Cond.code yD_isGood cD_isGood 2 (some .boolean)) ∈ wsA := List.mem_filter.mpr ⟨List.mem_of_getElem? (i := 219) rfl, rfl⟩
set_option maxRecDepth 100000 in
theorem w220 : (Cond.methodLink "LoggedStore$Disk" 47 yD_wordOf) ∈ wsA := List.mem_filter.mpr ⟨List.mem_of_getElem? (i := 220) rfl, rfl⟩
set_option maxRecDepth 100000 in
theorem w221 : (Cond.instanceMethod yD_wordOf) ∈ wsA := List.mem_filter.mpr ⟨List.mem_of_getElem? (i := 221) rfl, rfl⟩
set_option maxRecDepth 100000 in
theorem w222 : (Cond.selects "LoggedStore$Disk" yD_wordOf yD_wordOf) ∈ wsA := List.mem_filter.mpr ⟨List.mem_of_getElem? (i := 222) rfl, rfl⟩
set_option maxRecDepth 100000 in
theorem w223 : (Cond.code yD_wordOf cD_wordOf 3 (some .int)) ∈ wsA := List.mem_filter.mpr ⟨List.mem_of_getElem? (i := 223) rfl, rfl⟩
set_option maxRecDepth 100000 in
theorem w224 : (Cond.methodLink "LoggedStore" 171 yD_wordOf) ∈ wsA := List.mem_filter.mpr ⟨List.mem_of_getElem? (i := 224) rfl, rfl⟩
set_option maxRecDepth 100000 in
theorem w226 : (Cond.methodLink "LoggedStore" 165 yS_readCheckpoint) ∈ wsA := List.mem_filter.mpr ⟨List.mem_of_getElem? (i := 226) rfl, rfl⟩
set_option maxRecDepth 100000 in
theorem w228 : (Cond.instanceMethod yS_readCheckpoint) ∈ wsA := List.mem_filter.mpr ⟨List.mem_of_getElem? (i := 228) rfl, rfl⟩
set_option maxRecDepth 100000 in
theorem w229 : (Cond.code yS_readCheckpoint cS_readCheckpoint 3 none) ∈ wsA := List.mem_filter.mpr ⟨List.mem_of_getElem? (i := 229) rfl, rfl⟩
set_option maxRecDepth 100000 in
theorem w230 : (Cond.methodLink "LoggedStore" 232 yS_readArea) ∈ wsA := List.mem_filter.mpr ⟨List.mem_of_getElem? (i := 230) rfl, rfl⟩
set_option maxRecDepth 100000 in
theorem w232 : (Cond.instanceMethod yS_readArea) ∈ wsA := List.mem_filter.mpr ⟨List.mem_of_getElem? (i := 232) rfl, rfl⟩
set_option maxRecDepth 100000 in
theorem w233 : (Cond.code yS_readArea cS_readArea 6 none) ∈ wsA := List.mem_filter.mpr ⟨List.mem_of_getElem? (i := 233) rfl, rfl⟩
set_option maxRecDepth 100000 in
theorem w234 : (Cond.methodLink "LoggedStore" 214 yS_areaBegin) ∈ wsA := List.mem_filter.mpr ⟨List.mem_of_getElem? (i := 234) rfl, rfl⟩
set_option maxRecDepth 100000 in
theorem w235 : (Cond.static yS_areaBegin) ∈ wsA := List.mem_filter.mpr ⟨List.mem_of_getElem? (i := 235) rfl, rfl⟩
set_option maxRecDepth 100000 in
theorem w236 : (Cond.code yS_areaBegin cS_areaBegin 1 (some .int)) ∈ wsA := List.mem_filter.mpr ⟨List.mem_of_getElem? (i := 236) rfl, rfl⟩
set_option maxRecDepth 100000 in
theorem w237 : (Cond.methodLink "LoggedStore" 235 yT_makeEmpty) ∈ wsA := List.mem_filter.mpr ⟨List.mem_of_getElem? (i := 237) rfl, rfl⟩
set_option maxRecDepth 100000 in
theorem w238 : (Cond.instanceMethod yT_makeEmpty) ∈ wsA := List.mem_filter.mpr ⟨List.mem_of_getElem? (i := 238) rfl, rfl⟩
set_option maxRecDepth 100000 in
theorem w239 : (Cond.selects "LoggedStore$Table" yT_makeEmpty yT_makeEmpty) ∈ wsA := List.mem_filter.mpr ⟨List.mem_of_getElem? (i := 239) rfl, rfl⟩
set_option maxRecDepth 100000 in
theorem w240 : (Cond.code yT_makeEmpty cT_makeEmpty 2 none) ∈ wsA := List.mem_filter.mpr ⟨List.mem_of_getElem? (i := 240) rfl, rfl⟩
set_option maxRecDepth 100000 in
theorem w248 : (Cond.methodLink "LoggedStore" 168 yS_redoLog) ∈ wsA := List.mem_filter.mpr ⟨List.mem_of_getElem? (i := 248) rfl, rfl⟩
set_option maxRecDepth 100000 in
theorem w250 : (Cond.instanceMethod yS_redoLog) ∈ wsA := List.mem_filter.mpr ⟨List.mem_of_getElem? (i := 250) rfl, rfl⟩
set_option maxRecDepth 100000 in
theorem w251 : (Cond.code yS_redoLog cS_redoLog 2 none) ∈ wsA := List.mem_filter.mpr ⟨List.mem_of_getElem? (i := 251) rfl, rfl⟩
set_option maxRecDepth 100000 in
theorem w252 : (Cond.methodLink "LoggedStore" 241 yS_isOfThisLog) ∈ wsA := List.mem_filter.mpr ⟨List.mem_of_getElem? (i := 252) rfl, rfl⟩
set_option maxRecDepth 100000 in
theorem w254 : (Cond.instanceMethod yS_isOfThisLog) ∈ wsA := List.mem_filter.mpr ⟨List.mem_of_getElem? (i := 254) rfl, rfl⟩
set_option maxRecDepth 100000 in
theorem w255 : (Cond.code yS_isOfThisLog cS_isOfThisLog 2 (some .boolean)) ∈ wsA := List.mem_filter.mpr ⟨List.mem_of_getElem? (i := 255) rfl, rfl⟩
set_option maxRecDepth 100000 in
theorem w278 : (Cond.code yS_word cS_word 3 (some .int)) ∈ wsA := List.mem_filter.mpr ⟨List.mem_of_getElem? (i := 278) rfl, rfl⟩
theorem dD_wordOf_0 : decode cD_wordOf 0 = .ok (.aload_n 0, 1) := by decide +kernel
theorem dD_wordOf_1 : decode cD_wordOf 1 = .ok (.getfield 11, 3) := by decide +kernel
theorem dD_wordOf_4 : decode cD_wordOf 4 = .ok (.iconst 4, 1) := by decide +kernel
theorem dD_wordOf_5 : decode cD_wordOf 5 = .ok (.iload_n 1, 1) := by decide +kernel
theorem dD_wordOf_6 : decode cD_wordOf 6 = .ok (.imul, 1) := by decide +kernel
theorem dD_wordOf_7 : decode cD_wordOf 7 = .ok (.iload_n 2, 1) := by decide +kernel
theorem dD_wordOf_8 : decode cD_wordOf 8 = .ok (.iadd, 1) := by decide +kernel
theorem dD_wordOf_9 : decode cD_wordOf 9 = .ok (.iaload, 1) := by decide +kernel
theorem dD_wordOf_10 : decode cD_wordOf 10 = .ok (.ireturn, 1) := by decide +kernel
theorem dD_isGood_0 : decode cD_isGood 0 = .ok (.aload_n 0, 1) := by decide +kernel
theorem dD_isGood_1 : decode cD_isGood 1 = .ok (.iload_n 1, 1) := by decide +kernel
theorem dD_isGood_2 : decode cD_isGood 2 = .ok (.iconst 3, 1) := by decide +kernel
theorem dD_isGood_3 : decode cD_isGood 3 = .ok (.invokevirtual 47, 3) := by decide +kernel
theorem dD_isGood_6 : decode cD_isGood 6 = .ok (.iload_n 1, 1) := by decide +kernel
theorem dD_isGood_7 : decode cD_isGood 7 = .ok (.aload_n 0, 1) := by decide +kernel
theorem dD_isGood_8 : decode cD_isGood 8 = .ok (.iload_n 1, 1) := by decide +kernel
theorem dD_isGood_9 : decode cD_isGood 9 = .ok (.iconst 0, 1) := by decide +kernel
theorem dD_isGood_10 : decode cD_isGood 10 = .ok (.invokevirtual 47, 3) := by decide +kernel
theorem dD_isGood_13 : decode cD_isGood 13 = .ok (.aload_n 0, 1) := by decide +kernel
theorem dD_isGood_14 : decode cD_isGood 14 = .ok (.iload_n 1, 1) := by decide +kernel
theorem dD_isGood_15 : decode cD_isGood 15 = .ok (.iconst 1, 1) := by decide +kernel
theorem dD_isGood_16 : decode cD_isGood 16 = .ok (.invokevirtual 47, 3) := by decide +kernel
theorem dD_isGood_19 : decode cD_isGood 19 = .ok (.aload_n 0, 1) := by decide +kernel
theorem dD_isGood_20 : decode cD_isGood 20 = .ok (.iload_n 1, 1) := by decide +kernel
theorem dD_isGood_21 : decode cD_isGood 21 = .ok (.iconst 2, 1) := by decide +kernel
theorem dD_isGood_22 : decode cD_isGood 22 = .ok (.invokevirtual 47, 3) := by decide +kernel
theorem dD_isGood_25 : decode cD_isGood 25 = .ok (.invokestatic 30, 3) := by decide +kernel
theorem dD_isGood_28 : decode cD_isGood 28 = .ok (.if_icmp .ne 7, 3) := by decide +kernel
theorem dD_isGood_35 : decode cD_isGood 35 = .ok (.iconst 0, 1) := by decide +kernel
theorem dD_isGood_36 : decode cD_isGood 36 = .ok (.ireturn, 1) := by decide +kernel
theorem dS_isHeader_0 : decode cS_isHeader 0 = .ok (.aload_n 0, 1) := by decide +kernel
theorem dS_isHeader_1 : decode cS_isHeader 1 = .ok (.getfield 10, 3) := by decide +kernel
theorem dS_isHeader_4 : decode cS_isHeader 4 = .ok (.iload_n 1, 1) := by decide +kernel
theorem dS_isHeader_5 : decode cS_isHeader 5 = .ok (.invokevirtual 229, 3) := by decide +kernel
theorem dS_isHeader_8 : decode cS_isHeader 8 = .ok (.ifCond .eq 23, 3) := by decide +kernel
theorem dS_isHeader_31 : decode cS_isHeader 31 = .ok (.iconst 0, 1) := by decide +kernel
theorem dS_isHeader_32 : decode cS_isHeader 32 = .ok (.ireturn, 1) := by decide +kernel
theorem dS_countingHeader_0 : decode cS_countingHeader 0 = .ok (.aload_n 0, 1) := by decide +kernel
theorem dS_countingHeader_1 : decode cS_countingHeader 1 = .ok (.iconst 1, 1) := by decide +kernel
theorem dS_countingHeader_2 : decode cS_countingHeader 2 = .ok (.invokevirtual 226, 3) := by decide +kernel
theorem dS_countingHeader_5 : decode cS_countingHeader 5 = .ok (.ifCond .ne 5, 3) := by decide +kernel
theorem dS_countingHeader_8 : decode cS_countingHeader 8 = .ok (.iconst 0, 1) := by decide +kernel
theorem dS_countingHeader_9 : decode cS_countingHeader 9 = .ok (.ireturn, 1) := by decide +kernel
theorem dS_isOfThisLog_0 : decode cS_isOfThisLog 0 = .ok (.aload_n 0, 1) := by decide +kernel
theorem dS_isOfThisLog_1 : decode cS_isOfThisLog 1 = .ok (.getfield 10, 3) := by decide +kernel
theorem dS_isOfThisLog_4 : decode cS_isOfThisLog 4 = .ok (.iload_n 1, 1) := by decide +kernel
theorem dS_isOfThisLog_5 : decode cS_isOfThisLog 5 = .ok (.invokevirtual 229, 3) := by decide +kernel
theorem dS_isOfThisLog_8 : decode cS_isOfThisLog 8 = .ok (.ifCond .eq 27, 3) := by decide +kernel
theorem dS_isOfThisLog_35 : decode cS_isOfThisLog 35 = .ok (.iconst 0, 1) := by decide +kernel
theorem dS_isOfThisLog_36 : decode cS_isOfThisLog 36 = .ok (.ireturn, 1) := by decide +kernel
theorem dS_areaBegin_0 : decode cS_areaBegin 0 = .ok (.iconst 2, 1) := by decide +kernel
theorem dS_areaBegin_1 : decode cS_areaBegin 1 = .ok (.bipush 10, 2) := by decide +kernel
theorem dS_areaBegin_3 : decode cS_areaBegin 3 = .ok (.iload_n 0, 1) := by decide +kernel
theorem dS_areaBegin_4 : decode cS_areaBegin 4 = .ok (.imul, 1) := by decide +kernel
theorem dS_areaBegin_5 : decode cS_areaBegin 5 = .ok (.iadd, 1) := by decide +kernel
theorem dS_areaBegin_6 : decode cS_areaBegin 6 = .ok (.ireturn, 1) := by decide +kernel
theorem dS_word_0 : decode cS_word 0 = .ok (.iload_n 1, 1) := by decide +kernel
theorem dS_word_1 : decode cS_word 1 = .ok (.ifCond .lt 18, 3) := by decide +kernel
theorem dS_word_4 : decode cS_word 4 = .ok (.iload_n 1, 1) := by decide +kernel
theorem dS_word_5 : decode cS_word 5 = .ok (.bipush 96, 2) := by decide +kernel
theorem dS_word_7 : decode cS_word 7 = .ok (.if_icmp .ge 12, 3) := by decide +kernel
theorem dS_word_10 : decode cS_word 10 = .ok (.iload_n 2, 1) := by decide +kernel
theorem dS_word_11 : decode cS_word 11 = .ok (.ifCond .lt 8, 3) := by decide +kernel
theorem dS_word_14 : decode cS_word 14 = .ok (.iload_n 2, 1) := by decide +kernel
theorem dS_word_15 : decode cS_word 15 = .ok (.iconst 4, 1) := by decide +kernel
theorem dS_word_16 : decode cS_word 16 = .ok (.if_icmp .lt 5, 3) := by decide +kernel
theorem dS_word_19 : decode cS_word 19 = .ok (.iconst 0, 1) := by decide +kernel
theorem dS_word_20 : decode cS_word 20 = .ok (.ireturn, 1) := by decide +kernel
theorem dS_word_21 : decode cS_word 21 = .ok (.aload_n 0, 1) := by decide +kernel
theorem dS_word_22 : decode cS_word 22 = .ok (.getfield 10, 3) := by decide +kernel
theorem dS_word_25 : decode cS_word 25 = .ok (.iload_n 1, 1) := by decide +kernel
theorem dS_word_26 : decode cS_word 26 = .ok (.iload_n 2, 1) := by decide +kernel
theorem dS_word_27 : decode cS_word 27 = .ok (.invokevirtual 171, 3) := by decide +kernel
theorem dS_word_30 : decode cS_word 30 = .ok (.ireturn, 1) := by decide +kernel
theorem dD_powerUp_0 : decode cD_powerUp 0 = .ok (.aload_n 0, 1) := by decide +kernel
theorem dD_powerUp_1 : decode cD_powerUp 1 = .ok (.iconst 0, 1) := by decide +kernel
theorem dD_powerUp_2 : decode cD_powerUp 2 = .ok (.putfield 22, 3) := by decide +kernel
theorem dD_powerUp_5 : decode cD_powerUp 5 = .ok (.aload_n 0, 1) := by decide +kernel
theorem dD_powerUp_6 : decode cD_powerUp 6 = .ok (.iconst (-1), 1) := by decide +kernel
theorem dD_powerUp_7 : decode cD_powerUp 7 = .ok (.putfield 15, 3) := by decide +kernel
theorem dD_powerUp_10 : decode cD_powerUp 10 = .ok (.return_, 1) := by decide +kernel
theorem dY_fill_0 : decode cY_fill 0 = .ok (.iconst 0, 1) := by decide +kernel
theorem dY_fill_1 : decode cY_fill 1 = .ok (.istore_n 2, 1) := by decide +kernel
theorem dY_fill_2 : decode cY_fill 2 = .ok (.aload_n 0, 1) := by decide +kernel
theorem dY_fill_3 : decode cY_fill 3 = .ok (.arraylength, 1) := by decide +kernel
theorem dY_fill_4 : decode cY_fill 4 = .ok (.istore_n 3, 1) := by decide +kernel
theorem dY_fill_5 : decode cY_fill 5 = .ok (.iload_n 2, 1) := by decide +kernel
theorem dY_fill_6 : decode cY_fill 6 = .ok (.iload_n 3, 1) := by decide +kernel
theorem dY_fill_7 : decode cY_fill 7 = .ok (.if_icmp .ge 13, 3) := by decide +kernel
theorem dY_fill_10 : decode cY_fill 10 = .ok (.aload_n 0, 1) := by decide +kernel
theorem dY_fill_11 : decode cY_fill 11 = .ok (.iload_n 2, 1) := by decide +kernel
theorem dY_fill_12 : decode cY_fill 12 = .ok (.iload_n 1, 1) := by decide +kernel
theorem dY_fill_13 : decode cY_fill 13 = .ok (.iastore, 1) := by decide +kernel
theorem dY_fill_14 : decode cY_fill 14 = .ok (.iinc 2 1, 3) := by decide +kernel
theorem dY_fill_17 : decode cY_fill 17 = .ok (.goto (-12), 3) := by decide +kernel
theorem dY_fill_20 : decode cY_fill 20 = .ok (.return_, 1) := by decide +kernel
theorem dT_makeEmpty_0 : decode cT_makeEmpty 0 = .ok (.iconst 0, 1) := by decide +kernel
theorem dT_makeEmpty_1 : decode cT_makeEmpty 1 = .ok (.istore_n 1, 1) := by decide +kernel
theorem dT_makeEmpty_2 : decode cT_makeEmpty 2 = .ok (.iload_n 1, 1) := by decide +kernel
theorem dT_makeEmpty_3 : decode cT_makeEmpty 3 = .ok (.bipush 64, 2) := by decide +kernel
theorem dT_makeEmpty_5 : decode cT_makeEmpty 5 = .ok (.if_icmp .ge 16, 3) := by decide +kernel
theorem dT_makeEmpty_8 : decode cT_makeEmpty 8 = .ok (.aload_n 0, 1) := by decide +kernel
theorem dT_makeEmpty_9 : decode cT_makeEmpty 9 = .ok (.getfield 9, 3) := by decide +kernel
theorem dT_makeEmpty_12 : decode cT_makeEmpty 12 = .ok (.iload_n 1, 1) := by decide +kernel
theorem dT_makeEmpty_13 : decode cT_makeEmpty 13 = .ok (.iconst 0, 1) := by decide +kernel
theorem dT_makeEmpty_14 : decode cT_makeEmpty 14 = .ok (.bastore, 1) := by decide +kernel
theorem dT_makeEmpty_15 : decode cT_makeEmpty 15 = .ok (.iinc 1 1, 3) := by decide +kernel
theorem dT_makeEmpty_18 : decode cT_makeEmpty 18 = .ok (.goto (-16), 3) := by decide +kernel
theorem dT_makeEmpty_21 : decode cT_makeEmpty 21 = .ok (.aload_n 0, 1) := by decide +kernel
theorem dT_makeEmpty_22 : decode cT_makeEmpty 22 = .ok (.iconst 0, 1) := by decide +kernel
theorem dT_makeEmpty_23 : decode cT_makeEmpty 23 = .ok (.putfield 19, 3) := by decide +kernel
theorem dT_makeEmpty_26 : decode cT_makeEmpty 26 = .ok (.return_, 1) := by decide +kernel
theorem dS_readArea_0 : decode cS_readArea 0 = .ok (.aload_n 0, 1) := by decide +kernel
theorem dS_readArea_1 : decode cS_readArea 1 = .ok (.getfield 40, 3) := by decide +kernel
theorem dS_readArea_4 : decode cS_readArea 4 = .ok (.invokestatic 214, 3) := by decide +kernel
theorem dS_readArea_7 : decode cS_readArea 7 = .ok (.istore_n 2, 1) := by decide +kernel
theorem dS_readArea_8 : decode cS_readArea 8 = .ok (.aload_n 0, 1) := by decide +kernel
theorem dS_readArea_9 : decode cS_readArea 9 = .ok (.getfield 19, 3) := by decide +kernel
theorem dS_readArea_12 : decode cS_readArea 12 = .ok (.invokevirtual 235, 3) := by decide +kernel
theorem dS_readArea_15 : decode cS_readArea 15 = .ok (.iconst 0, 1) := by decide +kernel
theorem dS_readArea_16 : decode cS_readArea 16 = .ok (.istore_n 3, 1) := by decide +kernel
theorem dS_readArea_17 : decode cS_readArea 17 = .ok (.iload_n 3, 1) := by decide +kernel
theorem dS_readArea_18 : decode cS_readArea 18 = .ok (.iload_n 1, 1) := by decide +kernel
theorem dS_readArea_19 : decode cS_readArea 19 = .ok (.if_icmp .ge 60, 3) := by decide +kernel
theorem dS_readArea_79 : decode cS_readArea 79 = .ok (.return_, 1) := by decide +kernel
theorem dS_readCheckpoint_0 : decode cS_readCheckpoint 0 = .ok (.aload_n 0, 1) := by decide +kernel
theorem dS_readCheckpoint_1 : decode cS_readCheckpoint 1 = .ok (.getfield 10, 3) := by decide +kernel
theorem dS_readCheckpoint_4 : decode cS_readCheckpoint 4 = .ok (.iload_n 1, 1) := by decide +kernel
theorem dS_readCheckpoint_5 : decode cS_readCheckpoint 5 = .ok (.iconst 1, 1) := by decide +kernel
theorem dS_readCheckpoint_6 : decode cS_readCheckpoint 6 = .ok (.invokevirtual 171, 3) := by decide +kernel
theorem dS_readCheckpoint_9 : decode cS_readCheckpoint 9 = .ok (.istore_n 2, 1) := by decide +kernel
theorem dS_readCheckpoint_10 : decode cS_readCheckpoint 10 = .ok (.aload_n 0, 1) := by decide +kernel
theorem dS_readCheckpoint_11 : decode cS_readCheckpoint 11 = .ok (.aload_n 0, 1) := by decide +kernel
theorem dS_readCheckpoint_12 : decode cS_readCheckpoint 12 = .ok (.getfield 10, 3) := by decide +kernel
theorem dS_readCheckpoint_15 : decode cS_readCheckpoint 15 = .ok (.iload_n 1, 1) := by decide +kernel
theorem dS_readCheckpoint_16 : decode cS_readCheckpoint 16 = .ok (.iconst 0, 1) := by decide +kernel
theorem dS_readCheckpoint_17 : decode cS_readCheckpoint 17 = .ok (.invokevirtual 171, 3) := by decide +kernel
theorem dS_readCheckpoint_20 : decode cS_readCheckpoint 20 = .ok (.putfield 37, 3) := by decide +kernel
theorem dS_readCheckpoint_23 : decode cS_readCheckpoint 23 = .ok (.aload_n 0, 1) := by decide +kernel
theorem dS_readCheckpoint_24 : decode cS_readCheckpoint 24 = .ok (.iload_n 2, 1) := by decide +kernel
theorem dS_readCheckpoint_25 : decode cS_readCheckpoint 25 = .ok (.bipush 64, 2) := by decide +kernel
theorem dS_readCheckpoint_27 : decode cS_readCheckpoint 27 = .ok (.if_icmp .lt 7, 3) := by decide +kernel
theorem dS_readCheckpoint_34 : decode cS_readCheckpoint 34 = .ok (.iconst 0, 1) := by decide +kernel
theorem dS_readCheckpoint_35 : decode cS_readCheckpoint 35 = .ok (.putfield 40, 3) := by decide +kernel
theorem dS_readCheckpoint_38 : decode cS_readCheckpoint 38 = .ok (.aload_n 0, 1) := by decide +kernel
theorem dS_readCheckpoint_39 : decode cS_readCheckpoint 39 = .ok (.aload_n 0, 1) := by decide +kernel
theorem dS_readCheckpoint_40 : decode cS_readCheckpoint 40 = .ok (.getfield 10, 3) := by decide +kernel
theorem dS_readCheckpoint_43 : decode cS_readCheckpoint 43 = .ok (.iload_n 1, 1) := by decide +kernel
theorem dS_readCheckpoint_44 : decode cS_readCheckpoint 44 = .ok (.iconst 2, 1) := by decide +kernel
theorem dS_readCheckpoint_45 : decode cS_readCheckpoint 45 = .ok (.invokevirtual 171, 3) := by decide +kernel
theorem dS_readCheckpoint_48 : decode cS_readCheckpoint 48 = .ok (.putfield 33, 3) := by decide +kernel
theorem dS_readCheckpoint_51 : decode cS_readCheckpoint 51 = .ok (.aload_n 0, 1) := by decide +kernel
theorem dS_readCheckpoint_52 : decode cS_readCheckpoint 52 = .ok (.iload_n 2, 1) := by decide +kernel
theorem dS_readCheckpoint_53 : decode cS_readCheckpoint 53 = .ok (.bipush 64, 2) := by decide +kernel
theorem dS_readCheckpoint_55 : decode cS_readCheckpoint 55 = .ok (.aload_n 0, 1) := by decide +kernel
theorem dS_readCheckpoint_56 : decode cS_readCheckpoint 56 = .ok (.getfield 40, 3) := by decide +kernel
theorem dS_readCheckpoint_59 : decode cS_readCheckpoint 59 = .ok (.imul, 1) := by decide +kernel
theorem dS_readCheckpoint_60 : decode cS_readCheckpoint 60 = .ok (.isub, 1) := by decide +kernel
theorem dS_readCheckpoint_61 : decode cS_readCheckpoint 61 = .ok (.invokevirtual 232, 3) := by decide +kernel
theorem dS_readCheckpoint_64 : decode cS_readCheckpoint 64 = .ok (.return_, 1) := by decide +kernel
theorem dS_redoLog_0 : decode cS_redoLog 0 = .ok (.aload_n 0, 1) := by decide +kernel
theorem dS_redoLog_1 : decode cS_redoLog 1 = .ok (.bipush 22, 2) := by decide +kernel
theorem dS_redoLog_3 : decode cS_redoLog 3 = .ok (.putfield 43, 3) := by decide +kernel
theorem dS_redoLog_6 : decode cS_redoLog 6 = .ok (.bipush 22, 2) := by decide +kernel
theorem dS_redoLog_8 : decode cS_redoLog 8 = .ok (.istore_n 1, 1) := by decide +kernel
theorem dS_redoLog_9 : decode cS_redoLog 9 = .ok (.iload_n 1, 1) := by decide +kernel
theorem dS_redoLog_10 : decode cS_redoLog 10 = .ok (.bipush 96, 2) := by decide +kernel
theorem dS_redoLog_12 : decode cS_redoLog 12 = .ok (.if_icmp .ge 61, 3) := by decide +kernel
theorem dS_redoLog_15 : decode cS_redoLog 15 = .ok (.aload_n 0, 1) := by decide +kernel
theorem dS_redoLog_16 : decode cS_redoLog 16 = .ok (.iload_n 1, 1) := by decide +kernel
theorem dS_redoLog_17 : decode cS_redoLog 17 = .ok (.invokevirtual 241, 3) := by decide +kernel
theorem dS_redoLog_20 : decode cS_redoLog 20 = .ok (.ifCond .eq 53, 3) := by decide +kernel
theorem dS_redoLog_73 : decode cS_redoLog 73 = .ok (.return_, 1) := by decide +kernel
theorem dS_recover_0 : decode cS_recover 0 = .ok (.aload_n 0, 1) := by decide +kernel
theorem dS_recover_1 : decode cS_recover 1 = .ok (.getfield 10, 3) := by decide +kernel
theorem dS_recover_4 : decode cS_recover 4 = .ok (.invokevirtual 153, 3) := by decide +kernel
theorem dS_recover_7 : decode cS_recover 7 = .ok (.iconst 0, 1) := by decide +kernel
theorem dS_recover_8 : decode cS_recover 8 = .ok (.istore_n 1, 1) := by decide +kernel
theorem dS_recover_9 : decode cS_recover 9 = .ok (.iload_n 1, 1) := by decide +kernel
theorem dS_recover_10 : decode cS_recover 10 = .ok (.iconst 3, 1) := by decide +kernel
theorem dS_recover_11 : decode cS_recover 11 = .ok (.if_icmp .ge 19, 3) := by decide +kernel
theorem dS_recover_14 : decode cS_recover 14 = .ok (.aload_n 0, 1) := by decide +kernel
theorem dS_recover_15 : decode cS_recover 15 = .ok (.getfield 29, 3) := by decide +kernel
theorem dS_recover_18 : decode cS_recover 18 = .ok (.iload_n 1, 1) := by decide +kernel
theorem dS_recover_19 : decode cS_recover 19 = .ok (.aaload, 1) := by decide +kernel
theorem dS_recover_20 : decode cS_recover 20 = .ok (.iconst 0, 1) := by decide +kernel
theorem dS_recover_21 : decode cS_recover 21 = .ok (.putfield 57, 3) := by decide +kernel
theorem dS_recover_24 : decode cS_recover 24 = .ok (.iinc 1 1, 3) := by decide +kernel
theorem dS_recover_27 : decode cS_recover 27 = .ok (.goto (-18), 3) := by decide +kernel
theorem dS_recover_30 : decode cS_recover 30 = .ok (.aload_n 0, 1) := by decide +kernel
theorem dS_recover_31 : decode cS_recover 31 = .ok (.getfield 23, 3) := by decide +kernel
theorem dS_recover_34 : decode cS_recover 34 = .ok (.iconst 0, 1) := by decide +kernel
theorem dS_recover_35 : decode cS_recover 35 = .ok (.invokestatic 156, 3) := by decide +kernel
theorem dS_recover_38 : decode cS_recover 38 = .ok (.aload_n 0, 1) := by decide +kernel
theorem dS_recover_39 : decode cS_recover 39 = .ok (.aload_n 0, 1) := by decide +kernel
theorem dS_recover_40 : decode cS_recover 40 = .ok (.invokevirtual 162, 3) := by decide +kernel
theorem dS_recover_43 : decode cS_recover 43 = .ok (.invokevirtual 165, 3) := by decide +kernel
theorem dS_recover_46 : decode cS_recover 46 = .ok (.aload_n 0, 1) := by decide +kernel
theorem dS_recover_47 : decode cS_recover 47 = .ok (.invokevirtual 168, 3) := by decide +kernel
theorem dS_recover_50 : decode cS_recover 50 = .ok (.aload_n 0, 1) := by decide +kernel
theorem dS_recover_51 : decode cS_recover 51 = .ok (.getfield 33, 3) := by decide +kernel
theorem dS_recover_54 : decode cS_recover 54 = .ok (.ireturn, 1) := by decide +kernel
set_option maxHeartbeats 4000000 in
set_option maxRecDepth 100000 in
theorem c_wordOf (l : Launch) (dC : Nat → ClassId) (dI : Nat → Nat → Nat) (cI cZ cJ cT : ClassId) (d w : Nat) (f : Nat → Int32) (b9 i9 : Int32) (hin : vp_in ((4 * b9) + i9) 384) : Met l yD_wordOf (Cond.code yD_wordOf cD_wordOf 3 (some .int) :: wsA) ({ frames := 0, cells := 0, slots := 0, locals := 0 }) (va_Pc [.ref d, .int b9, .int i9] (fun U => va_P (dC, dI) vwC [(d, .inr (0, [.ref w, .int (-1), .int 0, .int 0])), (w, .inl (cI, 384, .inl f))] U.heap ∧ KK dC dI cI cZ cJ cT U)) (vp_Si (fun r => r = f (((4 * b9) + i9) : Int32).toNatClampNeg)) 0 0 (fun _ => False) := by
  refine Met.ofW (cc := cD_wordOf) (maxL := 3) (ret := (some .int)) (by decide) rfl ?_
  intro p e s m args below meth c s₁ B hml hv
  obtain ⟨rfl, hP, hKK⟩ := hv
  have hK := hKK.1
  have hx := B.exec
  have hb := B.bytes
  have hr := B.returns
  have hw : ∀ w ∈ wsA, w.before _ s = true := fun w h => atoms_spec (ws := (Cond.code yD_wordOf cD_wordOf 3 (some .int) :: wsA)) B.pre w (List.mem_cons_of_mem _ h)
  have hown : s.vm.findClass "LoggedStore$Disk" = some m.cls := findClass_of_methodNamed B.named
  have hlocks := B.notSynchronized
  have hl := lv_entry ([.ref d, .int b9, .int i9]) (n := 3) (Nat.le_of_ble_eq_true rfl)
  rw [lg_entry_eq]
  generalize (lg_sl ([.ref d, .int b9, .int i9]) ++ List.replicate (3 - (lg_sl ([.ref d, .int b9, .int i9])).length) Slot.unset).toArray = ls at hl ⊢
  have hl : lv_has ls 3 [(0, .ref d), (1, .int b9), (2, .int i9)] := hl
  refine lv_aload_n hx hb dD_wordOf_0 rfl (lv_at hl 0 rfl) ?_
  refine va_get (D := (dC, dI)) (ci := 0) (v := .ref w) (C := "LoggedStore$Disk") (T := uD) (N := 4) hx hb hw inD hown hK hP 0 rfl rfl 0 (by decide) (hw _ w69) (fun _ h9 => h9) rfl dD_wordOf_1 ?_
  refine lv_iconst (v := 4) hx hb dD_wordOf_4 (by decide) ?_
  refine lv_iload_n hx hb dD_wordOf_5 rfl (lv_at hl 1 rfl) ?_
  refine lv_imul hx hb dD_wordOf_6 ?_
  refine lv_iload_n hx hb dD_wordOf_7 rfl (lv_at hl 2 rfl) ?_
  refine lv_iadd hx hb dD_wordOf_8 ?_
  refine va_iald hx hb hK hP 1 0 rfl rfl (hin) dD_wordOf_9 ?_
  exact W.iret (v := f (((4 * b9) + i9) : Int32).toNatClampNeg) hx hb hr (fun t ht hW => ⟨f (((4 * b9) + i9) : Int32).toNatClampNeg, rfl, rfl, ht⟩) (fun q h => by cases h) dD_wordOf_10

set_option maxHeartbeats 4000000 in
set_option maxRecDepth 100000 in
theorem c_isGood1 (l : Launch) (dC : Nat → ClassId) (dI : Nat → Nat → Nat) (cI cZ cJ cT : ClassId) (d w : Nat) : Met l yD_isGood (Cond.code yD_isGood cD_isGood 2 (some .boolean) :: wsA) ({ frames := 1, cells := 0, slots := 0, locals := 23 }) (va_Pc [.ref d, .int 1] (fun U => va_P (dC, dI) vwC [(d, .inr (0, [.ref w, .int (-1), .int 0, .int 0])), (w, .inl (cI, 384, .inl W0))] U.heap ∧ KK dC dI cI cZ cJ cT U)) (vp_Si (fun r => r = 0)) 0 0 (fun _ => False) := by
  refine Met.ofW (cc := cD_isGood) (maxL := 2) (ret := (some .boolean)) (by decide) rfl ?_
  intro p e s m args below meth c s₁ B hml hv
  obtain ⟨rfl, hP, hKK⟩ := hv
  have hK := hKK.1
  have hx := B.exec
  have hb := B.bytes
  have hr := B.returns
  have hw : ∀ w ∈ wsA, w.before _ s = true := fun w h => atoms_spec (ws := (Cond.code yD_isGood cD_isGood 2 (some .boolean) :: wsA)) B.pre w (List.mem_cons_of_mem _ h)
  have hown : s.vm.findClass "LoggedStore$Disk" = some m.cls := findClass_of_methodNamed B.named
  have hlocks := B.notSynchronized
  have hl := lv_entry ([.ref d, .int 1]) (n := 2) (Nat.le_of_ble_eq_true rfl)
  rw [lg_entry_eq]
  generalize (lg_sl ([.ref d, .int 1]) ++ List.replicate (2 - (lg_sl ([.ref d, .int 1])).length) Slot.unset).toArray = ls at hl ⊢
  have hl : lv_has ls 2 [(0, .ref d), (1, .int 1)] := hl
  refine lv_aload_n hx hb dD_isGood_0 rfl (lv_at hl 0 rfl) ?_
  refine lv_iload_n hx hb dD_isGood_1 rfl (lv_at hl 1 rfl) ?_
  refine lv_iconst (v := 3) hx hb dD_isGood_2 (by decide) ?_
  have hPc := hP.sub (ws' := [(d, .inr (0, [.ref w, .int (-1), .int 0, .int 0])), (w, .inl (cI, 384, .inl W0))]) [0, 1] rfl
  refine vp_callSi (W.runV (C := "LoggedStore$Disk") (b := d) (As := [.int 1, .int 3]) (rest := []) ⟨hx, hb, hml, hown, hw⟩ (c_wordOf l dC dI cI cZ cJ cT d w W0 1 3 (tv_in (by decide +kernel))) ⟨callB_of 2 hw (gA0 w223) rfl rfl rfl (hw _ w41) (hw _ w220) (by decide +kernel) ⟨Nat.le_of_ble_eq_true rfl, Nat.le_of_ble_eq_true rfl⟩, (hw _ w221), (hw _ w222)⟩ ⟨kb_S, va_recv (ci := 0) (q0 := 0) hK hP rfl rfl, fun U hU hW => ⟨rfl, by rw [hU]; exact hPc, hKK.moved hW⟩⟩ rfl rfl hl.1 rfl (lv_room (Nat.le_of_ble_eq_true rfl)) dD_isGood_3 ⟨Nat.le_of_ble_eq_true rfl, Nat.le_of_ble_eq_true rfl⟩) (fun r1 e2 => ?_)
  obtain rfl : r1 = 0 := e2.trans (by decide +kernel)
  refine lv_iload_n hx hb dD_isGood_6 rfl (lv_at hl 1 rfl) ?_
  refine lv_aload_n hx hb dD_isGood_7 rfl (lv_at hl 0 rfl) ?_
  refine lv_iload_n hx hb dD_isGood_8 rfl (lv_at hl 1 rfl) ?_
  refine lv_iconst (v := 0) hx hb dD_isGood_9 (by decide) ?_
  have hPc := hP.sub (ws' := [(d, .inr (0, [.ref w, .int (-1), .int 0, .int 0])), (w, .inl (cI, 384, .inl W0))]) [0, 1] rfl
  refine vp_callSi (W.runV (C := "LoggedStore$Disk") (b := d) (As := [.int 1, .int 0]) (rest := [.int 1, .int 0]) ⟨hx, hb, hml, hown, hw⟩ (c_wordOf l dC dI cI cZ cJ cT d w W0 1 0 (tv_in (by decide +kernel))) ⟨callB_of 2 hw (gA0 w223) rfl rfl rfl (hw _ w41) (hw _ w220) (by decide +kernel) ⟨Nat.le_of_ble_eq_true rfl, Nat.le_of_ble_eq_true rfl⟩, (hw _ w221), (hw _ w222)⟩ ⟨kb_S, va_recv (ci := 0) (q0 := 0) hK hP rfl rfl, fun U hU hW => ⟨rfl, by rw [hU]; exact hPc, hKK.moved hW⟩⟩ rfl rfl hl.1 rfl (lv_room (Nat.le_of_ble_eq_true rfl)) dD_isGood_10 ⟨Nat.le_of_ble_eq_true rfl, Nat.le_of_ble_eq_true rfl⟩) (fun r3 e4 => ?_)
  obtain rfl : r3 = 0 := e4.trans (by decide +kernel)
  refine lv_aload_n hx hb dD_isGood_13 rfl (lv_at hl 0 rfl) ?_
  refine lv_iload_n hx hb dD_isGood_14 rfl (lv_at hl 1 rfl) ?_
  refine lv_iconst (v := 1) hx hb dD_isGood_15 (by decide) ?_
  have hPc := hP.sub (ws' := [(d, .inr (0, [.ref w, .int (-1), .int 0, .int 0])), (w, .inl (cI, 384, .inl W0))]) [0, 1] rfl
  refine vp_callSi (W.runV (C := "LoggedStore$Disk") (b := d) (As := [.int 1, .int 1]) (rest := [.int 0, .int 1, .int 0]) ⟨hx, hb, hml, hown, hw⟩ (c_wordOf l dC dI cI cZ cJ cT d w W0 1 1 (tv_in (by decide +kernel))) ⟨callB_of 2 hw (gA0 w223) rfl rfl rfl (hw _ w41) (hw _ w220) (by decide +kernel) ⟨Nat.le_of_ble_eq_true rfl, Nat.le_of_ble_eq_true rfl⟩, (hw _ w221), (hw _ w222)⟩ ⟨kb_S, va_recv (ci := 0) (q0 := 0) hK hP rfl rfl, fun U hU hW => ⟨rfl, by rw [hU]; exact hPc, hKK.moved hW⟩⟩ rfl rfl hl.1 rfl (lv_room (Nat.le_of_ble_eq_true rfl)) dD_isGood_16 ⟨Nat.le_of_ble_eq_true rfl, Nat.le_of_ble_eq_true rfl⟩) (fun r5 e6 => ?_)
  obtain rfl : r5 = 0 := e6.trans (by decide +kernel)
  refine lv_aload_n hx hb dD_isGood_19 rfl (lv_at hl 0 rfl) ?_
  refine lv_iload_n hx hb dD_isGood_20 rfl (lv_at hl 1 rfl) ?_
  refine lv_iconst (v := 2) hx hb dD_isGood_21 (by decide) ?_
  have hPc := hP.sub (ws' := [(d, .inr (0, [.ref w, .int (-1), .int 0, .int 0])), (w, .inl (cI, 384, .inl W0))]) [0, 1] rfl
  refine vp_callSi (W.runV (C := "LoggedStore$Disk") (b := d) (As := [.int 1, .int 2]) (rest := [.int 0, .int 0, .int 1, .int 0]) ⟨hx, hb, hml, hown, hw⟩ (c_wordOf l dC dI cI cZ cJ cT d w W0 1 2 (tv_in (by decide +kernel))) ⟨callB_of 2 hw (gA0 w223) rfl rfl rfl (hw _ w41) (hw _ w220) (by decide +kernel) ⟨Nat.le_of_ble_eq_true rfl, Nat.le_of_ble_eq_true rfl⟩, (hw _ w221), (hw _ w222)⟩ ⟨kb_S, va_recv (ci := 0) (q0 := 0) hK hP rfl rfl, fun U hU hW => ⟨rfl, by rw [hU]; exact hPc, hKK.moved hW⟩⟩ rfl rfl hl.1 rfl (lv_room (Nat.le_of_ble_eq_true rfl)) dD_isGood_22 ⟨Nat.le_of_ble_eq_true rfl, Nat.le_of_ble_eq_true rfl⟩) (fun r7 e8 => ?_)
  obtain rfl : r7 = 0 := e8.trans (by decide +kernel)
  have hPc := hP.sub (ws' := []) [] rfl
  refine vp_callSi (W.runS (As := [.int 1, .int 0, .int 0, .int 0]) (rest := [.int 0]) ⟨hx, hb, hml, hown, hw⟩ (c_chk l dC dI cI cZ cJ cT 1 0 0 0) ⟨callB_of 4 hw (gA0 w146) rfl rfl rfl (hw _ w41) (hw _ w144) (by decide +kernel) ⟨Nat.le_of_ble_eq_true rfl, Nat.le_of_ble_eq_true rfl⟩, (hw _ w145)⟩ ⟨kb_S, fun U hU hW => ⟨rfl, by rw [hU]; exact hPc, hKK.moved hW⟩⟩ rfl rfl hl.1 rfl (lv_room (Nat.le_of_ble_eq_true rfl)) dD_isGood_25 ⟨Nat.le_of_ble_eq_true rfl, Nat.le_of_ble_eq_true rfl⟩) (fun r9 e10 => ?_)
  obtain rfl : r9 = 1013904320 := e10.trans (by decide +kernel)
  refine lv_icmp_ne (tgt := 35) hx hb dD_isGood_28 (by decide) (fun _ => ?_) (fun h9 => absurd h9 (by decide))
  refine lv_iconst (v := 0) hx hb dD_isGood_35 (by decide) ?_
  exact W.zret (v := 0) (ty := .boolean) hx hb hr (by decide) (fun t ht hW => ⟨0, rfl, rfl, ht⟩) (fun q h => by cases h) dD_isGood_36

set_option maxHeartbeats 4000000 in
set_option maxRecDepth 100000 in
theorem c_isGood22 (l : Launch) (dC : Nat → ClassId) (dI : Nat → Nat → Nat) (cI cZ cJ cT : ClassId) (d w : Nat) : Met l yD_isGood (Cond.code yD_isGood cD_isGood 2 (some .boolean) :: wsA) ({ frames := 1, cells := 0, slots := 0, locals := 23 }) (va_Pc [.ref d, .int 22] (fun U => va_P (dC, dI) vwC [(d, .inr (0, [.ref w, .int (-1), .int 0, .int 0])), (w, .inl (cI, 384, .inl W0))] U.heap ∧ KK dC dI cI cZ cJ cT U)) (vp_Si (fun r => r = 0)) 0 0 (fun _ => False) := by
  refine Met.ofW (cc := cD_isGood) (maxL := 2) (ret := (some .boolean)) (by decide) rfl ?_
  intro p e s m args below meth c s₁ B hml hv
  obtain ⟨rfl, hP, hKK⟩ := hv
  have hK := hKK.1
  have hx := B.exec
  have hb := B.bytes
  have hr := B.returns
  have hw : ∀ w ∈ wsA, w.before _ s = true := fun w h => atoms_spec (ws := (Cond.code yD_isGood cD_isGood 2 (some .boolean) :: wsA)) B.pre w (List.mem_cons_of_mem _ h)
  have hown : s.vm.findClass "LoggedStore$Disk" = some m.cls := findClass_of_methodNamed B.named
  have hlocks := B.notSynchronized
  have hl := lv_entry ([.ref d, .int 22]) (n := 2) (Nat.le_of_ble_eq_true rfl)
  rw [lg_entry_eq]
  generalize (lg_sl ([.ref d, .int 22]) ++ List.replicate (2 - (lg_sl ([.ref d, .int 22])).length) Slot.unset).toArray = ls at hl ⊢
  have hl : lv_has ls 2 [(0, .ref d), (1, .int 22)] := hl
  refine lv_aload_n hx hb dD_isGood_0 rfl (lv_at hl 0 rfl) ?_
  refine lv_iload_n hx hb dD_isGood_1 rfl (lv_at hl 1 rfl) ?_
  refine lv_iconst (v := 3) hx hb dD_isGood_2 (by decide) ?_
  have hPc := hP.sub (ws' := [(d, .inr (0, [.ref w, .int (-1), .int 0, .int 0])), (w, .inl (cI, 384, .inl W0))]) [0, 1] rfl
  refine vp_callSi (W.runV (C := "LoggedStore$Disk") (b := d) (As := [.int 22, .int 3]) (rest := []) ⟨hx, hb, hml, hown, hw⟩ (c_wordOf l dC dI cI cZ cJ cT d w W0 22 3 (tv_in (by decide +kernel))) ⟨callB_of 2 hw (gA0 w223) rfl rfl rfl (hw _ w41) (hw _ w220) (by decide +kernel) ⟨Nat.le_of_ble_eq_true rfl, Nat.le_of_ble_eq_true rfl⟩, (hw _ w221), (hw _ w222)⟩ ⟨kb_S, va_recv (ci := 0) (q0 := 0) hK hP rfl rfl, fun U hU hW => ⟨rfl, by rw [hU]; exact hPc, hKK.moved hW⟩⟩ rfl rfl hl.1 rfl (lv_room (Nat.le_of_ble_eq_true rfl)) dD_isGood_3 ⟨Nat.le_of_ble_eq_true rfl, Nat.le_of_ble_eq_true rfl⟩) (fun r1 e2 => ?_)
  obtain rfl : r1 = 0 := e2.trans (by decide +kernel)
  refine lv_iload_n hx hb dD_isGood_6 rfl (lv_at hl 1 rfl) ?_
  refine lv_aload_n hx hb dD_isGood_7 rfl (lv_at hl 0 rfl) ?_
  refine lv_iload_n hx hb dD_isGood_8 rfl (lv_at hl 1 rfl) ?_
  refine lv_iconst (v := 0) hx hb dD_isGood_9 (by decide) ?_
  have hPc := hP.sub (ws' := [(d, .inr (0, [.ref w, .int (-1), .int 0, .int 0])), (w, .inl (cI, 384, .inl W0))]) [0, 1] rfl
  refine vp_callSi (W.runV (C := "LoggedStore$Disk") (b := d) (As := [.int 22, .int 0]) (rest := [.int 22, .int 0]) ⟨hx, hb, hml, hown, hw⟩ (c_wordOf l dC dI cI cZ cJ cT d w W0 22 0 (tv_in (by decide +kernel))) ⟨callB_of 2 hw (gA0 w223) rfl rfl rfl (hw _ w41) (hw _ w220) (by decide +kernel) ⟨Nat.le_of_ble_eq_true rfl, Nat.le_of_ble_eq_true rfl⟩, (hw _ w221), (hw _ w222)⟩ ⟨kb_S, va_recv (ci := 0) (q0 := 0) hK hP rfl rfl, fun U hU hW => ⟨rfl, by rw [hU]; exact hPc, hKK.moved hW⟩⟩ rfl rfl hl.1 rfl (lv_room (Nat.le_of_ble_eq_true rfl)) dD_isGood_10 ⟨Nat.le_of_ble_eq_true rfl, Nat.le_of_ble_eq_true rfl⟩) (fun r3 e4 => ?_)
  obtain rfl : r3 = 0 := e4.trans (by decide +kernel)
  refine lv_aload_n hx hb dD_isGood_13 rfl (lv_at hl 0 rfl) ?_
  refine lv_iload_n hx hb dD_isGood_14 rfl (lv_at hl 1 rfl) ?_
  refine lv_iconst (v := 1) hx hb dD_isGood_15 (by decide) ?_
  have hPc := hP.sub (ws' := [(d, .inr (0, [.ref w, .int (-1), .int 0, .int 0])), (w, .inl (cI, 384, .inl W0))]) [0, 1] rfl
  refine vp_callSi (W.runV (C := "LoggedStore$Disk") (b := d) (As := [.int 22, .int 1]) (rest := [.int 0, .int 22, .int 0]) ⟨hx, hb, hml, hown, hw⟩ (c_wordOf l dC dI cI cZ cJ cT d w W0 22 1 (tv_in (by decide +kernel))) ⟨callB_of 2 hw (gA0 w223) rfl rfl rfl (hw _ w41) (hw _ w220) (by decide +kernel) ⟨Nat.le_of_ble_eq_true rfl, Nat.le_of_ble_eq_true rfl⟩, (hw _ w221), (hw _ w222)⟩ ⟨kb_S, va_recv (ci := 0) (q0 := 0) hK hP rfl rfl, fun U hU hW => ⟨rfl, by rw [hU]; exact hPc, hKK.moved hW⟩⟩ rfl rfl hl.1 rfl (lv_room (Nat.le_of_ble_eq_true rfl)) dD_isGood_16 ⟨Nat.le_of_ble_eq_true rfl, Nat.le_of_ble_eq_true rfl⟩) (fun r5 e6 => ?_)
  obtain rfl : r5 = 0 := e6.trans (by decide +kernel)
  refine lv_aload_n hx hb dD_isGood_19 rfl (lv_at hl 0 rfl) ?_
  refine lv_iload_n hx hb dD_isGood_20 rfl (lv_at hl 1 rfl) ?_
  refine lv_iconst (v := 2) hx hb dD_isGood_21 (by decide) ?_
  have hPc := hP.sub (ws' := [(d, .inr (0, [.ref w, .int (-1), .int 0, .int 0])), (w, .inl (cI, 384, .inl W0))]) [0, 1] rfl
  refine vp_callSi (W.runV (C := "LoggedStore$Disk") (b := d) (As := [.int 22, .int 2]) (rest := [.int 0, .int 0, .int 22, .int 0]) ⟨hx, hb, hml, hown, hw⟩ (c_wordOf l dC dI cI cZ cJ cT d w W0 22 2 (tv_in (by decide +kernel))) ⟨callB_of 2 hw (gA0 w223) rfl rfl rfl (hw _ w41) (hw _ w220) (by decide +kernel) ⟨Nat.le_of_ble_eq_true rfl, Nat.le_of_ble_eq_true rfl⟩, (hw _ w221), (hw _ w222)⟩ ⟨kb_S, va_recv (ci := 0) (q0 := 0) hK hP rfl rfl, fun U hU hW => ⟨rfl, by rw [hU]; exact hPc, hKK.moved hW⟩⟩ rfl rfl hl.1 rfl (lv_room (Nat.le_of_ble_eq_true rfl)) dD_isGood_22 ⟨Nat.le_of_ble_eq_true rfl, Nat.le_of_ble_eq_true rfl⟩) (fun r7 e8 => ?_)
  obtain rfl : r7 = 0 := e8.trans (by decide +kernel)
  have hPc := hP.sub (ws' := []) [] rfl
  refine vp_callSi (W.runS (As := [.int 22, .int 0, .int 0, .int 0]) (rest := [.int 0]) ⟨hx, hb, hml, hown, hw⟩ (c_chk l dC dI cI cZ cJ cT 22 0 0 0) ⟨callB_of 4 hw (gA0 w146) rfl rfl rfl (hw _ w41) (hw _ w144) (by decide +kernel) ⟨Nat.le_of_ble_eq_true rfl, Nat.le_of_ble_eq_true rfl⟩, (hw _ w145)⟩ ⟨kb_S, fun U hU hW => ⟨rfl, by rw [hU]; exact hPc, hKK.moved hW⟩⟩ rfl rfl hl.1 rfl (lv_room (Nat.le_of_ble_eq_true rfl)) dD_isGood_25 ⟨Nat.le_of_ble_eq_true rfl, Nat.le_of_ble_eq_true rfl⟩) (fun r9 e10 => ?_)
  obtain rfl : r9 = 1013906357 := e10.trans (by decide +kernel)
  refine lv_icmp_ne (tgt := 35) hx hb dD_isGood_28 (by decide) (fun _ => ?_) (fun h9 => absurd h9 (by decide))
  refine lv_iconst (v := 0) hx hb dD_isGood_35 (by decide) ?_
  exact W.zret (v := 0) (ty := .boolean) hx hb hr (by decide) (fun t ht hW => ⟨0, rfl, rfl, ht⟩) (fun q h => by cases h) dD_isGood_36

set_option maxHeartbeats 4000000 in
set_option maxRecDepth 100000 in
theorem c_isHeader1 (l : Launch) (dC : Nat → ClassId) (dI : Nat → Nat → Nat) (cI cZ cJ cT : ClassId) (x d w tb wa ts : Nat) : Met l yS_isHeader (Cond.code yS_isHeader cS_isHeader 2 (some .boolean) :: wsA) ({ frames := 2, cells := 0, slots := 0, locals := 44 }) (va_Pc [.ref x, .int 1] (fun U => va_P (dC, dI) vwC [(x, .inr (3, [.ref d, .ref tb, .ref wa, .ref ts, .int 0, .int 1, .int 0, .int 22])), (d, .inr (0, [.ref w, .int (-1), .int 0, .int 0])), (w, .inl (cI, 384, .inl W0))] U.heap ∧ KK dC dI cI cZ cJ cT U)) (vp_Si (fun r => r = 0)) 0 0 (fun _ => False) := by
  refine Met.ofW (cc := cS_isHeader) (maxL := 2) (ret := (some .boolean)) (by decide) rfl ?_
  intro p e s m args below meth c s₁ B hml hv
  obtain ⟨rfl, hP, hKK⟩ := hv
  have hK := hKK.1
  have hx := B.exec
  have hb := B.bytes
  have hr := B.returns
  have hw : ∀ w ∈ wsA, w.before _ s = true := fun w h => atoms_spec (ws := (Cond.code yS_isHeader cS_isHeader 2 (some .boolean) :: wsA)) B.pre w (List.mem_cons_of_mem _ h)
  have hown : s.vm.findClass "LoggedStore" = some m.cls := findClass_of_methodNamed B.named
  have hlocks := B.notSynchronized
  have hl := lv_entry ([.ref x, .int 1]) (n := 2) (Nat.le_of_ble_eq_true rfl)
  rw [lg_entry_eq]
  generalize (lg_sl ([.ref x, .int 1]) ++ List.replicate (2 - (lg_sl ([.ref x, .int 1])).length) Slot.unset).toArray = ls at hl ⊢
  have hl : lv_has ls 2 [(0, .ref x), (1, .int 1)] := hl
  refine lv_aload_n hx hb dS_isHeader_0 rfl (lv_at hl 0 rfl) ?_
  refine va_get (D := (dC, dI)) (ci := 3) (v := .ref d) (C := "LoggedStore") (T := uS) (N := 8) hx hb hw inS hown hK hP 0 rfl rfl 0 (by decide) (hw _ w154) (fun _ h9 => h9) rfl dS_isHeader_1 ?_
  refine lv_iload_n hx hb dS_isHeader_4 rfl (lv_at hl 1 rfl) ?_
  have hPc := hP.sub (ws' := [(d, .inr (0, [.ref w, .int (-1), .int 0, .int 0])), (w, .inl (cI, 384, .inl W0))]) [1, 2] rfl
  refine vp_callSi (W.runV (C := "LoggedStore$Disk") (b := d) (As := [.int 1]) (rest := []) ⟨hx, hb, hml, hown, hw⟩ (c_isGood1 l dC dI cI cZ cJ cT d w) ⟨callB_of 1 hw (gA0 w219) rfl rfl rfl (hw _ w41) (hw _ w216) (by decide +kernel) ⟨Nat.le_of_ble_eq_true rfl, Nat.le_of_ble_eq_true rfl⟩, (hw _ w217), (hw _ w218)⟩ ⟨kb_S, va_recv (ci := 0) (q0 := 1) hK hP rfl rfl, fun U hU hW => ⟨rfl, by rw [hU]; exact hPc, hKK.moved hW⟩⟩ rfl rfl hl.1 rfl (lv_room (Nat.le_of_ble_eq_true rfl)) dS_isHeader_5 ⟨Nat.le_of_ble_eq_true rfl, Nat.le_of_ble_eq_true rfl⟩) (fun r1 e2 => ?_)
  obtain rfl : r1 = 0 := e2
  refine lv_if_eq (tgt := 31) hx hb dS_isHeader_8 (by decide) (fun _ => ?_) (fun h9 => absurd (by decide) h9)
  refine lv_iconst (v := 0) hx hb dS_isHeader_31 (by decide) ?_
  exact W.zret (v := 0) (ty := .boolean) hx hb hr (by decide) (fun t ht hW => ⟨0, rfl, rfl, ht⟩) (fun q h => by cases h) dS_isHeader_32

set_option maxHeartbeats 4000000 in
set_option maxRecDepth 100000 in
theorem c_countingHeader (l : Launch) (dC : Nat → ClassId) (dI : Nat → Nat → Nat) (cI cZ cJ cT : ClassId) (x d w tb wa ts : Nat) : Met l yS_countingHeader (Cond.code yS_countingHeader cS_countingHeader 1 (some .int) :: wsA) ({ frames := 3, cells := 0, slots := 0, locals := 65 }) (va_Pc [.ref x] (fun U => va_P (dC, dI) vwC [(x, .inr (3, [.ref d, .ref tb, .ref wa, .ref ts, .int 0, .int 1, .int 0, .int 22])), (d, .inr (0, [.ref w, .int (-1), .int 0, .int 0])), (w, .inl (cI, 384, .inl W0))] U.heap ∧ KK dC dI cI cZ cJ cT U)) (vp_Si (fun r => r = 0)) 0 0 (fun _ => False) := by
  refine Met.ofW (cc := cS_countingHeader) (maxL := 1) (ret := (some .int)) (by decide) rfl ?_
  intro p e s m args below meth c s₁ B hml hv
  obtain ⟨rfl, hP, hKK⟩ := hv
  have hK := hKK.1
  have hx := B.exec
  have hb := B.bytes
  have hr := B.returns
  have hw : ∀ w ∈ wsA, w.before _ s = true := fun w h => atoms_spec (ws := (Cond.code yS_countingHeader cS_countingHeader 1 (some .int) :: wsA)) B.pre w (List.mem_cons_of_mem _ h)
  have hown : s.vm.findClass "LoggedStore" = some m.cls := findClass_of_methodNamed B.named
  have hlocks := B.notSynchronized
  have hl := lv_entry ([.ref x]) (n := 1) (Nat.le_of_ble_eq_true rfl)
  rw [lg_entry_eq]
  generalize (lg_sl ([.ref x]) ++ List.replicate (1 - (lg_sl ([.ref x])).length) Slot.unset).toArray = ls at hl ⊢
  have hl : lv_has ls 1 [(0, .ref x)] := hl
  refine lv_aload_n hx hb dS_countingHeader_0 rfl (lv_at hl 0 rfl) ?_
  refine lv_iconst (v := 1) hx hb dS_countingHeader_1 (by decide) ?_
  have hPc := hP.sub (ws' := [(x, .inr (3, [.ref d, .ref tb, .ref wa, .ref ts, .int 0, .int 1, .int 0, .int 22])), (d, .inr (0, [.ref w, .int (-1), .int 0, .int 0])), (w, .inl (cI, 384, .inl W0))]) [0, 1, 2] rfl
  refine vp_callSi (W.runV (C := "LoggedStore") (b := x) (As := [.int 1]) (rest := []) ⟨hx, hb, hml, hown, hw⟩ (c_isHeader1 l dC dI cI cZ cJ cT x d w tb wa ts) ⟨callB_of 1 hw (gA0 w215) rfl rfl rfl (hw _ w40) (hw _ w212) (by decide +kernel) ⟨Nat.le_of_ble_eq_true rfl, Nat.le_of_ble_eq_true rfl⟩, (hw _ w214), (hw _ w2)⟩ ⟨kb_S, va_recv (ci := 3) (q0 := 0) hK hP rfl rfl, fun U hU hW => ⟨rfl, by rw [hU]; exact hPc, hKK.moved hW⟩⟩ rfl rfl hl.1 rfl (lv_room (Nat.le_of_ble_eq_true rfl)) dS_countingHeader_2 ⟨Nat.le_of_ble_eq_true rfl, Nat.le_of_ble_eq_true rfl⟩) (fun r1 e2 => ?_)
  obtain rfl : r1 = 0 := e2
  refine lv_if_ne (tgt := 10) hx hb dS_countingHeader_5 (by decide) (fun h9 => absurd (by decide) h9) (fun _ => ?_)
  refine lv_iconst (v := 0) hx hb dS_countingHeader_8 (by decide) ?_
  exact W.iret (v := 0) hx hb hr (fun t ht hW => ⟨0, rfl, rfl, ht⟩) (fun q h => by cases h) dS_countingHeader_9

set_option maxHeartbeats 4000000 in
set_option maxRecDepth 100000 in
theorem c_isOfThisLog (l : Launch) (dC : Nat → ClassId) (dI : Nat → Nat → Nat) (cI cZ cJ cT : ClassId) (x d w tb wa ts : Nat) : Met l yS_isOfThisLog (Cond.code yS_isOfThisLog cS_isOfThisLog 2 (some .boolean) :: wsA) ({ frames := 2, cells := 0, slots := 0, locals := 44 }) (va_Pc [.ref x, .int 22] (fun U => va_P (dC, dI) vwC [(x, .inr (3, [.ref d, .ref tb, .ref wa, .ref ts, .int 0, .int 1, .int 0, .int 22])), (d, .inr (0, [.ref w, .int (-1), .int 0, .int 0])), (w, .inl (cI, 384, .inl W0))] U.heap ∧ KK dC dI cI cZ cJ cT U)) (vp_Si (fun r => r = 0)) 0 0 (fun _ => False) := by
  refine Met.ofW (cc := cS_isOfThisLog) (maxL := 2) (ret := (some .boolean)) (by decide) rfl ?_
  intro p e s m args below meth c s₁ B hml hv
  obtain ⟨rfl, hP, hKK⟩ := hv
  have hK := hKK.1
  have hx := B.exec
  have hb := B.bytes
  have hr := B.returns
  have hw : ∀ w ∈ wsA, w.before _ s = true := fun w h => atoms_spec (ws := (Cond.code yS_isOfThisLog cS_isOfThisLog 2 (some .boolean) :: wsA)) B.pre w (List.mem_cons_of_mem _ h)
  have hown : s.vm.findClass "LoggedStore" = some m.cls := findClass_of_methodNamed B.named
  have hlocks := B.notSynchronized
  have hl := lv_entry ([.ref x, .int 22]) (n := 2) (Nat.le_of_ble_eq_true rfl)
  rw [lg_entry_eq]
  generalize (lg_sl ([.ref x, .int 22]) ++ List.replicate (2 - (lg_sl ([.ref x, .int 22])).length) Slot.unset).toArray = ls at hl ⊢
  have hl : lv_has ls 2 [(0, .ref x), (1, .int 22)] := hl
  refine lv_aload_n hx hb dS_isOfThisLog_0 rfl (lv_at hl 0 rfl) ?_
  refine va_get (D := (dC, dI)) (ci := 3) (v := .ref d) (C := "LoggedStore") (T := uS) (N := 8) hx hb hw inS hown hK hP 0 rfl rfl 0 (by decide) (hw _ w154) (fun _ h9 => h9) rfl dS_isOfThisLog_1 ?_
  refine lv_iload_n hx hb dS_isOfThisLog_4 rfl (lv_at hl 1 rfl) ?_
  have hPc := hP.sub (ws' := [(d, .inr (0, [.ref w, .int (-1), .int 0, .int 0])), (w, .inl (cI, 384, .inl W0))]) [1, 2] rfl
  refine vp_callSi (W.runV (C := "LoggedStore$Disk") (b := d) (As := [.int 22]) (rest := []) ⟨hx, hb, hml, hown, hw⟩ (c_isGood22 l dC dI cI cZ cJ cT d w) ⟨callB_of 1 hw (gA0 w219) rfl rfl rfl (hw _ w41) (hw _ w216) (by decide +kernel) ⟨Nat.le_of_ble_eq_true rfl, Nat.le_of_ble_eq_true rfl⟩, (hw _ w217), (hw _ w218)⟩ ⟨kb_S, va_recv (ci := 0) (q0 := 1) hK hP rfl rfl, fun U hU hW => ⟨rfl, by rw [hU]; exact hPc, hKK.moved hW⟩⟩ rfl rfl hl.1 rfl (lv_room (Nat.le_of_ble_eq_true rfl)) dS_isOfThisLog_5 ⟨Nat.le_of_ble_eq_true rfl, Nat.le_of_ble_eq_true rfl⟩) (fun r1 e2 => ?_)
  obtain rfl : r1 = 0 := e2
  refine lv_if_eq (tgt := 35) hx hb dS_isOfThisLog_8 (by decide) (fun _ => ?_) (fun h9 => absurd (by decide) h9)
  refine lv_iconst (v := 0) hx hb dS_isOfThisLog_35 (by decide) ?_
  exact W.zret (v := 0) (ty := .boolean) hx hb hr (by decide) (fun t ht hW => ⟨0, rfl, rfl, ht⟩) (fun q h => by cases h) dS_isOfThisLog_36

set_option maxHeartbeats 4000000 in
set_option maxRecDepth 100000 in
theorem c_areaBegin0 (l : Launch) (dC : Nat → ClassId) (dI : Nat → Nat → Nat) (cI cZ cJ cT : ClassId) : Met l yS_areaBegin (Cond.code yS_areaBegin cS_areaBegin 1 (some .int) :: wsA) ({ frames := 0, cells := 0, slots := 0, locals := 0 }) (va_Pc [.int 0] (fun U => va_P (dC, dI) vwC [] U.heap ∧ KK dC dI cI cZ cJ cT U)) (vp_Si (fun r => r = 2)) 0 0 (fun _ => False) := by
  refine Met.ofW (cc := cS_areaBegin) (maxL := 1) (ret := (some .int)) (by decide) rfl ?_
  intro p e s m args below meth c s₁ B hml hv
  obtain ⟨rfl, hP, hKK⟩ := hv
  have hK := hKK.1
  have hx := B.exec
  have hb := B.bytes
  have hr := B.returns
  have hw : ∀ w ∈ wsA, w.before _ s = true := fun w h => atoms_spec (ws := (Cond.code yS_areaBegin cS_areaBegin 1 (some .int) :: wsA)) B.pre w (List.mem_cons_of_mem _ h)
  have hown : s.vm.findClass "LoggedStore" = some m.cls := findClass_of_methodNamed B.named
  have hlocks := B.notSynchronized
  have hl := lv_entry ([.int 0]) (n := 1) (Nat.le_of_ble_eq_true rfl)
  rw [lg_entry_eq]
  generalize (lg_sl ([.int 0]) ++ List.replicate (1 - (lg_sl ([.int 0])).length) Slot.unset).toArray = ls at hl ⊢
  have hl : lv_has ls 1 [(0, .int 0)] := hl
  refine lv_iconst (v := 2) hx hb dS_areaBegin_0 (by decide) ?_
  refine lv_bipush (v := 10) hx hb dS_areaBegin_1 (by decide) ?_
  refine lv_iload_n hx hb dS_areaBegin_3 rfl (lv_at hl 0 rfl) ?_
  refine lv_imul hx hb dS_areaBegin_4 ?_
  refine lv_topi (nm_r (e' := 0) (by decide +kernel) ?_)
  refine lv_iadd hx hb dS_areaBegin_5 ?_
  refine lv_topi (nm_r (e' := 2) (by decide +kernel) ?_)
  exact W.iret (v := 2) hx hb hr (fun t ht hW => ⟨2, rfl, rfl, ht⟩) (fun q h => by cases h) dS_areaBegin_6

set_option maxHeartbeats 4000000 in
set_option maxRecDepth 100000 in
theorem c_areaBegin1 (l : Launch) (dC : Nat → ClassId) (dI : Nat → Nat → Nat) (cI cZ cJ cT : ClassId) : Met l yS_areaBegin (Cond.code yS_areaBegin cS_areaBegin 1 (some .int) :: wsA) ({ frames := 0, cells := 0, slots := 0, locals := 0 }) (va_Pc [.int 1] (fun U => va_P (dC, dI) vwC [] U.heap ∧ KK dC dI cI cZ cJ cT U)) (vp_Si (fun r => r = 12)) 0 0 (fun _ => False) := by
  refine Met.ofW (cc := cS_areaBegin) (maxL := 1) (ret := (some .int)) (by decide) rfl ?_
  intro p e s m args below meth c s₁ B hml hv
  obtain ⟨rfl, hP, hKK⟩ := hv
  have hK := hKK.1
  have hx := B.exec
  have hb := B.bytes
  have hr := B.returns
  have hw : ∀ w ∈ wsA, w.before _ s = true := fun w h => atoms_spec (ws := (Cond.code yS_areaBegin cS_areaBegin 1 (some .int) :: wsA)) B.pre w (List.mem_cons_of_mem _ h)
  have hown : s.vm.findClass "LoggedStore" = some m.cls := findClass_of_methodNamed B.named
  have hlocks := B.notSynchronized
  have hl := lv_entry ([.int 1]) (n := 1) (Nat.le_of_ble_eq_true rfl)
  rw [lg_entry_eq]
  generalize (lg_sl ([.int 1]) ++ List.replicate (1 - (lg_sl ([.int 1])).length) Slot.unset).toArray = ls at hl ⊢
  have hl : lv_has ls 1 [(0, .int 1)] := hl
  refine lv_iconst (v := 2) hx hb dS_areaBegin_0 (by decide) ?_
  refine lv_bipush (v := 10) hx hb dS_areaBegin_1 (by decide) ?_
  refine lv_iload_n hx hb dS_areaBegin_3 rfl (lv_at hl 0 rfl) ?_
  refine lv_imul hx hb dS_areaBegin_4 ?_
  refine lv_topi (nm_r (e' := 10) (by decide +kernel) ?_)
  refine lv_iadd hx hb dS_areaBegin_5 ?_
  refine lv_topi (nm_r (e' := 12) (by decide +kernel) ?_)
  exact W.iret (v := 12) hx hb hr (fun t ht hW => ⟨12, rfl, rfl, ht⟩) (fun q h => by cases h) dS_areaBegin_6

set_option maxHeartbeats 4000000 in
set_option maxRecDepth 100000 in
theorem c_word_x (l : Launch) (dC : Nat → ClassId) (dI : Nat → Nat → Nat) (cI cZ cJ cT : ClassId) (x d w tb wa ts : Nat) (b9 i9 : Int32) (hb9 : b9 < 0 ∨ (¬ b9 < 0 ∧ ¬ b9 < 96 ∧ 95 < b9) ∨ (∃ j : Nat, j < 96 ∧ b9 = nI j) ∧ (i9 < 0 ∨ (¬ i9 < 0 ∧ ¬ i9 < 4 ∧ 3 < i9))) : Met l yS_word (Cond.code yS_word cS_word 3 (some .int) :: wsA) ({ frames := 0, cells := 0, slots := 0, locals := 0 }) (va_Pc [.ref x, .int b9, .int i9] (fun U => va_P (dC, dI) vwC [(x, .inr (3, [.ref d, .ref tb, .ref wa, .ref ts, .int 0, .int 1, .int 0, .int 22]))] U.heap ∧ KK dC dI cI cZ cJ cT U)) (vp_Si (fun r => r = 0)) 0 0 (fun _ => False) := by
  refine Met.ofW (cc := cS_word) (maxL := 3) (ret := (some .int)) (by decide) rfl ?_
  intro p e s m args below meth c s₁ B hml hv
  obtain ⟨rfl, hP, hKK⟩ := hv
  rcases hb9 with h1 | ⟨h1, h2, h3⟩ | ⟨⟨j, hj, rfl⟩, h4 | ⟨h4, h5, h6⟩⟩
  · have hK := hKK.1
    have hx := B.exec
    have hb := B.bytes
    have hr := B.returns
    have hw : ∀ w ∈ wsA, w.before _ s = true := fun w h => atoms_spec (ws := (Cond.code yS_word cS_word 3 (some .int) :: wsA)) B.pre w (List.mem_cons_of_mem _ h)
    have hown : s.vm.findClass "LoggedStore" = some m.cls := findClass_of_methodNamed B.named
    have hlocks := B.notSynchronized
    have hl := lv_entry ([.ref x, .int b9, .int i9]) (n := 3) (Nat.le_of_ble_eq_true rfl)
    rw [lg_entry_eq]
    generalize (lg_sl ([.ref x, .int b9, .int i9]) ++ List.replicate (3 - (lg_sl ([.ref x, .int b9, .int i9])).length) Slot.unset).toArray = ls at hl ⊢
    have hl : lv_has ls 3 [(0, .ref x), (1, .int b9), (2, .int i9)] := hl
    refine lv_iload_n hx hb dS_word_0 rfl (lv_at hl 1 rfl) ?_
    refine lv_if_lt (tgt := 19) hx hb dS_word_1 (by decide) (fun _ => ?_) (fun h9 => absurd (h1) h9)
    refine lv_iconst (v := 0) hx hb dS_word_19 (by decide) ?_
    exact W.iret (v := 0) hx hb hr (fun t ht hW => ⟨0, rfl, rfl, ht⟩) (fun q h => by cases h) dS_word_20
  · have hK := hKK.1
    have hx := B.exec
    have hb := B.bytes
    have hr := B.returns
    have hw : ∀ w ∈ wsA, w.before _ s = true := fun w h => atoms_spec (ws := (Cond.code yS_word cS_word 3 (some .int) :: wsA)) B.pre w (List.mem_cons_of_mem _ h)
    have hown : s.vm.findClass "LoggedStore" = some m.cls := findClass_of_methodNamed B.named
    have hlocks := B.notSynchronized
    have hl := lv_entry ([.ref x, .int b9, .int i9]) (n := 3) (Nat.le_of_ble_eq_true rfl)
    rw [lg_entry_eq]
    generalize (lg_sl ([.ref x, .int b9, .int i9]) ++ List.replicate (3 - (lg_sl ([.ref x, .int b9, .int i9])).length) Slot.unset).toArray = ls at hl ⊢
    have hl : lv_has ls 3 [(0, .ref x), (1, .int b9), (2, .int i9)] := hl
    refine lv_iload_n hx hb dS_word_0 rfl (lv_at hl 1 rfl) ?_
    refine lv_if_lt (tgt := 19) hx hb dS_word_1 (by decide) (fun h9 => absurd h9 (h1)) (fun _ => ?_)
    refine lv_iload_n hx hb dS_word_4 rfl (lv_at hl 1 rfl) ?_
    refine lv_bipush (v := 96) hx hb dS_word_5 (by decide) ?_
    refine lv_icmp_ge (tgt := 19) hx hb dS_word_7 (by decide) (fun _ => ?_) (fun h9 => absurd (Int32.not_lt.mp h2) h9)
    refine lv_iconst (v := 0) hx hb dS_word_19 (by decide) ?_
    exact W.iret (v := 0) hx hb hr (fun t ht hW => ⟨0, rfl, rfl, ht⟩) (fun q h => by cases h) dS_word_20
  · have hK := hKK.1
    have hx := B.exec
    have hb := B.bytes
    have hr := B.returns
    have hw : ∀ w ∈ wsA, w.before _ s = true := fun w h => atoms_spec (ws := (Cond.code yS_word cS_word 3 (some .int) :: wsA)) B.pre w (List.mem_cons_of_mem _ h)
    have hown : s.vm.findClass "LoggedStore" = some m.cls := findClass_of_methodNamed B.named
    have hlocks := B.notSynchronized
    have hl := lv_entry ([.ref x, .int (nI j), .int i9]) (n := 3) (Nat.le_of_ble_eq_true rfl)
    rw [lg_entry_eq]
    generalize (lg_sl ([.ref x, .int (nI j), .int i9]) ++ List.replicate (3 - (lg_sl ([.ref x, .int (nI j), .int i9])).length) Slot.unset).toArray = ls at hl ⊢
    have hl : lv_has ls 3 [(0, .ref x), (1, .int (nI j)), (2, .int i9)] := hl
    refine lv_iload_n hx hb dS_word_0 rfl (lv_at hl 1 rfl) ?_
    refine lv_if_lt (tgt := 19) hx hb dS_word_1 (by decide) (fun h9 => absurd h9 (nI_pos (by omega))) (fun _ => ?_)
    refine lv_iload_n hx hb dS_word_4 rfl (lv_at hl 1 rfl) ?_
    refine lv_bipush (v := 96) hx hb dS_word_5 (by decide) ?_
    refine lv_icmp_ge (tgt := 19) hx hb dS_word_7 (by decide) (fun h9 => absurd h9 (nI_ge hj (by decide))) (fun _ => ?_)
    refine lv_iload_n hx hb dS_word_10 rfl (lv_at hl 2 rfl) ?_
    refine lv_if_lt (tgt := 19) hx hb dS_word_11 (by decide) (fun _ => ?_) (fun h9 => absurd (h4) h9)
    refine lv_iconst (v := 0) hx hb dS_word_19 (by decide) ?_
    exact W.iret (v := 0) hx hb hr (fun t ht hW => ⟨0, rfl, rfl, ht⟩) (fun q h => by cases h) dS_word_20
  · have hK := hKK.1
    have hx := B.exec
    have hb := B.bytes
    have hr := B.returns
    have hw : ∀ w ∈ wsA, w.before _ s = true := fun w h => atoms_spec (ws := (Cond.code yS_word cS_word 3 (some .int) :: wsA)) B.pre w (List.mem_cons_of_mem _ h)
    have hown : s.vm.findClass "LoggedStore" = some m.cls := findClass_of_methodNamed B.named
    have hlocks := B.notSynchronized
    have hl := lv_entry ([.ref x, .int (nI j), .int i9]) (n := 3) (Nat.le_of_ble_eq_true rfl)
    rw [lg_entry_eq]
    generalize (lg_sl ([.ref x, .int (nI j), .int i9]) ++ List.replicate (3 - (lg_sl ([.ref x, .int (nI j), .int i9])).length) Slot.unset).toArray = ls at hl ⊢
    have hl : lv_has ls 3 [(0, .ref x), (1, .int (nI j)), (2, .int i9)] := hl
    refine lv_iload_n hx hb dS_word_0 rfl (lv_at hl 1 rfl) ?_
    refine lv_if_lt (tgt := 19) hx hb dS_word_1 (by decide) (fun h9 => absurd h9 (nI_pos (by omega))) (fun _ => ?_)
    refine lv_iload_n hx hb dS_word_4 rfl (lv_at hl 1 rfl) ?_
    refine lv_bipush (v := 96) hx hb dS_word_5 (by decide) ?_
    refine lv_icmp_ge (tgt := 19) hx hb dS_word_7 (by decide) (fun h9 => absurd h9 (nI_ge hj (by decide))) (fun _ => ?_)
    refine lv_iload_n hx hb dS_word_10 rfl (lv_at hl 2 rfl) ?_
    refine lv_if_lt (tgt := 19) hx hb dS_word_11 (by decide) (fun h9 => absurd h9 (h4)) (fun _ => ?_)
    refine lv_iload_n hx hb dS_word_14 rfl (lv_at hl 2 rfl) ?_
    refine lv_iconst (v := 4) hx hb dS_word_15 (by decide) ?_
    refine lv_icmp_lt (tgt := 21) hx hb dS_word_16 (by decide) (fun h9 => absurd h9 (h5)) (fun _ => ?_)
    refine lv_iconst (v := 0) hx hb dS_word_19 (by decide) ?_
    exact W.iret (v := 0) hx hb hr (fun t ht hW => ⟨0, rfl, rfl, ht⟩) (fun q h => by cases h) dS_word_20

set_option maxHeartbeats 4000000 in
set_option maxRecDepth 100000 in
theorem c_word_y (l : Launch) (dC : Nat → ClassId) (dI : Nat → Nat → Nat) (cI cZ cJ cT : ClassId) (x d w tb wa ts : Nat) (j i : Nat) (hj : j < 96) (hi : i < 4) : Met l yS_word (Cond.code yS_word cS_word 3 (some .int) :: wsA) ({ frames := 1, cells := 0, slots := 0, locals := 22 }) (va_Pc [.ref x, .int (nI j), .int (nI i)] (fun U => va_P (dC, dI) vwC [(x, .inr (3, [.ref d, .ref tb, .ref wa, .ref ts, .int 0, .int 1, .int 0, .int 22])), (d, .inr (0, [.ref w, .int (-1), .int 0, .int 0])), (w, .inl (cI, 384, .inl W0))] U.heap ∧ KK dC dI cI cZ cJ cT U)) (vp_Si (fun r => r = W0 ((4 * (nI j)) + (nI i)).toNatClampNeg)) 0 0 (fun _ => False) := by
  refine Met.ofW (cc := cS_word) (maxL := 3) (ret := (some .int)) (by decide) rfl ?_
  intro p e s m args below meth c s₁ B hml hv
  obtain ⟨rfl, hP, hKK⟩ := hv
  have hK := hKK.1
  have hx := B.exec
  have hb := B.bytes
  have hr := B.returns
  have hw : ∀ w ∈ wsA, w.before _ s = true := fun w h => atoms_spec (ws := (Cond.code yS_word cS_word 3 (some .int) :: wsA)) B.pre w (List.mem_cons_of_mem _ h)
  have hown : s.vm.findClass "LoggedStore" = some m.cls := findClass_of_methodNamed B.named
  have hlocks := B.notSynchronized
  have hl := lv_entry ([.ref x, .int (nI j), .int (nI i)]) (n := 3) (Nat.le_of_ble_eq_true rfl)
  rw [lg_entry_eq]
  generalize (lg_sl ([.ref x, .int (nI j), .int (nI i)]) ++ List.replicate (3 - (lg_sl ([.ref x, .int (nI j), .int (nI i)])).length) Slot.unset).toArray = ls at hl ⊢
  have hl : lv_has ls 3 [(0, .ref x), (1, .int (nI j)), (2, .int (nI i))] := hl
  refine lv_iload_n hx hb dS_word_0 rfl (lv_at hl 1 rfl) ?_
  refine lv_if_lt (tgt := 19) hx hb dS_word_1 (by decide) (fun h9 => absurd h9 (nI_pos (by omega))) (fun _ => ?_)
  refine lv_iload_n hx hb dS_word_4 rfl (lv_at hl 1 rfl) ?_
  refine lv_bipush (v := 96) hx hb dS_word_5 (by decide) ?_
  refine lv_icmp_ge (tgt := 19) hx hb dS_word_7 (by decide) (fun h9 => absurd h9 (nI_ge hj (by decide))) (fun _ => ?_)
  refine lv_iload_n hx hb dS_word_10 rfl (lv_at hl 2 rfl) ?_
  refine lv_if_lt (tgt := 19) hx hb dS_word_11 (by decide) (fun h9 => absurd h9 (nI_pos (by omega))) (fun _ => ?_)
  refine lv_iload_n hx hb dS_word_14 rfl (lv_at hl 2 rfl) ?_
  refine lv_iconst (v := 4) hx hb dS_word_15 (by decide) ?_
  refine lv_icmp_lt (tgt := 21) hx hb dS_word_16 (by decide) (fun _ => ?_) (fun h9 => absurd (nI_lt hi (by decide)) h9)
  refine lv_aload_n hx hb dS_word_21 rfl (lv_at hl 0 rfl) ?_
  refine va_get (D := (dC, dI)) (ci := 3) (v := .ref d) (C := "LoggedStore") (T := uS) (N := 8) hx hb hw inS hown hK hP 0 rfl rfl 0 (by decide) (hw _ w154) (fun _ h9 => h9) rfl dS_word_22 ?_
  refine lv_iload_n hx hb dS_word_25 rfl (lv_at hl 1 rfl) ?_
  refine lv_iload_n hx hb dS_word_26 rfl (lv_at hl 2 rfl) ?_
  have hPc := hP.sub (ws' := [(d, .inr (0, [.ref w, .int (-1), .int 0, .int 0])), (w, .inl (cI, 384, .inl W0))]) [1, 2] rfl
  refine vp_callSi (W.runV (C := "LoggedStore$Disk") (b := d) (As := [.int (nI j), .int (nI i)]) (rest := []) ⟨hx, hb, hml, hown, hw⟩ (c_wordOf l dC dI cI cZ cJ cT d w W0 (nI j) (nI i) (by rw [tk_w]; exact vp_in_nI (by omega) (by decide))) ⟨callB_of 2 hw (gA0 w223) rfl rfl rfl (hw _ w41) (hw _ w224) (by decide +kernel) ⟨Nat.le_of_ble_eq_true rfl, Nat.le_of_ble_eq_true rfl⟩, (hw _ w221), (hw _ w222)⟩ ⟨kb_S, va_recv (ci := 0) (q0 := 1) hK hP rfl rfl, fun U hU hW => ⟨rfl, by rw [hU]; exact hPc, hKK.moved hW⟩⟩ rfl rfl hl.1 rfl (lv_room (Nat.le_of_ble_eq_true rfl)) dS_word_27 ⟨Nat.le_of_ble_eq_true rfl, Nat.le_of_ble_eq_true rfl⟩) (fun r1 e2 => ?_)
  obtain rfl : r1 = W0 ((4 * (nI j)) + (nI i)).toNatClampNeg := e2
  exact W.iret (v := W0 ((4 * (nI j)) + (nI i)).toNatClampNeg) hx hb hr (fun t ht hW => ⟨W0 ((4 * (nI j)) + (nI i)).toNatClampNeg, rfl, rfl, ht⟩) (fun q h => by cases h) dS_word_30

set_option maxHeartbeats 4000000 in
set_option maxRecDepth 100000 in
theorem c_powerUp (l : Launch) (dC : Nat → ClassId) (dI : Nat → Nat → Nat) (cI cZ cJ cT : ClassId) (d w : Nat) (sz : Nat) : Met l yD_powerUp (Cond.code yD_powerUp cD_powerUp 1 none :: wsA) ({ frames := 0, cells := 0, slots := 0, locals := 0 }) (va_Pc [.ref d] (fun U => U.heap.size = sz ∧ va_P (dC, dI) vwC [(d, .inr (0, [.ref w, .int (-1), .int 0, .int 0]))] U.heap ∧ KK dC dI cI cZ cJ cT U ∧ va_D (fun _ => True) [(d, .inr (0, [.ref w, .int (-1), .int 0, .int 0]))])) (va_Qv (S := Nat → Nat) (fun _ => True) (fun u t => va_P (dC, dI) vwC [(d, .inr (0, [.ref w, .int (-1), .int 0, .int 0]))] t.heap ∧ va_D (va_A [(d, .inr (0, [.ref w, .int (-1), .int 0, .int 0]))] sz) [(d, .inr (0, [.ref w, .int (-1), .int 0, .int 0]))]) (va_A [(d, .inr (0, [.ref w, .int (-1), .int 0, .int 0]))] sz)) 0 0 (va_A [(d, .inr (0, [.ref w, .int (-1), .int 0, .int 0]))] sz) := by
  refine Met.ofW (cc := cD_powerUp) (maxL := 1) (ret := none) (by decide) rfl ?_
  intro p e s m args below meth c s₁ B hml hv
  obtain ⟨rfl, hsz, hP, hKK, hD0⟩ := hv
  have hK := hKK.1
  have hx := B.exec
  have hb := B.bytes
  have hr := B.returns
  have hw : ∀ w ∈ wsA, w.before _ s = true := fun w h => atoms_spec (ws := (Cond.code yD_powerUp cD_powerUp 1 none :: wsA)) B.pre w (List.mem_cons_of_mem _ h)
  have hown : s.vm.findClass "LoggedStore$Disk" = some m.cls := findClass_of_methodNamed B.named
  have hlocks := B.notSynchronized
  subst hsz
  have hD := hD0.self (sz := s.heap.size)
  generalize hAe : va_A [(d, .inr (0, [.ref w, .int (-1), .int 0, .int 0]))] s.heap.size = A at hD ⊢
  have hA : ∀ q : Nat, s.heap.size ≤ q → A q := fun q h => by rw [← hAe]; exact Or.inr h
  have hS : va_S A s.heap s.heap [] := va_S.rf
  have hl := lv_entry ([.ref d]) (n := 1) (Nat.le_of_ble_eq_true rfl)
  rw [lg_entry_eq]
  generalize (lg_sl ([.ref d]) ++ List.replicate (1 - (lg_sl ([.ref d])).length) Slot.unset).toArray = ls at hl ⊢
  have hl : lv_has ls 1 [(0, .ref d)] := hl
  refine lv_aload_n hx hb dD_powerUp_0 rfl (lv_at hl 0 rfl) ?_
  refine lv_iconst (v := 0) hx hb dD_powerUp_1 (by decide) ?_
  refine va_put (D := (dC, dI)) (ci := 0) (v := .int 0) (ty := .boolean) (C := "LoggedStore$Disk") (T := uD) (N := 4) hx hb hw inD tyD tyD_ok nmD hown hK hP hD hS 0 rfl rfl 3 (by decide) (hw _ w72) (fun _ h9 => h9) rfl (by decide +kernel) rfl rfl (Nat.le_of_ble_eq_true rfl) dD_powerUp_2 (fun H locs hP hD hS => ?_)
  have hP : va_P (dC, dI) vwC [(d, .inr (0, [.ref w, .int (-1), .int 0, .int 0]))] H := hP
  have hD : va_D A [(d, .inr (0, [.ref w, .int (-1), .int 0, .int 0]))] := hD
  refine lv_aload_n hx hb dD_powerUp_5 rfl (lv_at hl 0 rfl) ?_
  refine lv_iconst (v := (-1)) hx hb dD_powerUp_6 (by decide) ?_
  refine va_put (D := (dC, dI)) (ci := 0) (v := .int (-1)) (ty := .int) (C := "LoggedStore$Disk") (T := uD) (N := 4) hx hb hw inD tyD tyD_ok nmD hown hK hP hD hS 0 rfl rfl 1 (by decide) (hw _ w70) (fun _ h9 => h9) rfl (by decide +kernel) rfl rfl (Nat.le_of_ble_eq_true rfl) dD_powerUp_7 (fun H locs hP hD hS => ?_)
  have hP : va_P (dC, dI) vwC [(d, .inr (0, [.ref w, .int (-1), .int 0, .int 0]))] H := hP
  have hD : va_D A [(d, .inr (0, [.ref w, .int (-1), .int 0, .int 0]))] := hD
  have hP9 := hP.sub (ws' := [(d, .inr (0, [.ref w, .int (-1), .int 0, .int 0]))]) [0] rfl
  have hD9 := hD.sub (ws' := [(d, .inr (0, [.ref w, .int (-1), .int 0, .int 0]))]) [0] (by decide) rfl
  refine W.widen (k := 0) (n := 0) (by decide) (by decide) ?_
  exact W.vret hx hb hr (fun t ht hW => ⟨⟨fun _ => 0, rfl, trivial, by rw [ht]; exact hP9, hD9⟩, hS.F ht⟩) hS.2.2 dD_powerUp_10

set_option maxHeartbeats 4000000 in
set_option maxRecDepth 100000 in
theorem c_fill (l : Launch) (dC : Nat → ClassId) (dI : Nat → Nat → Nat) (cI cZ cJ cT : ClassId) (wa : Nat) (sz : Nat) : Met l yY_fill (Cond.code yY_fill cY_fill 4 none :: wsA) ({ frames := 0, cells := 0, slots := 0, locals := 0 }) (va_Pc [.ref wa, .int 0] (fun U => U.heap.size = sz ∧ va_P (dC, dI) vwC [(wa, .inl (cI, 64, .inl (fun _ => 0)))] U.heap ∧ KK dC dI cI cZ cJ cT U ∧ va_D (fun _ => True) [(wa, .inl (cI, 64, .inl (fun _ => 0)))])) (va_Qv (S := Nat → Nat) (fun _ => True) (fun _ _ => True) (va_A [(wa, .inl (cI, 64, .inl (fun _ => 0)))] sz)) 0 0 (va_A [(wa, .inl (cI, 64, .inl (fun _ => 0)))] sz) := by
  refine va_MetF (cc := cY_fill) (maxL := 4) (ret := none) (by decide +kernel) rfl ?_
  intro p e s m args below meth c s₁ B hml hv
  obtain ⟨rfl, hsz, hP, hKK, hD0⟩ := hv
  have hK := hKK.1
  have hx := B.exec
  have hb := B.bytes
  have hr := B.returns
  have hw : ∀ w ∈ wsA, w.before _ s = true := fun w h => atoms_spec (ws := (Cond.code yY_fill cY_fill 4 none :: wsA)) B.pre w (List.mem_cons_of_mem _ h)
  have hown : s.vm.findClass "java/util/Arrays" = some m.cls := findClass_of_methodNamed B.named
  have hlocks := B.notSynchronized
  subst hsz
  have hD := hD0.self (sz := s.heap.size)
  generalize hAe : va_A [(wa, .inl (cI, 64, .inl (fun _ => 0)))] s.heap.size = A at hD ⊢
  have hA : ∀ q : Nat, s.heap.size ≤ q → A q := fun q h => by rw [← hAe]; exact Or.inr h
  have hS : va_S A s.heap s.heap [] := va_S.rf
  have hl := lv_entry ([.ref wa, .int 0]) (n := 4) (Nat.le_of_ble_eq_true rfl)
  rw [lg_entry_eq]
  generalize (lg_sl ([.ref wa, .int 0]) ++ List.replicate (4 - (lg_sl ([.ref wa, .int 0])).length) Slot.unset).toArray = ls at hl ⊢
  have hl : lv_has ls 4 [(0, .ref wa), (1, .int 0)] := hl
  refine lv_iconst (v := 0) hx hb dY_fill_0 (by decide) ?_
  refine lv_istore_n hx hb dY_fill_1 rfl hl (by decide) rfl (fun ls hl => ?_)
  have hl : lv_has ls 4 [(2, .int 0), (0, .ref wa), (1, .int 0)] := hl
  refine lv_aload_n hx hb dY_fill_2 rfl (lv_at hl 1 rfl) ?_
  refine va_alen (v := 64) hx hb hK hP 0 0 rfl rfl (by decide) dY_fill_3 ?_
  refine lv_istore_n hx hb dY_fill_4 rfl hl (by decide) rfl (fun ls hl => ?_)
  have hl : lv_has ls 4 [(3, .int 64), (2, .int 0), (0, .ref wa), (1, .int 0)] := hl
  refine tk_forW (nL := 4) (D := (dC, dI)) (cl := vwC) (A := A) (H0 := s.heap) (σ := (Nat → Int32)) (G := fun ls H locs => W p l e _ s m _ below meth c H locs _ _ _ (F0 m 5 ls [])) (fun i => [(3, .int 64), (2, .int (nI i)), (0, .ref wa), (1, .int 0)]) (fun z => [(wa, .inl (cI, 64, .inl z))]) 64 ?_ ?_ (fun _ => 0) ls s.heap [] hl hP hD hS
  · intro z ls H locs hl hP hD hS
    have hl : lv_has ls 4 [(3, .int 64), (2, .int (nI 64)), (0, .ref wa), (1, .int 0)] := hl
    have hP : va_P (dC, dI) vwC [(wa, .inl (cI, 64, .inl z))] H := hP
    have hD : va_D A [(wa, .inl (cI, 64, .inl z))] := hD
    refine lv_iload_n hx hb dY_fill_5 rfl (lv_at hl 1 rfl) ?_
    refine lv_iload_n hx hb dY_fill_6 rfl (lv_at hl 0 rfl) ?_
    refine lv_icmp_ge (tgt := 20) hx hb dY_fill_7 (by decide) (fun _ => ?_) (fun h9 => absurd (by decide +kernel) h9)
    refine W.widen (k := 0) (n := 0) (by decide) (by decide) ?_
    exact W.vret hx hb hr (fun t ht hW => ⟨⟨fun _ => 0, rfl, trivial, trivial⟩, hS.F ht⟩) hS.2.2 dY_fill_20
  · intro i hi z ls H locs hl hP hD hS ih
    have hl : lv_has ls 4 [(3, .int 64), (2, .int (nI i)), (0, .ref wa), (1, .int 0)] := hl
    have hP : va_P (dC, dI) vwC [(wa, .inl (cI, 64, .inl z))] H := hP
    have hD : va_D A [(wa, .inl (cI, 64, .inl z))] := hD
    refine lv_iload_n hx hb dY_fill_5 rfl (lv_at hl 1 rfl) ?_
    refine lv_iload_n hx hb dY_fill_6 rfl (lv_at hl 0 rfl) ?_
    refine lv_icmp_ge (tgt := 20) hx hb dY_fill_7 (by decide) (fun h9 => absurd h9 (nI_ge hi (by decide))) (fun _ => ?_)
    refine lv_aload_n hx hb dY_fill_10 rfl (lv_at hl 2 rfl) ?_
    refine lv_iload_n hx hb dY_fill_11 rfl (lv_at hl 1 rfl) ?_
    refine lv_iload_n hx hb dY_fill_12 rfl (lv_at hl 3 rfl) ?_
    refine va_iast hx hb hK hP hD hS 0 0 rfl rfl (vp_in_nI hi (by decide)) dY_fill_13 (fun H locs hP hD hS => ?_)
    have hP : va_P (dC, dI) vwC [(wa, .inl (cI, 64, .inl (upd z (nI i : Int32).toNatClampNeg 0)))] H := hP
    have hD : va_D A [(wa, .inl (cI, 64, .inl (upd z (nI i : Int32).toNatClampNeg 0)))] := hD
    refine lv_iinc (k := 1) (v := nI (i + 1)) hx hb dY_fill_14 hl rfl (nI_1 i) (by decide) rfl (fun ls hl => ?_)
    have hl : lv_has ls 4 [(2, .int (nI (i + 1))), (3, .int 64), (0, .ref wa), (1, .int 0)] := hl
    refine lv_goto (tgt := 5) hx hb dY_fill_17 (by decide) ?_
    have hl := lv_sub (l' := [(3, .int 64), (2, .int (nI (i + 1))), (0, .ref wa), (1, .int 0)]) hl [1, 0, 2, 3] rfl
    exact ih (upd z (nI i : Int32).toNatClampNeg 0) ls H locs hl hP hD hS

set_option maxHeartbeats 4000000 in
set_option maxRecDepth 100000 in
theorem c_makeEmpty (l : Launch) (dC : Nat → ClassId) (dI : Nat → Nat → Nat) (cI cZ cJ cT : ClassId) (tb hs ns : Nat) (sz : Nat) : Met l yT_makeEmpty (Cond.code yT_makeEmpty cT_makeEmpty 2 none :: wsA) ({ frames := 0, cells := 0, slots := 0, locals := 0 }) (va_Pc [.ref tb] (fun U => U.heap.size = sz ∧ va_P (dC, dI) vwC [(tb, .inr (1, [.ref hs, .ref ns, .int 0])), (hs, .inl (cZ, 64, .inl (fun _ => 0)))] U.heap ∧ KK dC dI cI cZ cJ cT U ∧ va_D (fun _ => True) [(tb, .inr (1, [.ref hs, .ref ns, .int 0])), (hs, .inl (cZ, 64, .inl (fun _ => 0)))])) (va_Qv (S := Nat → Nat) (fun _ => True) (fun u t => va_P (dC, dI) vwC [(tb, .inr (1, [.ref hs, .ref ns, .int 0]))] t.heap ∧ va_D (va_A [(tb, .inr (1, [.ref hs, .ref ns, .int 0])), (hs, .inl (cZ, 64, .inl (fun _ => 0)))] sz) [(tb, .inr (1, [.ref hs, .ref ns, .int 0]))]) (va_A [(tb, .inr (1, [.ref hs, .ref ns, .int 0])), (hs, .inl (cZ, 64, .inl (fun _ => 0)))] sz)) 0 0 (va_A [(tb, .inr (1, [.ref hs, .ref ns, .int 0])), (hs, .inl (cZ, 64, .inl (fun _ => 0)))] sz) := by
  refine Met.ofW (cc := cT_makeEmpty) (maxL := 2) (ret := none) (by decide) rfl ?_
  intro p e s m args below meth c s₁ B hml hv
  obtain ⟨rfl, hsz, hP, hKK, hD0⟩ := hv
  have hK := hKK.1
  have hx := B.exec
  have hb := B.bytes
  have hr := B.returns
  have hw : ∀ w ∈ wsA, w.before _ s = true := fun w h => atoms_spec (ws := (Cond.code yT_makeEmpty cT_makeEmpty 2 none :: wsA)) B.pre w (List.mem_cons_of_mem _ h)
  have hown : s.vm.findClass "LoggedStore$Table" = some m.cls := findClass_of_methodNamed B.named
  have hlocks := B.notSynchronized
  subst hsz
  have hD := hD0.self (sz := s.heap.size)
  generalize hAe : va_A [(tb, .inr (1, [.ref hs, .ref ns, .int 0])), (hs, .inl (cZ, 64, .inl (fun _ => 0)))] s.heap.size = A at hD ⊢
  have hA : ∀ q : Nat, s.heap.size ≤ q → A q := fun q h => by rw [← hAe]; exact Or.inr h
  have hS : va_S A s.heap s.heap [] := va_S.rf
  have hl := lv_entry ([.ref tb]) (n := 2) (Nat.le_of_ble_eq_true rfl)
  rw [lg_entry_eq]
  generalize (lg_sl ([.ref tb]) ++ List.replicate (2 - (lg_sl ([.ref tb])).length) Slot.unset).toArray = ls at hl ⊢
  have hl : lv_has ls 2 [(0, .ref tb)] := hl
  refine lv_iconst (v := 0) hx hb dT_makeEmpty_0 (by decide) ?_
  refine lv_istore_n hx hb dT_makeEmpty_1 rfl hl (by decide) rfl (fun ls hl => ?_)
  have hl : lv_has ls 2 [(1, .int 0), (0, .ref tb)] := hl
  refine tk_forW (nL := 2) (D := (dC, dI)) (cl := vwC) (A := A) (H0 := s.heap) (σ := (Nat → Int32)) (G := fun ls H locs => W p l e _ s m _ below meth c H locs _ _ _ (F0 m 2 ls [])) (fun i => [(1, .int (nI i)), (0, .ref tb)]) (fun z => [(tb, .inr (1, [.ref hs, .ref ns, .int 0])), (hs, .inl (cZ, 64, .inl z))]) 64 ?_ ?_ (fun _ => 0) ls s.heap [] hl hP hD hS
  · intro z ls H locs hl hP hD hS
    have hl : lv_has ls 2 [(1, .int (nI 64)), (0, .ref tb)] := hl
    have hP : va_P (dC, dI) vwC [(tb, .inr (1, [.ref hs, .ref ns, .int 0])), (hs, .inl (cZ, 64, .inl z))] H := hP
    have hD : va_D A [(tb, .inr (1, [.ref hs, .ref ns, .int 0])), (hs, .inl (cZ, 64, .inl z))] := hD
    refine lv_iload_n hx hb dT_makeEmpty_2 rfl (lv_at hl 0 rfl) ?_
    refine lv_bipush (v := 64) hx hb dT_makeEmpty_3 (by decide) ?_
    refine lv_icmp_ge (tgt := 21) hx hb dT_makeEmpty_5 (by decide) (fun _ => ?_) (fun h9 => absurd (by decide +kernel) h9)
    refine lv_aload_n hx hb dT_makeEmpty_21 rfl (lv_at hl 1 rfl) ?_
    refine lv_iconst (v := 0) hx hb dT_makeEmpty_22 (by decide) ?_
    refine va_put (D := (dC, dI)) (ci := 1) (v := .int 0) (ty := .int) (C := "LoggedStore$Table") (T := uT) (N := 3) hx hb hw inT tyT tyT_ok nmT hown hK hP hD hS 0 rfl rfl 2 (by decide) (hw _ w94) (fun _ h9 => h9) rfl (by decide +kernel) rfl rfl (Nat.le_of_ble_eq_true rfl) dT_makeEmpty_23 (fun H locs hP hD hS => ?_)
    have hP : va_P (dC, dI) vwC [(tb, .inr (1, [.ref hs, .ref ns, .int 0])), (hs, .inl (cZ, 64, .inl z))] H := hP
    have hD : va_D A [(tb, .inr (1, [.ref hs, .ref ns, .int 0])), (hs, .inl (cZ, 64, .inl z))] := hD
    have hP9 := hP.sub (ws' := [(tb, .inr (1, [.ref hs, .ref ns, .int 0]))]) [0] rfl
    have hD9 := hD.sub (ws' := [(tb, .inr (1, [.ref hs, .ref ns, .int 0]))]) [0] (by decide) rfl
    refine W.widen (k := 0) (n := 0) (by decide) (by decide) ?_
    exact W.vret hx hb hr (fun t ht hW => ⟨⟨fun _ => 0, rfl, trivial, by rw [ht]; exact hP9, hD9⟩, hS.F ht⟩) hS.2.2 dT_makeEmpty_26
  · intro i hi z ls H locs hl hP hD hS ih
    have hl : lv_has ls 2 [(1, .int (nI i)), (0, .ref tb)] := hl
    have hP : va_P (dC, dI) vwC [(tb, .inr (1, [.ref hs, .ref ns, .int 0])), (hs, .inl (cZ, 64, .inl z))] H := hP
    have hD : va_D A [(tb, .inr (1, [.ref hs, .ref ns, .int 0])), (hs, .inl (cZ, 64, .inl z))] := hD
    refine lv_iload_n hx hb dT_makeEmpty_2 rfl (lv_at hl 0 rfl) ?_
    refine lv_bipush (v := 64) hx hb dT_makeEmpty_3 (by decide) ?_
    refine lv_icmp_ge (tgt := 21) hx hb dT_makeEmpty_5 (by decide) (fun h9 => absurd h9 (nI_ge hi (by decide))) (fun _ => ?_)
    refine lv_aload_n hx hb dT_makeEmpty_8 rfl (lv_at hl 1 rfl) ?_
    refine va_get (D := (dC, dI)) (ci := 1) (v := .ref hs) (C := "LoggedStore$Table") (T := uT) (N := 3) hx hb hw inT hown hK hP 0 rfl rfl 0 (by decide) (hw _ w90) (fun _ h9 => h9) rfl dT_makeEmpty_9 ?_
    refine lv_iload_n hx hb dT_makeEmpty_12 rfl (lv_at hl 0 rfl) ?_
    refine lv_iconst (v := 0) hx hb dT_makeEmpty_13 (by decide) ?_
    refine va_zast hx hb hK hP hD hS 1 1 rfl rfl (vp_in_nI hi (by decide)) dT_makeEmpty_14 (fun H locs hP hD hS => ?_)
    have hP : va_P (dC, dI) vwC [(tb, .inr (1, [.ref hs, .ref ns, .int 0])), (hs, .inl (cZ, 64, .inl (upd z (nI i : Int32).toNatClampNeg (vp_nar .boolean 0))))] H := hP
    have hD : va_D A [(tb, .inr (1, [.ref hs, .ref ns, .int 0])), (hs, .inl (cZ, 64, .inl (upd z (nI i : Int32).toNatClampNeg (vp_nar .boolean 0))))] := hD
    refine lv_iinc (k := 0) (v := nI (i + 1)) hx hb dT_makeEmpty_15 hl rfl (nI_1 i) (by decide) rfl (fun ls hl => ?_)
    have hl : lv_has ls 2 [(1, .int (nI (i + 1))), (0, .ref tb)] := hl
    refine lv_goto (tgt := 2) hx hb dT_makeEmpty_18 (by decide) ?_
    exact ih (upd z (nI i : Int32).toNatClampNeg (vp_nar .boolean 0)) ls H locs hl hP hD hS

set_option maxHeartbeats 4000000 in
set_option maxRecDepth 100000 in
theorem c_readArea (l : Launch) (dC : Nat → ClassId) (dI : Nat → Nat → Nat) (cI cZ cJ cT : ClassId) (x d w tb wa ts : Nat) (hs ns : Nat) (sz : Nat) : Met l yS_readArea (Cond.code yS_readArea cS_readArea 6 none :: wsA) ({ frames := 1, cells := 0, slots := 0, locals := 21 }) (va_Pc [.ref x, .int 0] (fun U => U.heap.size = sz ∧ va_P (dC, dI) vwC [(x, .inr (3, [.ref d, .ref tb, .ref wa, .ref ts, .int 0, .int 1, .int 0, .int 22])), (tb, .inr (1, [.ref hs, .ref ns, .int 0])), (hs, .inl (cZ, 64, .inl (fun _ => 0)))] U.heap ∧ KK dC dI cI cZ cJ cT U ∧ va_D (fun _ => True) [(x, .inr (3, [.ref d, .ref tb, .ref wa, .ref ts, .int 0, .int 1, .int 0, .int 22])), (tb, .inr (1, [.ref hs, .ref ns, .int 0])), (hs, .inl (cZ, 64, .inl (fun _ => 0)))])) (va_Qv (S := Nat → Nat) (fun _ => True) (fun u t => va_P (dC, dI) vwC [(x, .inr (3, [.ref d, .ref tb, .ref wa, .ref ts, .int 0, .int 1, .int 0, .int 22]))] t.heap ∧ va_D (va_A [(x, .inr (3, [.ref d, .ref tb, .ref wa, .ref ts, .int 0, .int 1, .int 0, .int 22])), (tb, .inr (1, [.ref hs, .ref ns, .int 0])), (hs, .inl (cZ, 64, .inl (fun _ => 0)))] sz) [(x, .inr (3, [.ref d, .ref tb, .ref wa, .ref ts, .int 0, .int 1, .int 0, .int 22]))]) (va_A [(x, .inr (3, [.ref d, .ref tb, .ref wa, .ref ts, .int 0, .int 1, .int 0, .int 22])), (tb, .inr (1, [.ref hs, .ref ns, .int 0])), (hs, .inl (cZ, 64, .inl (fun _ => 0)))] sz)) 0 0 (va_A [(x, .inr (3, [.ref d, .ref tb, .ref wa, .ref ts, .int 0, .int 1, .int 0, .int 22])), (tb, .inr (1, [.ref hs, .ref ns, .int 0])), (hs, .inl (cZ, 64, .inl (fun _ => 0)))] sz) := by
  refine Met.ofW (cc := cS_readArea) (maxL := 6) (ret := none) (by decide) rfl ?_
  intro p e s m args below meth c s₁ B hml hv
  obtain ⟨rfl, hsz, hP, hKK, hD0⟩ := hv
  have hK := hKK.1
  have hx := B.exec
  have hb := B.bytes
  have hr := B.returns
  have hw : ∀ w ∈ wsA, w.before _ s = true := fun w h => atoms_spec (ws := (Cond.code yS_readArea cS_readArea 6 none :: wsA)) B.pre w (List.mem_cons_of_mem _ h)
  have hown : s.vm.findClass "LoggedStore" = some m.cls := findClass_of_methodNamed B.named
  have hlocks := B.notSynchronized
  subst hsz
  have hD := hD0.self (sz := s.heap.size)
  generalize hAe : va_A [(x, .inr (3, [.ref d, .ref tb, .ref wa, .ref ts, .int 0, .int 1, .int 0, .int 22])), (tb, .inr (1, [.ref hs, .ref ns, .int 0])), (hs, .inl (cZ, 64, .inl (fun _ => 0)))] s.heap.size = A at hD ⊢
  have hA : ∀ q : Nat, s.heap.size ≤ q → A q := fun q h => by rw [← hAe]; exact Or.inr h
  have hS : va_S A s.heap s.heap [] := va_S.rf
  have hl := lv_entry ([.ref x, .int 0]) (n := 6) (Nat.le_of_ble_eq_true rfl)
  rw [lg_entry_eq]
  generalize (lg_sl ([.ref x, .int 0]) ++ List.replicate (6 - (lg_sl ([.ref x, .int 0])).length) Slot.unset).toArray = ls at hl ⊢
  have hl : lv_has ls 6 [(0, .ref x), (1, .int 0)] := hl
  refine lv_aload_n hx hb dS_readArea_0 rfl (lv_at hl 0 rfl) ?_
  refine va_get (D := (dC, dI)) (ci := 3) (v := .int 0) (C := "LoggedStore") (T := uS) (N := 8) hx hb hw inS hown hK hP 0 rfl rfl 6 (by decide) (hw _ w160) (fun _ h9 => h9) rfl dS_readArea_1 ?_
  have hPc := hP.sub (ws' := []) [] rfl
  refine vp_callSi (W.runS (As := [.int 0]) (rest := []) ⟨hx, hb, hml, hown, hw⟩ (c_areaBegin0 l dC dI cI cZ cJ cT) ⟨callB_of 1 hw (gA0 w236) rfl rfl rfl (hw _ w40) (hw _ w234) (by decide +kernel) ⟨Nat.le_of_ble_eq_true rfl, Nat.le_of_ble_eq_true rfl⟩, (hw _ w235)⟩ ⟨kb_S, fun U hU hW => ⟨rfl, by rw [hU]; exact hPc, hKK.moved hW⟩⟩ rfl rfl hl.1 rfl (lv_room (Nat.le_of_ble_eq_true rfl)) dS_readArea_4 ⟨Nat.le_of_ble_eq_true rfl, Nat.le_of_ble_eq_true rfl⟩) (fun r1 e2 => ?_)
  obtain rfl : r1 = 2 := e2
  refine lv_istore_n hx hb dS_readArea_7 rfl hl (by decide) rfl (fun ls hl => ?_)
  have hl : lv_has ls 6 [(2, .int 2), (0, .ref x), (1, .int 0)] := hl
  refine lv_aload_n hx hb dS_readArea_8 rfl (lv_at hl 1 rfl) ?_
  refine va_get (D := (dC, dI)) (ci := 3) (v := .ref tb) (C := "LoggedStore") (T := uS) (N := 8) hx hb hw inS hown hK hP 0 rfl rfl 1 (by decide) (hw _ w155) (fun _ h9 => h9) rfl dS_readArea_9 ?_
  have hPc := hP.sub (ws' := [(tb, .inr (1, [.ref hs, .ref ns, .int 0])), (hs, .inl (cZ, 64, .inl (fun _ => 0)))]) [1, 2] rfl
  have hDc := hD.sub (ws' := [(tb, .inr (1, [.ref hs, .ref ns, .int 0])), (hs, .inl (cZ, 64, .inl (fun _ => 0)))]) [1, 2] (by decide) rfl
  have hFc := va_free (wc := [(tb, .inr (1, [.ref hs, .ref ns, .int 0])), (hs, .inl (cZ, 64, .inl (fun _ => 0)))]) hD hS hA [1, 2] rfl
  refine va_callv (va_runV (C := "LoggedStore$Table") (b := tb) (As := []) (rest := []) ⟨hx, hb, hml, hown, hw⟩ (c_makeEmpty l dC dI cI cZ cJ cT tb hs ns s.heap.size) ⟨callB_of 0 hw (gA0 w240) rfl rfl rfl (hw _ w42) (hw _ w237) (by decide +kernel) ⟨Nat.le_of_ble_eq_true rfl, Nat.le_of_ble_eq_true rfl⟩, (hw _ w238), (hw _ w239)⟩ ⟨kb_Q, va_recv (ci := 1) (q0 := 1) hK hP rfl rfl, fun U hU hW => ⟨rfl, by rw [hU], by rw [hU]; exact hPc, hKK.moved hW, hDc.weaken (fun _ _ _ _ => trivial)⟩⟩ rfl rfl hl.1 rfl (lv_room (Nat.le_of_ble_eq_true rfl)) dS_readArea_12 ⟨Nat.le_of_ble_eq_true rfl, Nat.le_of_ble_eq_true rfl⟩) hS (fun q _ h => hFc q h) hFc (fun u4 t H1 locs ht hvm he9 hB hz1 hk1 hS => ?_)
  obtain ⟨hP1, hD1⟩ := hB
  rw [ht] at hP1
  obtain ⟨hP, hD⟩ := va_join (wr := [(x, .inr (3, [.ref d, .ref tb, .ref wa, .ref ts, .int 0, .int 1, .int 0, .int 22]))]) (w1 := [(tb, .inr (1, [.ref hs, .ref ns, .int 0]))]) hP hD [1, 2] [0] rfl rfl (by decide) (by decide) hk1 hFc hP1 hD1
  generalize H1 = H at hP hS ⊢
  have hP : va_P (dC, dI) vwC [(x, .inr (3, [.ref d, .ref tb, .ref wa, .ref ts, .int 0, .int 1, .int 0, .int 22])), (tb, .inr (1, [.ref hs, .ref ns, .int 0]))] H := hP
  have hD : va_D A [(x, .inr (3, [.ref d, .ref tb, .ref wa, .ref ts, .int 0, .int 1, .int 0, .int 22])), (tb, .inr (1, [.ref hs, .ref ns, .int 0]))] := hD
  refine lv_iconst (v := 0) hx hb dS_readArea_15 (by decide) ?_
  refine lv_istore_n hx hb dS_readArea_16 rfl hl (by decide) rfl (fun ls hl => ?_)
  have hl : lv_has ls 6 [(3, .int 0), (2, .int 2), (0, .ref x), (1, .int 0)] := hl
  refine lv_iload_n hx hb dS_readArea_17 rfl (lv_at hl 0 rfl) ?_
  refine lv_iload_n hx hb dS_readArea_18 rfl (lv_at hl 3 rfl) ?_
  refine lv_icmp_ge (tgt := 79) hx hb dS_readArea_19 (by decide) (fun _ => ?_) (fun h9 => absurd (by decide) h9)
  have hP9 := hP.sub (ws' := [(x, .inr (3, [.ref d, .ref tb, .ref wa, .ref ts, .int 0, .int 1, .int 0, .int 22]))]) [0] rfl
  have hD9 := hD.sub (ws' := [(x, .inr (3, [.ref d, .ref tb, .ref wa, .ref ts, .int 0, .int 1, .int 0, .int 22]))]) [0] (by decide) rfl
  refine W.widen (k := 0) (n := 0) (by decide) (by decide) ?_
  exact W.vret hx hb hr (fun t ht hW => ⟨⟨fun _ => 0, rfl, trivial, by rw [ht]; exact hP9, hD9⟩, hS.F ht⟩) hS.2.2 dS_readArea_79

set_option maxHeartbeats 4000000 in
set_option maxRecDepth 100000 in
theorem c_readCheckpoint (l : Launch) (dC : Nat → ClassId) (dI : Nat → Nat → Nat) (cI cZ cJ cT : ClassId) (x d w tb wa ts : Nat) (hs ns : Nat) (sz : Nat) : Met l yS_readCheckpoint (Cond.code yS_readCheckpoint cS_readCheckpoint 3 none :: wsA) ({ frames := 2, cells := 0, slots := 0, locals := 46 }) (va_Pc [.ref x, .int 0] (fun U => U.heap.size = sz ∧ va_P (dC, dI) vwC [(x, .inr (3, [.ref d, .ref tb, .ref wa, .ref ts, .int 0, .int 1, .int 0, .int 22])), (d, .inr (0, [.ref w, .int (-1), .int 0, .int 0])), (w, .inl (cI, 384, .inl W0)), (tb, .inr (1, [.ref hs, .ref ns, .int 0])), (hs, .inl (cZ, 64, .inl (fun _ => 0)))] U.heap ∧ KK dC dI cI cZ cJ cT U ∧ va_D (fun _ => True) [(x, .inr (3, [.ref d, .ref tb, .ref wa, .ref ts, .int 0, .int 1, .int 0, .int 22])), (d, .inr (0, [.ref w, .int (-1), .int 0, .int 0])), (w, .inl (cI, 384, .inl W0)), (tb, .inr (1, [.ref hs, .ref ns, .int 0])), (hs, .inl (cZ, 64, .inl (fun _ => 0)))])) (va_Qv (S := Nat → Nat) (fun _ => True) (fun u t => va_P (dC, dI) vwC [(x, .inr (3, [.ref d, .ref tb, .ref wa, .ref ts, .int 0, .int 1, .int 0, .int 22])), (d, .inr (0, [.ref w, .int (-1), .int 0, .int 0])), (w, .inl (cI, 384, .inl W0))] t.heap ∧ va_D (va_A [(x, .inr (3, [.ref d, .ref tb, .ref wa, .ref ts, .int 0, .int 1, .int 0, .int 22])), (d, .inr (0, [.ref w, .int (-1), .int 0, .int 0])), (w, .inl (cI, 384, .inl W0)), (tb, .inr (1, [.ref hs, .ref ns, .int 0])), (hs, .inl (cZ, 64, .inl (fun _ => 0)))] sz) [(x, .inr (3, [.ref d, .ref tb, .ref wa, .ref ts, .int 0, .int 1, .int 0, .int 22])), (d, .inr (0, [.ref w, .int (-1), .int 0, .int 0])), (w, .inl (cI, 384, .inl W0))]) (va_A [(x, .inr (3, [.ref d, .ref tb, .ref wa, .ref ts, .int 0, .int 1, .int 0, .int 22])), (d, .inr (0, [.ref w, .int (-1), .int 0, .int 0])), (w, .inl (cI, 384, .inl W0)), (tb, .inr (1, [.ref hs, .ref ns, .int 0])), (hs, .inl (cZ, 64, .inl (fun _ => 0)))] sz)) 0 0 (va_A [(x, .inr (3, [.ref d, .ref tb, .ref wa, .ref ts, .int 0, .int 1, .int 0, .int 22])), (d, .inr (0, [.ref w, .int (-1), .int 0, .int 0])), (w, .inl (cI, 384, .inl W0)), (tb, .inr (1, [.ref hs, .ref ns, .int 0])), (hs, .inl (cZ, 64, .inl (fun _ => 0)))] sz) := by
  refine Met.ofW (cc := cS_readCheckpoint) (maxL := 3) (ret := none) (by decide) rfl ?_
  intro p e s m args below meth c s₁ B hml hv
  obtain ⟨rfl, hsz, hP, hKK, hD0⟩ := hv
  have hK := hKK.1
  have hx := B.exec
  have hb := B.bytes
  have hr := B.returns
  have hw : ∀ w ∈ wsA, w.before _ s = true := fun w h => atoms_spec (ws := (Cond.code yS_readCheckpoint cS_readCheckpoint 3 none :: wsA)) B.pre w (List.mem_cons_of_mem _ h)
  have hown : s.vm.findClass "LoggedStore" = some m.cls := findClass_of_methodNamed B.named
  have hlocks := B.notSynchronized
  subst hsz
  have hD := hD0.self (sz := s.heap.size)
  generalize hAe : va_A [(x, .inr (3, [.ref d, .ref tb, .ref wa, .ref ts, .int 0, .int 1, .int 0, .int 22])), (d, .inr (0, [.ref w, .int (-1), .int 0, .int 0])), (w, .inl (cI, 384, .inl W0)), (tb, .inr (1, [.ref hs, .ref ns, .int 0])), (hs, .inl (cZ, 64, .inl (fun _ => 0)))] s.heap.size = A at hD ⊢
  have hA : ∀ q : Nat, s.heap.size ≤ q → A q := fun q h => by rw [← hAe]; exact Or.inr h
  have hS : va_S A s.heap s.heap [] := va_S.rf
  have hl := lv_entry ([.ref x, .int 0]) (n := 3) (Nat.le_of_ble_eq_true rfl)
  rw [lg_entry_eq]
  generalize (lg_sl ([.ref x, .int 0]) ++ List.replicate (3 - (lg_sl ([.ref x, .int 0])).length) Slot.unset).toArray = ls at hl ⊢
  have hl : lv_has ls 3 [(0, .ref x), (1, .int 0)] := hl
  refine lv_aload_n hx hb dS_readCheckpoint_0 rfl (lv_at hl 0 rfl) ?_
  refine va_get (D := (dC, dI)) (ci := 3) (v := .ref d) (C := "LoggedStore") (T := uS) (N := 8) hx hb hw inS hown hK hP 0 rfl rfl 0 (by decide) (hw _ w154) (fun _ h9 => h9) rfl dS_readCheckpoint_1 ?_
  refine lv_iload_n hx hb dS_readCheckpoint_4 rfl (lv_at hl 1 rfl) ?_
  refine lv_iconst (v := 1) hx hb dS_readCheckpoint_5 (by decide) ?_
  have hPc := hP.sub (ws' := [(d, .inr (0, [.ref w, .int (-1), .int 0, .int 0])), (w, .inl (cI, 384, .inl W0))]) [1, 2] rfl
  refine vp_callSi (W.runV (C := "LoggedStore$Disk") (b := d) (As := [.int 0, .int 1]) (rest := []) ⟨hx, hb, hml, hown, hw⟩ (c_wordOf l dC dI cI cZ cJ cT d w W0 0 1 (tv_in (by decide +kernel))) ⟨callB_of 2 hw (gA0 w223) rfl rfl rfl (hw _ w41) (hw _ w224) (by decide +kernel) ⟨Nat.le_of_ble_eq_true rfl, Nat.le_of_ble_eq_true rfl⟩, (hw _ w221), (hw _ w222)⟩ ⟨kb_S, va_recv (ci := 0) (q0 := 1) hK hP rfl rfl, fun U hU hW => ⟨rfl, by rw [hU]; exact hPc, hKK.moved hW⟩⟩ rfl rfl hl.1 rfl (lv_room (Nat.le_of_ble_eq_true rfl)) dS_readCheckpoint_6 ⟨Nat.le_of_ble_eq_true rfl, Nat.le_of_ble_eq_true rfl⟩) (fun r1 e2 => ?_)
  obtain rfl : r1 = 0 := e2.trans (by decide +kernel)
  refine lv_istore_n hx hb dS_readCheckpoint_9 rfl hl (by decide) rfl (fun ls hl => ?_)
  have hl : lv_has ls 3 [(2, .int 0), (0, .ref x), (1, .int 0)] := hl
  refine lv_aload_n hx hb dS_readCheckpoint_10 rfl (lv_at hl 1 rfl) ?_
  refine lv_aload_n hx hb dS_readCheckpoint_11 rfl (lv_at hl 1 rfl) ?_
  refine va_get (D := (dC, dI)) (ci := 3) (v := .ref d) (C := "LoggedStore") (T := uS) (N := 8) hx hb hw inS hown hK hP 0 rfl rfl 0 (by decide) (hw _ w154) (fun _ h9 => h9) rfl dS_readCheckpoint_12 ?_
  refine lv_iload_n hx hb dS_readCheckpoint_15 rfl (lv_at hl 2 rfl) ?_
  refine lv_iconst (v := 0) hx hb dS_readCheckpoint_16 (by decide) ?_
  have hPc := hP.sub (ws' := [(d, .inr (0, [.ref w, .int (-1), .int 0, .int 0])), (w, .inl (cI, 384, .inl W0))]) [1, 2] rfl
  refine vp_callSi (W.runV (C := "LoggedStore$Disk") (b := d) (As := [.int 0, .int 0]) (rest := [.ref x]) ⟨hx, hb, hml, hown, hw⟩ (c_wordOf l dC dI cI cZ cJ cT d w W0 0 0 (tv_in (by decide +kernel))) ⟨callB_of 2 hw (gA0 w223) rfl rfl rfl (hw _ w41) (hw _ w224) (by decide +kernel) ⟨Nat.le_of_ble_eq_true rfl, Nat.le_of_ble_eq_true rfl⟩, (hw _ w221), (hw _ w222)⟩ ⟨kb_S, va_recv (ci := 0) (q0 := 1) hK hP rfl rfl, fun U hU hW => ⟨rfl, by rw [hU]; exact hPc, hKK.moved hW⟩⟩ rfl rfl hl.1 rfl (lv_room (Nat.le_of_ble_eq_true rfl)) dS_readCheckpoint_17 ⟨Nat.le_of_ble_eq_true rfl, Nat.le_of_ble_eq_true rfl⟩) (fun r3 e4 => ?_)
  obtain rfl : r3 = 1 := e4.trans (by decide +kernel)
  refine va_put (D := (dC, dI)) (ci := 3) (v := .int 1) (ty := .int) (C := "LoggedStore") (T := uS) (N := 8) hx hb hw inS tyS tyS_ok nmS hown hK hP hD hS 0 rfl rfl 5 (by decide) (hw _ w159) (fun _ h9 => h9) rfl (by decide +kernel) rfl rfl (Nat.le_of_ble_eq_true rfl) dS_readCheckpoint_20 (fun H locs hP hD hS => ?_)
  have hP : va_P (dC, dI) vwC [(x, .inr (3, [.ref d, .ref tb, .ref wa, .ref ts, .int 0, .int 1, .int 0, .int 22])), (d, .inr (0, [.ref w, .int (-1), .int 0, .int 0])), (w, .inl (cI, 384, .inl W0)), (tb, .inr (1, [.ref hs, .ref ns, .int 0])), (hs, .inl (cZ, 64, .inl (fun _ => 0)))] H := hP
  have hD : va_D A [(x, .inr (3, [.ref d, .ref tb, .ref wa, .ref ts, .int 0, .int 1, .int 0, .int 22])), (d, .inr (0, [.ref w, .int (-1), .int 0, .int 0])), (w, .inl (cI, 384, .inl W0)), (tb, .inr (1, [.ref hs, .ref ns, .int 0])), (hs, .inl (cZ, 64, .inl (fun _ => 0)))] := hD
  refine lv_aload_n hx hb dS_readCheckpoint_23 rfl (lv_at hl 1 rfl) ?_
  refine lv_iload_n hx hb dS_readCheckpoint_24 rfl (lv_at hl 0 rfl) ?_
  refine lv_bipush (v := 64) hx hb dS_readCheckpoint_25 (by decide) ?_
  refine lv_icmp_lt (tgt := 34) hx hb dS_readCheckpoint_27 (by decide) (fun _ => ?_) (fun h9 => absurd (by decide) h9)
  refine lv_iconst (v := 0) hx hb dS_readCheckpoint_34 (by decide) ?_
  refine va_put (D := (dC, dI)) (ci := 3) (v := .int 0) (ty := .int) (C := "LoggedStore") (T := uS) (N := 8) hx hb hw inS tyS tyS_ok nmS hown hK hP hD hS 0 rfl rfl 6 (by decide) (hw _ w160) (fun _ h9 => h9) rfl (by decide +kernel) rfl rfl (Nat.le_of_ble_eq_true rfl) dS_readCheckpoint_35 (fun H locs hP hD hS => ?_)
  have hP : va_P (dC, dI) vwC [(x, .inr (3, [.ref d, .ref tb, .ref wa, .ref ts, .int 0, .int 1, .int 0, .int 22])), (d, .inr (0, [.ref w, .int (-1), .int 0, .int 0])), (w, .inl (cI, 384, .inl W0)), (tb, .inr (1, [.ref hs, .ref ns, .int 0])), (hs, .inl (cZ, 64, .inl (fun _ => 0)))] H := hP
  have hD : va_D A [(x, .inr (3, [.ref d, .ref tb, .ref wa, .ref ts, .int 0, .int 1, .int 0, .int 22])), (d, .inr (0, [.ref w, .int (-1), .int 0, .int 0])), (w, .inl (cI, 384, .inl W0)), (tb, .inr (1, [.ref hs, .ref ns, .int 0])), (hs, .inl (cZ, 64, .inl (fun _ => 0)))] := hD
  refine lv_aload_n hx hb dS_readCheckpoint_38 rfl (lv_at hl 1 rfl) ?_
  refine lv_aload_n hx hb dS_readCheckpoint_39 rfl (lv_at hl 1 rfl) ?_
  refine va_get (D := (dC, dI)) (ci := 3) (v := .ref d) (C := "LoggedStore") (T := uS) (N := 8) hx hb hw inS hown hK hP 0 rfl rfl 0 (by decide) (hw _ w154) (fun _ h9 => h9) rfl dS_readCheckpoint_40 ?_
  refine lv_iload_n hx hb dS_readCheckpoint_43 rfl (lv_at hl 2 rfl) ?_
  refine lv_iconst (v := 2) hx hb dS_readCheckpoint_44 (by decide) ?_
  have hPc := hP.sub (ws' := [(d, .inr (0, [.ref w, .int (-1), .int 0, .int 0])), (w, .inl (cI, 384, .inl W0))]) [1, 2] rfl
  refine vp_callSi (W.runV (C := "LoggedStore$Disk") (b := d) (As := [.int 0, .int 2]) (rest := [.ref x]) ⟨hx, hb, hml, hown, hw⟩ (c_wordOf l dC dI cI cZ cJ cT d w W0 0 2 (tv_in (by decide +kernel))) ⟨callB_of 2 hw (gA0 w223) rfl rfl rfl (hw _ w41) (hw _ w224) (by decide +kernel) ⟨Nat.le_of_ble_eq_true rfl, Nat.le_of_ble_eq_true rfl⟩, (hw _ w221), (hw _ w222)⟩ ⟨kb_S, va_recv (ci := 0) (q0 := 1) hK hP rfl rfl, fun U hU hW => ⟨rfl, by rw [hU]; exact hPc, hKK.moved hW⟩⟩ rfl rfl hl.1 rfl (lv_room (Nat.le_of_ble_eq_true rfl)) dS_readCheckpoint_45 ⟨Nat.le_of_ble_eq_true rfl, Nat.le_of_ble_eq_true rfl⟩) (fun r5 e6 => ?_)
  obtain rfl : r5 = 0 := e6.trans (by decide +kernel)
  refine va_put (D := (dC, dI)) (ci := 3) (v := .int 0) (ty := .int) (C := "LoggedStore") (T := uS) (N := 8) hx hb hw inS tyS tyS_ok nmS hown hK hP hD hS 0 rfl rfl 4 (by decide) (hw _ w158) (fun _ h9 => h9) rfl (by decide +kernel) rfl rfl (Nat.le_of_ble_eq_true rfl) dS_readCheckpoint_48 (fun H locs hP hD hS => ?_)
  have hP : va_P (dC, dI) vwC [(x, .inr (3, [.ref d, .ref tb, .ref wa, .ref ts, .int 0, .int 1, .int 0, .int 22])), (d, .inr (0, [.ref w, .int (-1), .int 0, .int 0])), (w, .inl (cI, 384, .inl W0)), (tb, .inr (1, [.ref hs, .ref ns, .int 0])), (hs, .inl (cZ, 64, .inl (fun _ => 0)))] H := hP
  have hD : va_D A [(x, .inr (3, [.ref d, .ref tb, .ref wa, .ref ts, .int 0, .int 1, .int 0, .int 22])), (d, .inr (0, [.ref w, .int (-1), .int 0, .int 0])), (w, .inl (cI, 384, .inl W0)), (tb, .inr (1, [.ref hs, .ref ns, .int 0])), (hs, .inl (cZ, 64, .inl (fun _ => 0)))] := hD
  refine lv_aload_n hx hb dS_readCheckpoint_51 rfl (lv_at hl 1 rfl) ?_
  refine lv_iload_n hx hb dS_readCheckpoint_52 rfl (lv_at hl 0 rfl) ?_
  refine lv_bipush (v := 64) hx hb dS_readCheckpoint_53 (by decide) ?_
  refine lv_aload_n hx hb dS_readCheckpoint_55 rfl (lv_at hl 1 rfl) ?_
  refine va_get (D := (dC, dI)) (ci := 3) (v := .int 0) (C := "LoggedStore") (T := uS) (N := 8) hx hb hw inS hown hK hP 0 rfl rfl 6 (by decide) (hw _ w160) (fun _ h9 => h9) rfl dS_readCheckpoint_56 ?_
  refine lv_imul hx hb dS_readCheckpoint_59 ?_
  refine lv_topi (nm_r (e' := 0) (by decide +kernel) ?_)
  refine lv_isub hx hb dS_readCheckpoint_60 ?_
  refine lv_topi (nm_r (e' := 0) (by decide +kernel) ?_)
  have hPc := hP.sub (ws' := [(x, .inr (3, [.ref d, .ref tb, .ref wa, .ref ts, .int 0, .int 1, .int 0, .int 22])), (tb, .inr (1, [.ref hs, .ref ns, .int 0])), (hs, .inl (cZ, 64, .inl (fun _ => 0)))]) [0, 3, 4] rfl
  have hDc := hD.sub (ws' := [(x, .inr (3, [.ref d, .ref tb, .ref wa, .ref ts, .int 0, .int 1, .int 0, .int 22])), (tb, .inr (1, [.ref hs, .ref ns, .int 0])), (hs, .inl (cZ, 64, .inl (fun _ => 0)))]) [0, 3, 4] (by decide) rfl
  have hFc := va_free (wc := [(x, .inr (3, [.ref d, .ref tb, .ref wa, .ref ts, .int 0, .int 1, .int 0, .int 22])), (tb, .inr (1, [.ref hs, .ref ns, .int 0])), (hs, .inl (cZ, 64, .inl (fun _ => 0)))]) hD hS hA [0, 3, 4] rfl
  refine va_callv (va_runV (C := "LoggedStore") (b := x) (As := [.int 0]) (rest := []) ⟨hx, hb, hml, hown, hw⟩ (c_readArea l dC dI cI cZ cJ cT x d w tb wa ts hs ns H.size) ⟨callB_of 1 hw (gA0 w233) rfl rfl rfl (hw _ w40) (hw _ w230) (by decide +kernel) ⟨Nat.le_of_ble_eq_true rfl, Nat.le_of_ble_eq_true rfl⟩, (hw _ w232), (hw _ w4)⟩ ⟨kb_Q, va_recv (ci := 3) (q0 := 0) hK hP rfl rfl, fun U hU hW => ⟨rfl, by rw [hU], by rw [hU]; exact hPc, hKK.moved hW, hDc.weaken (fun _ _ _ _ => trivial)⟩⟩ rfl rfl hl.1 rfl (lv_room (Nat.le_of_ble_eq_true rfl)) dS_readCheckpoint_61 ⟨Nat.le_of_ble_eq_true rfl, Nat.le_of_ble_eq_true rfl⟩) hS (fun q _ h => hFc q h) hFc (fun u8 t H1 locs ht hvm he9 hB hz1 hk1 hS => ?_)
  obtain ⟨hP1, hD1⟩ := hB
  rw [ht] at hP1
  obtain ⟨hP, hD⟩ := va_join (wr := [(d, .inr (0, [.ref w, .int (-1), .int 0, .int 0])), (w, .inl (cI, 384, .inl W0))]) (w1 := [(x, .inr (3, [.ref d, .ref tb, .ref wa, .ref ts, .int 0, .int 1, .int 0, .int 22]))]) hP hD [0, 3, 4] [1, 2] rfl rfl (by decide) (by decide) hk1 hFc hP1 hD1
  generalize H1 = H at hP hS ⊢
  have hP : va_P (dC, dI) vwC [(d, .inr (0, [.ref w, .int (-1), .int 0, .int 0])), (w, .inl (cI, 384, .inl W0)), (x, .inr (3, [.ref d, .ref tb, .ref wa, .ref ts, .int 0, .int 1, .int 0, .int 22]))] H := hP
  have hD : va_D A [(d, .inr (0, [.ref w, .int (-1), .int 0, .int 0])), (w, .inl (cI, 384, .inl W0)), (x, .inr (3, [.ref d, .ref tb, .ref wa, .ref ts, .int 0, .int 1, .int 0, .int 22]))] := hD
  have hP9 := hP.sub (ws' := [(x, .inr (3, [.ref d, .ref tb, .ref wa, .ref ts, .int 0, .int 1, .int 0, .int 22])), (d, .inr (0, [.ref w, .int (-1), .int 0, .int 0])), (w, .inl (cI, 384, .inl W0))]) [2, 0, 1] rfl
  have hD9 := hD.sub (ws' := [(x, .inr (3, [.ref d, .ref tb, .ref wa, .ref ts, .int 0, .int 1, .int 0, .int 22])), (d, .inr (0, [.ref w, .int (-1), .int 0, .int 0])), (w, .inl (cI, 384, .inl W0))]) [2, 0, 1] (by decide) rfl
  refine W.widen (k := 0) (n := 0) (by decide) (by decide) ?_
  exact W.vret hx hb hr (fun t ht hW => ⟨⟨fun _ => 0, rfl, trivial, by rw [ht]; exact hP9, hD9⟩, hS.F ht⟩) hS.2.2 dS_readCheckpoint_64

set_option maxHeartbeats 4000000 in
set_option maxRecDepth 100000 in
theorem c_redoLog (l : Launch) (dC : Nat → ClassId) (dI : Nat → Nat → Nat) (cI cZ cJ cT : ClassId) (x d w tb wa ts : Nat) (sz : Nat) : Met l yS_redoLog (Cond.code yS_redoLog cS_redoLog 2 none :: wsA) ({ frames := 3, cells := 0, slots := 0, locals := 65 }) (va_Pc [.ref x] (fun U => U.heap.size = sz ∧ va_P (dC, dI) vwC [(x, .inr (3, [.ref d, .ref tb, .ref wa, .ref ts, .int 0, .int 1, .int 0, .int 22])), (d, .inr (0, [.ref w, .int (-1), .int 0, .int 0])), (w, .inl (cI, 384, .inl W0))] U.heap ∧ KK dC dI cI cZ cJ cT U ∧ va_D (fun _ => True) [(x, .inr (3, [.ref d, .ref tb, .ref wa, .ref ts, .int 0, .int 1, .int 0, .int 22])), (d, .inr (0, [.ref w, .int (-1), .int 0, .int 0])), (w, .inl (cI, 384, .inl W0))])) (va_Qv (S := Nat → Nat) (fun _ => True) (fun u t => va_P (dC, dI) vwC [(x, .inr (3, [.ref d, .ref tb, .ref wa, .ref ts, .int 0, .int 1, .int 0, .int 22]))] t.heap ∧ va_D (va_A [(x, .inr (3, [.ref d, .ref tb, .ref wa, .ref ts, .int 0, .int 1, .int 0, .int 22])), (d, .inr (0, [.ref w, .int (-1), .int 0, .int 0])), (w, .inl (cI, 384, .inl W0))] sz) [(x, .inr (3, [.ref d, .ref tb, .ref wa, .ref ts, .int 0, .int 1, .int 0, .int 22]))]) (va_A [(x, .inr (3, [.ref d, .ref tb, .ref wa, .ref ts, .int 0, .int 1, .int 0, .int 22])), (d, .inr (0, [.ref w, .int (-1), .int 0, .int 0])), (w, .inl (cI, 384, .inl W0))] sz)) 0 0 (va_A [(x, .inr (3, [.ref d, .ref tb, .ref wa, .ref ts, .int 0, .int 1, .int 0, .int 22])), (d, .inr (0, [.ref w, .int (-1), .int 0, .int 0])), (w, .inl (cI, 384, .inl W0))] sz) := by
  refine Met.ofW (cc := cS_redoLog) (maxL := 2) (ret := none) (by decide) rfl ?_
  intro p e s m args below meth c s₁ B hml hv
  obtain ⟨rfl, hsz, hP, hKK, hD0⟩ := hv
  have hK := hKK.1
  have hx := B.exec
  have hb := B.bytes
  have hr := B.returns
  have hw : ∀ w ∈ wsA, w.before _ s = true := fun w h => atoms_spec (ws := (Cond.code yS_redoLog cS_redoLog 2 none :: wsA)) B.pre w (List.mem_cons_of_mem _ h)
  have hown : s.vm.findClass "LoggedStore" = some m.cls := findClass_of_methodNamed B.named
  have hlocks := B.notSynchronized
  subst hsz
  have hD := hD0.self (sz := s.heap.size)
  generalize hAe : va_A [(x, .inr (3, [.ref d, .ref tb, .ref wa, .ref ts, .int 0, .int 1, .int 0, .int 22])), (d, .inr (0, [.ref w, .int (-1), .int 0, .int 0])), (w, .inl (cI, 384, .inl W0))] s.heap.size = A at hD ⊢
  have hA : ∀ q : Nat, s.heap.size ≤ q → A q := fun q h => by rw [← hAe]; exact Or.inr h
  have hS : va_S A s.heap s.heap [] := va_S.rf
  have hl := lv_entry ([.ref x]) (n := 2) (Nat.le_of_ble_eq_true rfl)
  rw [lg_entry_eq]
  generalize (lg_sl ([.ref x]) ++ List.replicate (2 - (lg_sl ([.ref x])).length) Slot.unset).toArray = ls at hl ⊢
  have hl : lv_has ls 2 [(0, .ref x)] := hl
  refine lv_aload_n hx hb dS_redoLog_0 rfl (lv_at hl 0 rfl) ?_
  refine lv_bipush (v := 22) hx hb dS_redoLog_1 (by decide) ?_
  refine va_put (D := (dC, dI)) (ci := 3) (v := .int 22) (ty := .int) (C := "LoggedStore") (T := uS) (N := 8) hx hb hw inS tyS tyS_ok nmS hown hK hP hD hS 0 rfl rfl 7 (by decide) (hw _ w161) (fun _ h9 => h9) rfl (by decide +kernel) rfl rfl (Nat.le_of_ble_eq_true rfl) dS_redoLog_3 (fun H locs hP hD hS => ?_)
  have hP : va_P (dC, dI) vwC [(x, .inr (3, [.ref d, .ref tb, .ref wa, .ref ts, .int 0, .int 1, .int 0, .int 22])), (d, .inr (0, [.ref w, .int (-1), .int 0, .int 0])), (w, .inl (cI, 384, .inl W0))] H := hP
  have hD : va_D A [(x, .inr (3, [.ref d, .ref tb, .ref wa, .ref ts, .int 0, .int 1, .int 0, .int 22])), (d, .inr (0, [.ref w, .int (-1), .int 0, .int 0])), (w, .inl (cI, 384, .inl W0))] := hD
  refine lv_bipush (v := 22) hx hb dS_redoLog_6 (by decide) ?_
  refine lv_istore_n hx hb dS_redoLog_8 rfl hl (by decide) rfl (fun ls hl => ?_)
  have hl : lv_has ls 2 [(1, .int 22), (0, .ref x)] := hl
  refine lv_iload_n hx hb dS_redoLog_9 rfl (lv_at hl 0 rfl) ?_
  refine lv_bipush (v := 96) hx hb dS_redoLog_10 (by decide) ?_
  refine lv_icmp_ge (tgt := 73) hx hb dS_redoLog_12 (by decide) (fun h9 => absurd h9 (by decide)) (fun _ => ?_)
  refine lv_aload_n hx hb dS_redoLog_15 rfl (lv_at hl 1 rfl) ?_
  refine lv_iload_n hx hb dS_redoLog_16 rfl (lv_at hl 0 rfl) ?_
  have hPc := hP.sub (ws' := [(x, .inr (3, [.ref d, .ref tb, .ref wa, .ref ts, .int 0, .int 1, .int 0, .int 22])), (d, .inr (0, [.ref w, .int (-1), .int 0, .int 0])), (w, .inl (cI, 384, .inl W0))]) [0, 1, 2] rfl
  refine vp_callSi (W.runV (C := "LoggedStore") (b := x) (As := [.int 22]) (rest := []) ⟨hx, hb, hml, hown, hw⟩ (c_isOfThisLog l dC dI cI cZ cJ cT x d w tb wa ts) ⟨callB_of 1 hw (gA0 w255) rfl rfl rfl (hw _ w40) (hw _ w252) (by decide +kernel) ⟨Nat.le_of_ble_eq_true rfl, Nat.le_of_ble_eq_true rfl⟩, (hw _ w254), (hw _ w6)⟩ ⟨kb_S, va_recv (ci := 3) (q0 := 0) hK hP rfl rfl, fun U hU hW => ⟨rfl, by rw [hU]; exact hPc, hKK.moved hW⟩⟩ rfl rfl hl.1 rfl (lv_room (Nat.le_of_ble_eq_true rfl)) dS_redoLog_17 ⟨Nat.le_of_ble_eq_true rfl, Nat.le_of_ble_eq_true rfl⟩) (fun r1 e2 => ?_)
  obtain rfl : r1 = 0 := e2
  refine lv_if_eq (tgt := 73) hx hb dS_redoLog_20 (by decide) (fun _ => ?_) (fun h9 => absurd (by decide) h9)
  have hP9 := hP.sub (ws' := [(x, .inr (3, [.ref d, .ref tb, .ref wa, .ref ts, .int 0, .int 1, .int 0, .int 22]))]) [0] rfl
  have hD9 := hD.sub (ws' := [(x, .inr (3, [.ref d, .ref tb, .ref wa, .ref ts, .int 0, .int 1, .int 0, .int 22]))]) [0] (by decide) rfl
  refine W.widen (k := 0) (n := 0) (by decide) (by decide) ?_
  exact W.vret hx hb hr (fun t ht hW => ⟨⟨fun _ => 0, rfl, trivial, by rw [ht]; exact hP9, hD9⟩, hS.F ht⟩) hS.2.2 dS_redoLog_73

set_option maxHeartbeats 4000000 in
set_option maxRecDepth 100000 in
theorem c_recover (l : Launch) (dC : Nat → ClassId) (dI : Nat → Nat → Nat) (cI cZ cJ cT : ClassId) (x d w tb hs ns wa ts t0 v0 vh0 vn0 vw0 t1 v1 vh1 vn1 vw1 t2 v2 vh2 vn2 vw2 : Nat) (sz : Nat) : Met l yS_recover (Cond.code yS_recover cS_recover 2 (some .int) :: wsA) ({ frames := 4, cells := 0, slots := 0, locals := 86 }) (va_Pc [.ref x] (fun U => U.heap.size = sz ∧ va_P (dC, dI) vwC [(x, .inr (3, [.ref d, .ref tb, .ref wa, .ref ts, .int 0, .int 1, .int 0, .int 22])), (d, .inr (0, [.ref w, .int (-1), .int 0, .int 0])), (w, .inl (cI, 384, .inl W0)), (tb, .inr (1, [.ref hs, .ref ns, .int 0])), (hs, .inl (cZ, 64, .inl (fun _ => 0))), (wa, .inl (cI, 64, .inl (fun _ => 0))), (ts, .inl (cT, 3, .inr (.inr (.inr (.inr (tF t0 t1 t2)))))), (t0, .inr (2, [.ref v0, .ref vw0, .int 0, .int 0, .int 0])), (t1, .inr (2, [.ref v1, .ref vw1, .int 0, .int 0, .int 0])), (t2, .inr (2, [.ref v2, .ref vw2, .int 0, .int 0, .int 0]))] U.heap ∧ KK dC dI cI cZ cJ cT U ∧ va_D (fun _ => True) [(x, .inr (3, [.ref d, .ref tb, .ref wa, .ref ts, .int 0, .int 1, .int 0, .int 22])), (d, .inr (0, [.ref w, .int (-1), .int 0, .int 0])), (w, .inl (cI, 384, .inl W0)), (tb, .inr (1, [.ref hs, .ref ns, .int 0])), (hs, .inl (cZ, 64, .inl (fun _ => 0))), (wa, .inl (cI, 64, .inl (fun _ => 0))), (ts, .inl (cT, 3, .inr (.inr (.inr (.inr (tF t0 t1 t2)))))), (t0, .inr (2, [.ref v0, .ref vw0, .int 0, .int 0, .int 0])), (t1, .inr (2, [.ref v1, .ref vw1, .int 0, .int 0, .int 0])), (t2, .inr (2, [.ref v2, .ref vw2, .int 0, .int 0, .int 0]))])) (va_Qi (S := Nat → Nat) (fun r _ => r = 0) (fun _ _ => True) (va_A [(x, .inr (3, [.ref d, .ref tb, .ref wa, .ref ts, .int 0, .int 1, .int 0, .int 22])), (d, .inr (0, [.ref w, .int (-1), .int 0, .int 0])), (w, .inl (cI, 384, .inl W0)), (tb, .inr (1, [.ref hs, .ref ns, .int 0])), (hs, .inl (cZ, 64, .inl (fun _ => 0))), (wa, .inl (cI, 64, .inl (fun _ => 0))), (ts, .inl (cT, 3, .inr (.inr (.inr (.inr (tF t0 t1 t2)))))), (t0, .inr (2, [.ref v0, .ref vw0, .int 0, .int 0, .int 0])), (t1, .inr (2, [.ref v1, .ref vw1, .int 0, .int 0, .int 0])), (t2, .inr (2, [.ref v2, .ref vw2, .int 0, .int 0, .int 0]))] sz)) 0 0 (va_A [(x, .inr (3, [.ref d, .ref tb, .ref wa, .ref ts, .int 0, .int 1, .int 0, .int 22])), (d, .inr (0, [.ref w, .int (-1), .int 0, .int 0])), (w, .inl (cI, 384, .inl W0)), (tb, .inr (1, [.ref hs, .ref ns, .int 0])), (hs, .inl (cZ, 64, .inl (fun _ => 0))), (wa, .inl (cI, 64, .inl (fun _ => 0))), (ts, .inl (cT, 3, .inr (.inr (.inr (.inr (tF t0 t1 t2)))))), (t0, .inr (2, [.ref v0, .ref vw0, .int 0, .int 0, .int 0])), (t1, .inr (2, [.ref v1, .ref vw1, .int 0, .int 0, .int 0])), (t2, .inr (2, [.ref v2, .ref vw2, .int 0, .int 0, .int 0]))] sz) := by
  refine Met.ofW (cc := cS_recover) (maxL := 2) (ret := (some .int)) (by decide) rfl ?_
  intro p e s m args below meth c s₁ B hml hv
  obtain ⟨rfl, hsz, hP, hKK, hD0⟩ := hv
  have hK := hKK.1
  have hx := B.exec
  have hb := B.bytes
  have hr := B.returns
  have hw : ∀ w ∈ wsA, w.before _ s = true := fun w h => atoms_spec (ws := (Cond.code yS_recover cS_recover 2 (some .int) :: wsA)) B.pre w (List.mem_cons_of_mem _ h)
  have hown : s.vm.findClass "LoggedStore" = some m.cls := findClass_of_methodNamed B.named
  have hlocks := B.notSynchronized
  subst hsz
  have hD := hD0.self (sz := s.heap.size)
  generalize hAe : va_A [(x, .inr (3, [.ref d, .ref tb, .ref wa, .ref ts, .int 0, .int 1, .int 0, .int 22])), (d, .inr (0, [.ref w, .int (-1), .int 0, .int 0])), (w, .inl (cI, 384, .inl W0)), (tb, .inr (1, [.ref hs, .ref ns, .int 0])), (hs, .inl (cZ, 64, .inl (fun _ => 0))), (wa, .inl (cI, 64, .inl (fun _ => 0))), (ts, .inl (cT, 3, .inr (.inr (.inr (.inr (tF t0 t1 t2)))))), (t0, .inr (2, [.ref v0, .ref vw0, .int 0, .int 0, .int 0])), (t1, .inr (2, [.ref v1, .ref vw1, .int 0, .int 0, .int 0])), (t2, .inr (2, [.ref v2, .ref vw2, .int 0, .int 0, .int 0]))] s.heap.size = A at hD ⊢
  have hA : ∀ q : Nat, s.heap.size ≤ q → A q := fun q h => by rw [← hAe]; exact Or.inr h
  have hS : va_S A s.heap s.heap [] := va_S.rf
  have hl := lv_entry ([.ref x]) (n := 2) (Nat.le_of_ble_eq_true rfl)
  rw [lg_entry_eq]
  generalize (lg_sl ([.ref x]) ++ List.replicate (2 - (lg_sl ([.ref x])).length) Slot.unset).toArray = ls at hl ⊢
  have hl : lv_has ls 2 [(0, .ref x)] := hl
  refine lv_aload_n hx hb dS_recover_0 rfl (lv_at hl 0 rfl) ?_
  refine va_get (D := (dC, dI)) (ci := 3) (v := .ref d) (C := "LoggedStore") (T := uS) (N := 8) hx hb hw inS hown hK hP 0 rfl rfl 0 (by decide) (hw _ w154) (fun _ h9 => h9) rfl dS_recover_1 ?_
  have hPc := hP.sub (ws' := [(d, .inr (0, [.ref w, .int (-1), .int 0, .int 0]))]) [1] rfl
  have hDc := hD.sub (ws' := [(d, .inr (0, [.ref w, .int (-1), .int 0, .int 0]))]) [1] (by decide) rfl
  have hFc := va_free (wc := [(d, .inr (0, [.ref w, .int (-1), .int 0, .int 0]))]) hD hS hA [1] rfl
  refine va_callv (va_runV (C := "LoggedStore$Disk") (b := d) (As := []) (rest := []) ⟨hx, hb, hml, hown, hw⟩ (c_powerUp l dC dI cI cZ cJ cT d w s.heap.size) ⟨callB_of 0 hw (gA0 w204) rfl rfl rfl (hw _ w41) (hw _ w201) (by decide +kernel) ⟨Nat.le_of_ble_eq_true rfl, Nat.le_of_ble_eq_true rfl⟩, (hw _ w202), (hw _ w203)⟩ ⟨kb_Q, va_recv (ci := 0) (q0 := 1) hK hP rfl rfl, fun U hU hW => ⟨rfl, by rw [hU], by rw [hU]; exact hPc, hKK.moved hW, hDc.weaken (fun _ _ _ _ => trivial)⟩⟩ rfl rfl hl.1 rfl (lv_room (Nat.le_of_ble_eq_true rfl)) dS_recover_4 ⟨Nat.le_of_ble_eq_true rfl, Nat.le_of_ble_eq_true rfl⟩) hS (fun q _ h => hFc q h) hFc (fun u2 t H1 locs ht hvm he9 hB hz1 hk1 hS => ?_)
  obtain ⟨hP1, hD1⟩ := hB
  rw [ht] at hP1
  obtain ⟨hP, hD⟩ := va_join (wr := [(x, .inr (3, [.ref d, .ref tb, .ref wa, .ref ts, .int 0, .int 1, .int 0, .int 22])), (w, .inl (cI, 384, .inl W0)), (tb, .inr (1, [.ref hs, .ref ns, .int 0])), (hs, .inl (cZ, 64, .inl (fun _ => 0))), (wa, .inl (cI, 64, .inl (fun _ => 0))), (ts, .inl (cT, 3, .inr (.inr (.inr (.inr (tF t0 t1 t2)))))), (t0, .inr (2, [.ref v0, .ref vw0, .int 0, .int 0, .int 0])), (t1, .inr (2, [.ref v1, .ref vw1, .int 0, .int 0, .int 0])), (t2, .inr (2, [.ref v2, .ref vw2, .int 0, .int 0, .int 0]))]) (w1 := [(d, .inr (0, [.ref w, .int (-1), .int 0, .int 0]))]) hP hD [1] [0, 2, 3, 4, 5, 6, 7, 8, 9] rfl rfl (by decide) (by decide) hk1 hFc hP1 hD1
  generalize H1 = H at hP hS ⊢
  have hP : va_P (dC, dI) vwC [(x, .inr (3, [.ref d, .ref tb, .ref wa, .ref ts, .int 0, .int 1, .int 0, .int 22])), (w, .inl (cI, 384, .inl W0)), (tb, .inr (1, [.ref hs, .ref ns, .int 0])), (hs, .inl (cZ, 64, .inl (fun _ => 0))), (wa, .inl (cI, 64, .inl (fun _ => 0))), (ts, .inl (cT, 3, .inr (.inr (.inr (.inr (tF t0 t1 t2)))))), (t0, .inr (2, [.ref v0, .ref vw0, .int 0, .int 0, .int 0])), (t1, .inr (2, [.ref v1, .ref vw1, .int 0, .int 0, .int 0])), (t2, .inr (2, [.ref v2, .ref vw2, .int 0, .int 0, .int 0])), (d, .inr (0, [.ref w, .int (-1), .int 0, .int 0]))] H := hP
  have hD : va_D A [(x, .inr (3, [.ref d, .ref tb, .ref wa, .ref ts, .int 0, .int 1, .int 0, .int 22])), (w, .inl (cI, 384, .inl W0)), (tb, .inr (1, [.ref hs, .ref ns, .int 0])), (hs, .inl (cZ, 64, .inl (fun _ => 0))), (wa, .inl (cI, 64, .inl (fun _ => 0))), (ts, .inl (cT, 3, .inr (.inr (.inr (.inr (tF t0 t1 t2)))))), (t0, .inr (2, [.ref v0, .ref vw0, .int 0, .int 0, .int 0])), (t1, .inr (2, [.ref v1, .ref vw1, .int 0, .int 0, .int 0])), (t2, .inr (2, [.ref v2, .ref vw2, .int 0, .int 0, .int 0])), (d, .inr (0, [.ref w, .int (-1), .int 0, .int 0]))] := hD
  refine lv_iconst (v := 0) hx hb dS_recover_7 (by decide) ?_
  refine lv_istore_n hx hb dS_recover_8 rfl hl (by decide) rfl (fun ls hl => ?_)
  have hl : lv_has ls 2 [(1, .int 0), (0, .ref x)] := hl
  refine lv_iload_n hx hb dS_recover_9 rfl (lv_at hl 0 rfl) ?_
  refine lv_iconst (v := 3) hx hb dS_recover_10 (by decide) ?_
  refine lv_icmp_ge (tgt := 30) hx hb dS_recover_11 (by decide) (fun h9 => absurd h9 (by decide)) (fun _ => ?_)
  refine lv_aload_n hx hb dS_recover_14 rfl (lv_at hl 1 rfl) ?_
  refine va_get (D := (dC, dI)) (ci := 3) (v := .ref ts) (C := "LoggedStore") (T := uS) (N := 8) hx hb hw inS hown hK hP 0 rfl rfl 3 (by decide) (hw _ w157) (fun _ h9 => h9) rfl dS_recover_15 ?_
  refine lv_iload_n hx hb dS_recover_18 rfl (lv_at hl 0 rfl) ?_
  refine va_aldq hx hb hK hP 5 3 rfl rfl (tv_in (by decide +kernel)) dS_recover_19 ?_
  refine W.eq (g2 := F0 m 20 ls [.ref t0]) rfl ?_
  refine lv_iconst (v := 0) hx hb dS_recover_20 (by decide) ?_
  refine va_put (D := (dC, dI)) (ci := 2) (v := .int 0) (ty := .boolean) (C := "LoggedStore$Transaction") (T := uR) (N := 5) hx hb hw inR tyR tyR_ok nmR hown hK hP hD hS 6 rfl rfl 4 (by decide) (hw _ w122) (fun _ h9 => h9) rfl (by decide +kernel) rfl rfl (Nat.le_of_ble_eq_true rfl) dS_recover_21 (fun H locs hP hD hS => ?_)
  have hP : va_P (dC, dI) vwC [(x, .inr (3, [.ref d, .ref tb, .ref wa, .ref ts, .int 0, .int 1, .int 0, .int 22])), (w, .inl (cI, 384, .inl W0)), (tb, .inr (1, [.ref hs, .ref ns, .int 0])), (hs, .inl (cZ, 64, .inl (fun _ => 0))), (wa, .inl (cI, 64, .inl (fun _ => 0))), (ts, .inl (cT, 3, .inr (.inr (.inr (.inr (tF t0 t1 t2)))))), (t0, .inr (2, [.ref v0, .ref vw0, .int 0, .int 0, .int 0])), (t1, .inr (2, [.ref v1, .ref vw1, .int 0, .int 0, .int 0])), (t2, .inr (2, [.ref v2, .ref vw2, .int 0, .int 0, .int 0])), (d, .inr (0, [.ref w, .int (-1), .int 0, .int 0]))] H := hP
  have hD : va_D A [(x, .inr (3, [.ref d, .ref tb, .ref wa, .ref ts, .int 0, .int 1, .int 0, .int 22])), (w, .inl (cI, 384, .inl W0)), (tb, .inr (1, [.ref hs, .ref ns, .int 0])), (hs, .inl (cZ, 64, .inl (fun _ => 0))), (wa, .inl (cI, 64, .inl (fun _ => 0))), (ts, .inl (cT, 3, .inr (.inr (.inr (.inr (tF t0 t1 t2)))))), (t0, .inr (2, [.ref v0, .ref vw0, .int 0, .int 0, .int 0])), (t1, .inr (2, [.ref v1, .ref vw1, .int 0, .int 0, .int 0])), (t2, .inr (2, [.ref v2, .ref vw2, .int 0, .int 0, .int 0])), (d, .inr (0, [.ref w, .int (-1), .int 0, .int 0]))] := hD
  refine lv_iinc (k := 0) (v := 1) hx hb dS_recover_24 hl rfl (by decide +kernel) (by decide) rfl (fun ls hl => ?_)
  have hl : lv_has ls 2 [(1, .int 1), (0, .ref x)] := hl
  refine lv_goto (tgt := 9) hx hb dS_recover_27 (by decide) ?_
  refine lv_iload_n hx hb dS_recover_9 rfl (lv_at hl 0 rfl) ?_
  refine lv_iconst (v := 3) hx hb dS_recover_10 (by decide) ?_
  refine lv_icmp_ge (tgt := 30) hx hb dS_recover_11 (by decide) (fun h9 => absurd h9 (by decide)) (fun _ => ?_)
  refine lv_aload_n hx hb dS_recover_14 rfl (lv_at hl 1 rfl) ?_
  refine va_get (D := (dC, dI)) (ci := 3) (v := .ref ts) (C := "LoggedStore") (T := uS) (N := 8) hx hb hw inS hown hK hP 0 rfl rfl 3 (by decide) (hw _ w157) (fun _ h9 => h9) rfl dS_recover_15 ?_
  refine lv_iload_n hx hb dS_recover_18 rfl (lv_at hl 0 rfl) ?_
  refine va_aldq hx hb hK hP 5 3 rfl rfl (tv_in (by decide +kernel)) dS_recover_19 ?_
  refine W.eq (g2 := F0 m 20 ls [.ref t1]) rfl ?_
  refine lv_iconst (v := 0) hx hb dS_recover_20 (by decide) ?_
  refine va_put (D := (dC, dI)) (ci := 2) (v := .int 0) (ty := .boolean) (C := "LoggedStore$Transaction") (T := uR) (N := 5) hx hb hw inR tyR tyR_ok nmR hown hK hP hD hS 7 rfl rfl 4 (by decide) (hw _ w122) (fun _ h9 => h9) rfl (by decide +kernel) rfl rfl (Nat.le_of_ble_eq_true rfl) dS_recover_21 (fun H locs hP hD hS => ?_)
  have hP : va_P (dC, dI) vwC [(x, .inr (3, [.ref d, .ref tb, .ref wa, .ref ts, .int 0, .int 1, .int 0, .int 22])), (w, .inl (cI, 384, .inl W0)), (tb, .inr (1, [.ref hs, .ref ns, .int 0])), (hs, .inl (cZ, 64, .inl (fun _ => 0))), (wa, .inl (cI, 64, .inl (fun _ => 0))), (ts, .inl (cT, 3, .inr (.inr (.inr (.inr (tF t0 t1 t2)))))), (t0, .inr (2, [.ref v0, .ref vw0, .int 0, .int 0, .int 0])), (t1, .inr (2, [.ref v1, .ref vw1, .int 0, .int 0, .int 0])), (t2, .inr (2, [.ref v2, .ref vw2, .int 0, .int 0, .int 0])), (d, .inr (0, [.ref w, .int (-1), .int 0, .int 0]))] H := hP
  have hD : va_D A [(x, .inr (3, [.ref d, .ref tb, .ref wa, .ref ts, .int 0, .int 1, .int 0, .int 22])), (w, .inl (cI, 384, .inl W0)), (tb, .inr (1, [.ref hs, .ref ns, .int 0])), (hs, .inl (cZ, 64, .inl (fun _ => 0))), (wa, .inl (cI, 64, .inl (fun _ => 0))), (ts, .inl (cT, 3, .inr (.inr (.inr (.inr (tF t0 t1 t2)))))), (t0, .inr (2, [.ref v0, .ref vw0, .int 0, .int 0, .int 0])), (t1, .inr (2, [.ref v1, .ref vw1, .int 0, .int 0, .int 0])), (t2, .inr (2, [.ref v2, .ref vw2, .int 0, .int 0, .int 0])), (d, .inr (0, [.ref w, .int (-1), .int 0, .int 0]))] := hD
  refine lv_iinc (k := 0) (v := 2) hx hb dS_recover_24 hl rfl (by decide +kernel) (by decide) rfl (fun ls hl => ?_)
  have hl : lv_has ls 2 [(1, .int 2), (0, .ref x)] := hl
  refine lv_goto (tgt := 9) hx hb dS_recover_27 (by decide) ?_
  refine lv_iload_n hx hb dS_recover_9 rfl (lv_at hl 0 rfl) ?_
  refine lv_iconst (v := 3) hx hb dS_recover_10 (by decide) ?_
  refine lv_icmp_ge (tgt := 30) hx hb dS_recover_11 (by decide) (fun h9 => absurd h9 (by decide)) (fun _ => ?_)
  refine lv_aload_n hx hb dS_recover_14 rfl (lv_at hl 1 rfl) ?_
  refine va_get (D := (dC, dI)) (ci := 3) (v := .ref ts) (C := "LoggedStore") (T := uS) (N := 8) hx hb hw inS hown hK hP 0 rfl rfl 3 (by decide) (hw _ w157) (fun _ h9 => h9) rfl dS_recover_15 ?_
  refine lv_iload_n hx hb dS_recover_18 rfl (lv_at hl 0 rfl) ?_
  refine va_aldq hx hb hK hP 5 3 rfl rfl (tv_in (by decide +kernel)) dS_recover_19 ?_
  refine W.eq (g2 := F0 m 20 ls [.ref t2]) rfl ?_
  refine lv_iconst (v := 0) hx hb dS_recover_20 (by decide) ?_
  refine va_put (D := (dC, dI)) (ci := 2) (v := .int 0) (ty := .boolean) (C := "LoggedStore$Transaction") (T := uR) (N := 5) hx hb hw inR tyR tyR_ok nmR hown hK hP hD hS 8 rfl rfl 4 (by decide) (hw _ w122) (fun _ h9 => h9) rfl (by decide +kernel) rfl rfl (Nat.le_of_ble_eq_true rfl) dS_recover_21 (fun H locs hP hD hS => ?_)
  have hP : va_P (dC, dI) vwC [(x, .inr (3, [.ref d, .ref tb, .ref wa, .ref ts, .int 0, .int 1, .int 0, .int 22])), (w, .inl (cI, 384, .inl W0)), (tb, .inr (1, [.ref hs, .ref ns, .int 0])), (hs, .inl (cZ, 64, .inl (fun _ => 0))), (wa, .inl (cI, 64, .inl (fun _ => 0))), (ts, .inl (cT, 3, .inr (.inr (.inr (.inr (tF t0 t1 t2)))))), (t0, .inr (2, [.ref v0, .ref vw0, .int 0, .int 0, .int 0])), (t1, .inr (2, [.ref v1, .ref vw1, .int 0, .int 0, .int 0])), (t2, .inr (2, [.ref v2, .ref vw2, .int 0, .int 0, .int 0])), (d, .inr (0, [.ref w, .int (-1), .int 0, .int 0]))] H := hP
  have hD : va_D A [(x, .inr (3, [.ref d, .ref tb, .ref wa, .ref ts, .int 0, .int 1, .int 0, .int 22])), (w, .inl (cI, 384, .inl W0)), (tb, .inr (1, [.ref hs, .ref ns, .int 0])), (hs, .inl (cZ, 64, .inl (fun _ => 0))), (wa, .inl (cI, 64, .inl (fun _ => 0))), (ts, .inl (cT, 3, .inr (.inr (.inr (.inr (tF t0 t1 t2)))))), (t0, .inr (2, [.ref v0, .ref vw0, .int 0, .int 0, .int 0])), (t1, .inr (2, [.ref v1, .ref vw1, .int 0, .int 0, .int 0])), (t2, .inr (2, [.ref v2, .ref vw2, .int 0, .int 0, .int 0])), (d, .inr (0, [.ref w, .int (-1), .int 0, .int 0]))] := hD
  refine lv_iinc (k := 0) (v := 3) hx hb dS_recover_24 hl rfl (by decide +kernel) (by decide) rfl (fun ls hl => ?_)
  have hl : lv_has ls 2 [(1, .int 3), (0, .ref x)] := hl
  refine lv_goto (tgt := 9) hx hb dS_recover_27 (by decide) ?_
  refine lv_iload_n hx hb dS_recover_9 rfl (lv_at hl 0 rfl) ?_
  refine lv_iconst (v := 3) hx hb dS_recover_10 (by decide) ?_
  refine lv_icmp_ge (tgt := 30) hx hb dS_recover_11 (by decide) (fun _ => ?_) (fun h9 => absurd (by decide) h9)
  refine lv_aload_n hx hb dS_recover_30 rfl (lv_at hl 1 rfl) ?_
  refine va_get (D := (dC, dI)) (ci := 3) (v := .ref wa) (C := "LoggedStore") (T := uS) (N := 8) hx hb hw inS hown hK hP 0 rfl rfl 2 (by decide) (hw _ w156) (fun _ h9 => h9) rfl dS_recover_31 ?_
  refine lv_iconst (v := 0) hx hb dS_recover_34 (by decide) ?_
  have hPc := hP.sub (ws' := [(wa, .inl (cI, 64, .inl (fun _ => 0)))]) [4] rfl
  have hDc := hD.sub (ws' := [(wa, .inl (cI, 64, .inl (fun _ => 0)))]) [4] (by decide) rfl
  have hFc := va_free (wc := [(wa, .inl (cI, 64, .inl (fun _ => 0)))]) hD hS hA [4] rfl
  refine va_callv (va_runS (As := [.ref wa, .int 0]) (rest := []) ⟨hx, hb, hml, hown, hw⟩ (c_fill l dC dI cI cZ cJ cT wa H.size) ⟨callB_of 2 hw (gA0 w207) rfl rfl rfl (hw _ w54) (hw _ w205) (by decide +kernel) ⟨Nat.le_of_ble_eq_true rfl, Nat.le_of_ble_eq_true rfl⟩, (hw _ w206)⟩ ⟨kb_Q, fun U hU hW => ⟨rfl, by rw [hU], by rw [hU]; exact hPc, hKK.moved hW, hDc.weaken (fun _ _ _ _ => trivial)⟩⟩ rfl rfl hl.1 rfl (lv_room (Nat.le_of_ble_eq_true rfl)) dS_recover_35 ⟨Nat.le_of_ble_eq_true rfl, Nat.le_of_ble_eq_true rfl⟩) hS (fun q _ h => hFc q h) hFc (fun u4 t H1 locs ht hvm he9 hB hz1 hk1 hS => ?_)
  obtain ⟨hP, hD⟩ := va_join (wr := [(x, .inr (3, [.ref d, .ref tb, .ref wa, .ref ts, .int 0, .int 1, .int 0, .int 22])), (w, .inl (cI, 384, .inl W0)), (tb, .inr (1, [.ref hs, .ref ns, .int 0])), (hs, .inl (cZ, 64, .inl (fun _ => 0))), (ts, .inl (cT, 3, .inr (.inr (.inr (.inr (tF t0 t1 t2)))))), (t0, .inr (2, [.ref v0, .ref vw0, .int 0, .int 0, .int 0])), (t1, .inr (2, [.ref v1, .ref vw1, .int 0, .int 0, .int 0])), (t2, .inr (2, [.ref v2, .ref vw2, .int 0, .int 0, .int 0])), (d, .inr (0, [.ref w, .int (-1), .int 0, .int 0]))]) (w1 := []) hP hD [4] [0, 1, 2, 3, 5, 6, 7, 8, 9] rfl rfl (by decide) (by decide) hk1 hFc tk_P0 tk_D0
  generalize H1 = H at hP hS ⊢
  have hP : va_P (dC, dI) vwC [(x, .inr (3, [.ref d, .ref tb, .ref wa, .ref ts, .int 0, .int 1, .int 0, .int 22])), (w, .inl (cI, 384, .inl W0)), (tb, .inr (1, [.ref hs, .ref ns, .int 0])), (hs, .inl (cZ, 64, .inl (fun _ => 0))), (ts, .inl (cT, 3, .inr (.inr (.inr (.inr (tF t0 t1 t2)))))), (t0, .inr (2, [.ref v0, .ref vw0, .int 0, .int 0, .int 0])), (t1, .inr (2, [.ref v1, .ref vw1, .int 0, .int 0, .int 0])), (t2, .inr (2, [.ref v2, .ref vw2, .int 0, .int 0, .int 0])), (d, .inr (0, [.ref w, .int (-1), .int 0, .int 0]))] H := hP
  have hD : va_D A [(x, .inr (3, [.ref d, .ref tb, .ref wa, .ref ts, .int 0, .int 1, .int 0, .int 22])), (w, .inl (cI, 384, .inl W0)), (tb, .inr (1, [.ref hs, .ref ns, .int 0])), (hs, .inl (cZ, 64, .inl (fun _ => 0))), (ts, .inl (cT, 3, .inr (.inr (.inr (.inr (tF t0 t1 t2)))))), (t0, .inr (2, [.ref v0, .ref vw0, .int 0, .int 0, .int 0])), (t1, .inr (2, [.ref v1, .ref vw1, .int 0, .int 0, .int 0])), (t2, .inr (2, [.ref v2, .ref vw2, .int 0, .int 0, .int 0])), (d, .inr (0, [.ref w, .int (-1), .int 0, .int 0]))] := hD
  refine lv_aload_n hx hb dS_recover_38 rfl (lv_at hl 1 rfl) ?_
  refine lv_aload_n hx hb dS_recover_39 rfl (lv_at hl 1 rfl) ?_
  have hPc := hP.sub (ws' := [(x, .inr (3, [.ref d, .ref tb, .ref wa, .ref ts, .int 0, .int 1, .int 0, .int 22])), (d, .inr (0, [.ref w, .int (-1), .int 0, .int 0])), (w, .inl (cI, 384, .inl W0))]) [0, 8, 1] rfl
  refine vp_callSi (W.runV (C := "LoggedStore") (b := x) (As := []) (rest := [.ref x]) ⟨hx, hb, hml, hown, hw⟩ (c_countingHeader l dC dI cI cZ cJ cT x d w tb wa ts) ⟨callB_of 0 hw (gA0 w211) rfl rfl rfl (hw _ w40) (hw _ w208) (by decide +kernel) ⟨Nat.le_of_ble_eq_true rfl, Nat.le_of_ble_eq_true rfl⟩, (hw _ w210), (hw _ w1)⟩ ⟨kb_S, va_recv (ci := 3) (q0 := 0) hK hP rfl rfl, fun U hU hW => ⟨rfl, by rw [hU]; exact hPc, hKK.moved hW⟩⟩ rfl rfl hl.1 rfl (lv_room (Nat.le_of_ble_eq_true rfl)) dS_recover_40 ⟨Nat.le_of_ble_eq_true rfl, Nat.le_of_ble_eq_true rfl⟩) (fun r5 e6 => ?_)
  obtain rfl : r5 = 0 := e6
  have hPc := hP.sub (ws' := [(x, .inr (3, [.ref d, .ref tb, .ref wa, .ref ts, .int 0, .int 1, .int 0, .int 22])), (d, .inr (0, [.ref w, .int (-1), .int 0, .int 0])), (w, .inl (cI, 384, .inl W0)), (tb, .inr (1, [.ref hs, .ref ns, .int 0])), (hs, .inl (cZ, 64, .inl (fun _ => 0)))]) [0, 8, 1, 2, 3] rfl
  have hDc := hD.sub (ws' := [(x, .inr (3, [.ref d, .ref tb, .ref wa, .ref ts, .int 0, .int 1, .int 0, .int 22])), (d, .inr (0, [.ref w, .int (-1), .int 0, .int 0])), (w, .inl (cI, 384, .inl W0)), (tb, .inr (1, [.ref hs, .ref ns, .int 0])), (hs, .inl (cZ, 64, .inl (fun _ => 0)))]) [0, 8, 1, 2, 3] (by decide) rfl
  have hFc := va_free (wc := [(x, .inr (3, [.ref d, .ref tb, .ref wa, .ref ts, .int 0, .int 1, .int 0, .int 22])), (d, .inr (0, [.ref w, .int (-1), .int 0, .int 0])), (w, .inl (cI, 384, .inl W0)), (tb, .inr (1, [.ref hs, .ref ns, .int 0])), (hs, .inl (cZ, 64, .inl (fun _ => 0)))]) hD hS hA [0, 8, 1, 2, 3] rfl
  refine va_callv (va_runV (C := "LoggedStore") (b := x) (As := [.int 0]) (rest := []) ⟨hx, hb, hml, hown, hw⟩ (c_readCheckpoint l dC dI cI cZ cJ cT x d w tb wa ts hs ns H.size) ⟨callB_of 1 hw (gA0 w229) rfl rfl rfl (hw _ w40) (hw _ w226) (by decide +kernel) ⟨Nat.le_of_ble_eq_true rfl, Nat.le_of_ble_eq_true rfl⟩, (hw _ w228), (hw _ w3)⟩ ⟨kb_Q, va_recv (ci := 3) (q0 := 0) hK hP rfl rfl, fun U hU hW => ⟨rfl, by rw [hU], by rw [hU]; exact hPc, hKK.moved hW, hDc.weaken (fun _ _ _ _ => trivial)⟩⟩ rfl rfl hl.1 rfl (lv_room (Nat.le_of_ble_eq_true rfl)) dS_recover_43 ⟨Nat.le_of_ble_eq_true rfl, Nat.le_of_ble_eq_true rfl⟩) hS (fun q _ h => hFc q h) hFc (fun u8 t H1 locs ht hvm he9 hB hz1 hk1 hS => ?_)
  obtain ⟨hP1, hD1⟩ := hB
  rw [ht] at hP1
  obtain ⟨hP, hD⟩ := va_join (wr := [(ts, .inl (cT, 3, .inr (.inr (.inr (.inr (tF t0 t1 t2)))))), (t0, .inr (2, [.ref v0, .ref vw0, .int 0, .int 0, .int 0])), (t1, .inr (2, [.ref v1, .ref vw1, .int 0, .int 0, .int 0])), (t2, .inr (2, [.ref v2, .ref vw2, .int 0, .int 0, .int 0]))]) (w1 := [(x, .inr (3, [.ref d, .ref tb, .ref wa, .ref ts, .int 0, .int 1, .int 0, .int 22])), (d, .inr (0, [.ref w, .int (-1), .int 0, .int 0])), (w, .inl (cI, 384, .inl W0))]) hP hD [0, 8, 1, 2, 3] [4, 5, 6, 7] rfl rfl (by decide) (by decide) hk1 hFc hP1 hD1
  generalize H1 = H at hP hS ⊢
  have hP : va_P (dC, dI) vwC [(ts, .inl (cT, 3, .inr (.inr (.inr (.inr (tF t0 t1 t2)))))), (t0, .inr (2, [.ref v0, .ref vw0, .int 0, .int 0, .int 0])), (t1, .inr (2, [.ref v1, .ref vw1, .int 0, .int 0, .int 0])), (t2, .inr (2, [.ref v2, .ref vw2, .int 0, .int 0, .int 0])), (x, .inr (3, [.ref d, .ref tb, .ref wa, .ref ts, .int 0, .int 1, .int 0, .int 22])), (d, .inr (0, [.ref w, .int (-1), .int 0, .int 0])), (w, .inl (cI, 384, .inl W0))] H := hP
  have hD : va_D A [(ts, .inl (cT, 3, .inr (.inr (.inr (.inr (tF t0 t1 t2)))))), (t0, .inr (2, [.ref v0, .ref vw0, .int 0, .int 0, .int 0])), (t1, .inr (2, [.ref v1, .ref vw1, .int 0, .int 0, .int 0])), (t2, .inr (2, [.ref v2, .ref vw2, .int 0, .int 0, .int 0])), (x, .inr (3, [.ref d, .ref tb, .ref wa, .ref ts, .int 0, .int 1, .int 0, .int 22])), (d, .inr (0, [.ref w, .int (-1), .int 0, .int 0])), (w, .inl (cI, 384, .inl W0))] := hD
  refine lv_aload_n hx hb dS_recover_46 rfl (lv_at hl 1 rfl) ?_
  have hPc := hP.sub (ws' := [(x, .inr (3, [.ref d, .ref tb, .ref wa, .ref ts, .int 0, .int 1, .int 0, .int 22])), (d, .inr (0, [.ref w, .int (-1), .int 0, .int 0])), (w, .inl (cI, 384, .inl W0))]) [4, 5, 6] rfl
  have hDc := hD.sub (ws' := [(x, .inr (3, [.ref d, .ref tb, .ref wa, .ref ts, .int 0, .int 1, .int 0, .int 22])), (d, .inr (0, [.ref w, .int (-1), .int 0, .int 0])), (w, .inl (cI, 384, .inl W0))]) [4, 5, 6] (by decide) rfl
  have hFc := va_free (wc := [(x, .inr (3, [.ref d, .ref tb, .ref wa, .ref ts, .int 0, .int 1, .int 0, .int 22])), (d, .inr (0, [.ref w, .int (-1), .int 0, .int 0])), (w, .inl (cI, 384, .inl W0))]) hD hS hA [4, 5, 6] rfl
  refine va_callv (va_runV (C := "LoggedStore") (b := x) (As := []) (rest := []) ⟨hx, hb, hml, hown, hw⟩ (c_redoLog l dC dI cI cZ cJ cT x d w tb wa ts H.size) ⟨callB_of 0 hw (gA0 w251) rfl rfl rfl (hw _ w40) (hw _ w248) (by decide +kernel) ⟨Nat.le_of_ble_eq_true rfl, Nat.le_of_ble_eq_true rfl⟩, (hw _ w250), (hw _ w5)⟩ ⟨kb_Q, va_recv (ci := 3) (q0 := 4) hK hP rfl rfl, fun U hU hW => ⟨rfl, by rw [hU], by rw [hU]; exact hPc, hKK.moved hW, hDc.weaken (fun _ _ _ _ => trivial)⟩⟩ rfl rfl hl.1 rfl (lv_room (Nat.le_of_ble_eq_true rfl)) dS_recover_47 ⟨Nat.le_of_ble_eq_true rfl, Nat.le_of_ble_eq_true rfl⟩) hS (fun q _ h => hFc q h) hFc (fun u10 t H1 locs ht hvm he9 hB hz1 hk1 hS => ?_)
  obtain ⟨hP1, hD1⟩ := hB
  rw [ht] at hP1
  obtain ⟨hP, hD⟩ := va_join (wr := [(ts, .inl (cT, 3, .inr (.inr (.inr (.inr (tF t0 t1 t2)))))), (t0, .inr (2, [.ref v0, .ref vw0, .int 0, .int 0, .int 0])), (t1, .inr (2, [.ref v1, .ref vw1, .int 0, .int 0, .int 0])), (t2, .inr (2, [.ref v2, .ref vw2, .int 0, .int 0, .int 0]))]) (w1 := [(x, .inr (3, [.ref d, .ref tb, .ref wa, .ref ts, .int 0, .int 1, .int 0, .int 22]))]) hP hD [4, 5, 6] [0, 1, 2, 3] rfl rfl (by decide) (by decide) hk1 hFc hP1 hD1
  generalize H1 = H at hP hS ⊢
  have hP : va_P (dC, dI) vwC [(ts, .inl (cT, 3, .inr (.inr (.inr (.inr (tF t0 t1 t2)))))), (t0, .inr (2, [.ref v0, .ref vw0, .int 0, .int 0, .int 0])), (t1, .inr (2, [.ref v1, .ref vw1, .int 0, .int 0, .int 0])), (t2, .inr (2, [.ref v2, .ref vw2, .int 0, .int 0, .int 0])), (x, .inr (3, [.ref d, .ref tb, .ref wa, .ref ts, .int 0, .int 1, .int 0, .int 22]))] H := hP
  have hD : va_D A [(ts, .inl (cT, 3, .inr (.inr (.inr (.inr (tF t0 t1 t2)))))), (t0, .inr (2, [.ref v0, .ref vw0, .int 0, .int 0, .int 0])), (t1, .inr (2, [.ref v1, .ref vw1, .int 0, .int 0, .int 0])), (t2, .inr (2, [.ref v2, .ref vw2, .int 0, .int 0, .int 0])), (x, .inr (3, [.ref d, .ref tb, .ref wa, .ref ts, .int 0, .int 1, .int 0, .int 22]))] := hD
  refine lv_aload_n hx hb dS_recover_50 rfl (lv_at hl 1 rfl) ?_
  refine va_get (D := (dC, dI)) (ci := 3) (v := .int 0) (C := "LoggedStore") (T := uS) (N := 8) hx hb hw inS hown hK hP 4 rfl rfl 4 (by decide) (hw _ w158) (fun _ h9 => h9) rfl dS_recover_51 ?_
  refine W.widen (k := 0) (n := 0) (by decide) (by decide) ?_
  exact W.iret (v := 0) hx hb hr (fun t ht hW => ⟨⟨0, fun _ => 0, rfl, rfl, trivial⟩, hS.F ht⟩) hS.2.2 dS_recover_54
end
section
set_option maxRecDepth 100000 in
theorem w20 : (Cond.selects "LoggedStore" yS_writeArea yS_writeArea) ∈ wsA := List.mem_filter.mpr ⟨List.mem_of_getElem? (i := 20) rfl, rfl⟩
set_option maxRecDepth 100000 in
theorem w182 : (Cond.code yS_arm cS_arm 3 none) ∈ wsA := List.mem_filter.mpr ⟨List.mem_of_getElem? (i := 182) rfl, rfl⟩
set_option maxRecDepth 100000 in
theorem w183 : (Cond.methodLink "LoggedStore" 147 yD_limitWrites) ∈ wsA := List.mem_filter.mpr ⟨List.mem_of_getElem? (i := 183) rfl, rfl⟩
set_option maxRecDepth 100000 in
theorem w184 : (Cond.instanceMethod yD_limitWrites) ∈ wsA := List.mem_filter.mpr ⟨List.mem_of_getElem? (i := 184) rfl, rfl⟩
set_option maxRecDepth 100000 in
theorem w185 : (Cond.selects "LoggedStore$Disk" yD_limitWrites yD_limitWrites) ∈ wsA := List.mem_filter.mpr ⟨List.mem_of_getElem? (i := 185) rfl, rfl⟩
set_option maxRecDepth 100000 in
theorem w186 : (Cond.code yD_limitWrites cD_limitWrites 3 none) ∈ wsA := List.mem_filter.mpr ⟨List.mem_of_getElem? (i := 186) rfl, rfl⟩
set_option maxRecDepth 100000 in
theorem w187 : (Cond.methodLink "LoggedStore$Disk" 38 yA_min) ∈ wsA := List.mem_filter.mpr ⟨List.mem_of_getElem? (i := 187) rfl, rfl⟩
set_option maxRecDepth 100000 in
theorem w188 : (Cond.static yA_min) ∈ wsA := List.mem_filter.mpr ⟨List.mem_of_getElem? (i := 188) rfl, rfl⟩
set_option maxRecDepth 100000 in
theorem w189 : (Cond.code yA_min cA_min 2 (some .int)) ∈ wsA := List.mem_filter.mpr ⟨List.mem_of_getElem? (i := 189) rfl, rfl⟩
set_option maxRecDepth 100000 in
theorem w190 : (Cond.methodLink "LoggedStore$Disk" 44 yA_max) ∈ wsA := List.mem_filter.mpr ⟨List.mem_of_getElem? (i := 190) rfl, rfl⟩
set_option maxRecDepth 100000 in
theorem w191 : (Cond.static yA_max) ∈ wsA := List.mem_filter.mpr ⟨List.mem_of_getElem? (i := 191) rfl, rfl⟩
set_option maxRecDepth 100000 in
theorem w192 : (Cond.code yA_max cA_max 2 (some .int)) ∈ wsA := List.mem_filter.mpr ⟨List.mem_of_getElem? (i := 192) rfl, rfl⟩
set_option maxRecDepth 100000 in
theorem w225 : (Cond.methodLink "LoggedStore" 134 yS_headerBlock) ∈ wsA := List.mem_filter.mpr ⟨List.mem_of_getElem? (i := 225) rfl, rfl⟩
set_option maxRecDepth 100000 in
theorem w401 : (Cond.code yR_start cR_start 4 none) ∈ wsA := List.mem_filter.mpr ⟨List.mem_of_getElem? (i := 401) rfl, rfl⟩
set_option maxRecDepth 100000 in
theorem w402 : (Cond.methodLink "LoggedStore$Transaction" 33 yT_copyAll) ∈ wsA := List.mem_filter.mpr ⟨List.mem_of_getElem? (i := 402) rfl, rfl⟩
set_option maxRecDepth 100000 in
theorem w403 : (Cond.instanceMethod yT_copyAll) ∈ wsA := List.mem_filter.mpr ⟨List.mem_of_getElem? (i := 403) rfl, rfl⟩
set_option maxRecDepth 100000 in
theorem w404 : (Cond.selects "LoggedStore$Table" yT_copyAll yT_copyAll) ∈ wsA := List.mem_filter.mpr ⟨List.mem_of_getElem? (i := 404) rfl, rfl⟩
set_option maxRecDepth 100000 in
theorem w405 : (Cond.code yT_copyAll cT_copyAll 3 none) ∈ wsA := List.mem_filter.mpr ⟨List.mem_of_getElem? (i := 405) rfl, rfl⟩
set_option maxRecDepth 100000 in
theorem w482 : (Cond.methodLink "LoggedStore" 93 yT_keyFrom) ∈ wsA := List.mem_filter.mpr ⟨List.mem_of_getElem? (i := 482) rfl, rfl⟩
set_option maxRecDepth 100000 in
theorem w483 : (Cond.instanceMethod yT_keyFrom) ∈ wsA := List.mem_filter.mpr ⟨List.mem_of_getElem? (i := 483) rfl, rfl⟩
set_option maxRecDepth 100000 in
theorem w484 : (Cond.selects "LoggedStore$Table" yT_keyFrom yT_keyFrom) ∈ wsA := List.mem_filter.mpr ⟨List.mem_of_getElem? (i := 484) rfl, rfl⟩
set_option maxRecDepth 100000 in
theorem w485 : (Cond.code yT_keyFrom cT_keyFrom 3 (some .int)) ∈ wsA := List.mem_filter.mpr ⟨List.mem_of_getElem? (i := 485) rfl, rfl⟩
set_option maxRecDepth 100000 in
theorem w539 : (Cond.methodLink "LoggedStore" 140 yD_writeChecked) ∈ wsA := List.mem_filter.mpr ⟨List.mem_of_getElem? (i := 539) rfl, rfl⟩
set_option maxRecDepth 100000 in
theorem w540 : (Cond.instanceMethod yD_writeChecked) ∈ wsA := List.mem_filter.mpr ⟨List.mem_of_getElem? (i := 540) rfl, rfl⟩
set_option maxRecDepth 100000 in
theorem w541 : (Cond.selects "LoggedStore$Disk" yD_writeChecked yD_writeChecked) ∈ wsA := List.mem_filter.mpr ⟨List.mem_of_getElem? (i := 541) rfl, rfl⟩
set_option maxRecDepth 100000 in
theorem w542 : (Cond.code yD_writeChecked cD_writeChecked 5 none) ∈ wsA := List.mem_filter.mpr ⟨List.mem_of_getElem? (i := 542) rfl, rfl⟩
set_option maxRecDepth 100000 in
theorem w543 : (Cond.methodLink "LoggedStore$Disk" 50 yD_write) ∈ wsA := List.mem_filter.mpr ⟨List.mem_of_getElem? (i := 543) rfl, rfl⟩
set_option maxRecDepth 100000 in
theorem w544 : (Cond.instanceMethod yD_write) ∈ wsA := List.mem_filter.mpr ⟨List.mem_of_getElem? (i := 544) rfl, rfl⟩
set_option maxRecDepth 100000 in
theorem w545 : (Cond.selects "LoggedStore$Disk" yD_write yD_write) ∈ wsA := List.mem_filter.mpr ⟨List.mem_of_getElem? (i := 545) rfl, rfl⟩
set_option maxRecDepth 100000 in
theorem w546 : (Cond.code yD_write cD_write 6 none) ∈ wsA := List.mem_filter.mpr ⟨List.mem_of_getElem? (i := 546) rfl, rfl⟩
set_option maxRecDepth 100000 in
theorem w566 : (Cond.code yS_checkpoint cS_checkpoint 3 (some .int)) ∈ wsA := List.mem_filter.mpr ⟨List.mem_of_getElem? (i := 566) rfl, rfl⟩
set_option maxRecDepth 100000 in
theorem w567 : (Cond.methodLink "LoggedStore" 131 yS_writeArea) ∈ wsA := List.mem_filter.mpr ⟨List.mem_of_getElem? (i := 567) rfl, rfl⟩
set_option maxRecDepth 100000 in
theorem w569 : (Cond.instanceMethod yS_writeArea) ∈ wsA := List.mem_filter.mpr ⟨List.mem_of_getElem? (i := 569) rfl, rfl⟩
set_option maxRecDepth 100000 in
theorem w570 : (Cond.code yS_writeArea cS_writeArea 6 none) ∈ wsA := List.mem_filter.mpr ⟨List.mem_of_getElem? (i := 570) rfl, rfl⟩
theorem dT_keyFrom_0 : decode cT_keyFrom 0 = .ok (.iload_n 1, 1) := by decide +kernel
theorem dT_keyFrom_1 : decode cT_keyFrom 1 = .ok (.istore_n 2, 1) := by decide +kernel
theorem dT_keyFrom_2 : decode cT_keyFrom 2 = .ok (.iload_n 2, 1) := by decide +kernel
theorem dT_keyFrom_3 : decode cT_keyFrom 3 = .ok (.bipush 64, 2) := by decide +kernel
theorem dT_keyFrom_5 : decode cT_keyFrom 5 = .ok (.if_icmp .ge 20, 3) := by decide +kernel
theorem dT_keyFrom_8 : decode cT_keyFrom 8 = .ok (.aload_n 0, 1) := by decide +kernel
theorem dT_keyFrom_9 : decode cT_keyFrom 9 = .ok (.getfield 9, 3) := by decide +kernel
theorem dT_keyFrom_12 : decode cT_keyFrom 12 = .ok (.iload_n 2, 1) := by decide +kernel
theorem dT_keyFrom_13 : decode cT_keyFrom 13 = .ok (.baload, 1) := by decide +kernel
theorem dT_keyFrom_14 : decode cT_keyFrom 14 = .ok (.ifCond .eq 5, 3) := by decide +kernel
theorem dT_keyFrom_19 : decode cT_keyFrom 19 = .ok (.iinc 2 1, 3) := by decide +kernel
theorem dT_keyFrom_22 : decode cT_keyFrom 22 = .ok (.goto (-20), 3) := by decide +kernel
theorem dT_keyFrom_25 : decode cT_keyFrom 25 = .ok (.iconst (-1), 1) := by decide +kernel
theorem dT_keyFrom_26 : decode cT_keyFrom 26 = .ok (.ireturn, 1) := by decide +kernel
theorem dS_writeArea_0 : decode cS_writeArea 0 = .ok (.iload_n 1, 1) := by decide +kernel
theorem dS_writeArea_1 : decode cS_writeArea 1 = .ok (.invokestatic 214, 3) := by decide +kernel
theorem dS_writeArea_4 : decode cS_writeArea 4 = .ok (.istore_n 2, 1) := by decide +kernel
theorem dS_writeArea_5 : decode cS_writeArea 5 = .ok (.aload_n 0, 1) := by decide +kernel
theorem dS_writeArea_6 : decode cS_writeArea 6 = .ok (.getfield 19, 3) := by decide +kernel
theorem dS_writeArea_9 : decode cS_writeArea 9 = .ok (.iconst 0, 1) := by decide +kernel
theorem dS_writeArea_10 : decode cS_writeArea 10 = .ok (.invokevirtual 93, 3) := by decide +kernel
theorem dS_writeArea_13 : decode cS_writeArea 13 = .ok (.istore_n 3, 1) := by decide +kernel
theorem dS_writeArea_14 : decode cS_writeArea 14 = .ok (.iconst 0, 1) := by decide +kernel
theorem dS_writeArea_15 : decode cS_writeArea 15 = .ok (.istore 4, 2) := by decide +kernel
theorem dS_writeArea_17 : decode cS_writeArea 17 = .ok (.iload 4, 2) := by decide +kernel
theorem dS_writeArea_19 : decode cS_writeArea 19 = .ok (.bipush 10, 2) := by decide +kernel
theorem dS_writeArea_21 : decode cS_writeArea 21 = .ok (.if_icmp .ge 103, 3) := by decide +kernel
theorem dS_writeArea_24 : decode cS_writeArea 24 = .ok (.iload_n 3, 1) := by decide +kernel
theorem dS_writeArea_25 : decode cS_writeArea 25 = .ok (.ifCond .lt 99, 3) := by decide +kernel
theorem dS_writeArea_124 : decode cS_writeArea 124 = .ok (.return_, 1) := by decide +kernel
theorem dD_write_0 : decode cD_write 0 = .ok (.aload_n 0, 1) := by decide +kernel
theorem dD_write_1 : decode cD_write 1 = .ok (.getfield 15, 3) := by decide +kernel
theorem dD_write_4 : decode cD_write 4 = .ok (.ifCond .ne 33, 3) := by decide +kernel
theorem dD_write_37 : decode cD_write 37 = .ok (.aload_n 0, 1) := by decide +kernel
theorem dD_write_38 : decode cD_write 38 = .ok (.getfield 15, 3) := by decide +kernel
theorem dD_write_41 : decode cD_write 41 = .ok (.ifCond .le 13, 3) := by decide +kernel
theorem dD_write_54 : decode cD_write 54 = .ok (.aload_n 0, 1) := by decide +kernel
theorem dD_write_55 : decode cD_write 55 = .ok (.iload_n 1, 1) := by decide +kernel
theorem dD_write_56 : decode cD_write 56 = .ok (.iconst 4, 1) := by decide +kernel
theorem dD_write_57 : decode cD_write 57 = .ok (.iload_n 2, 1) := by decide +kernel
theorem dD_write_58 : decode cD_write 58 = .ok (.iload_n 3, 1) := by decide +kernel
theorem dD_write_59 : decode cD_write 59 = .ok (.iload 4, 2) := by decide +kernel
theorem dD_write_61 : decode cD_write 61 = .ok (.iload 5, 2) := by decide +kernel
theorem dD_write_63 : decode cD_write 63 = .ok (.invokevirtual 34, 3) := by decide +kernel
theorem dD_write_66 : decode cD_write 66 = .ok (.return_, 1) := by decide +kernel
theorem dD_writeChecked_0 : decode cD_writeChecked 0 = .ok (.aload_n 0, 1) := by decide +kernel
theorem dD_writeChecked_1 : decode cD_writeChecked 1 = .ok (.iload_n 1, 1) := by decide +kernel
theorem dD_writeChecked_2 : decode cD_writeChecked 2 = .ok (.iload_n 2, 1) := by decide +kernel
theorem dD_writeChecked_3 : decode cD_writeChecked 3 = .ok (.iload_n 3, 1) := by decide +kernel
theorem dD_writeChecked_4 : decode cD_writeChecked 4 = .ok (.iload 4, 2) := by decide +kernel
theorem dD_writeChecked_6 : decode cD_writeChecked 6 = .ok (.iload_n 1, 1) := by decide +kernel
theorem dD_writeChecked_7 : decode cD_writeChecked 7 = .ok (.iload_n 2, 1) := by decide +kernel
theorem dD_writeChecked_8 : decode cD_writeChecked 8 = .ok (.iload_n 3, 1) := by decide +kernel
theorem dD_writeChecked_9 : decode cD_writeChecked 9 = .ok (.iload 4, 2) := by decide +kernel
theorem dD_writeChecked_11 : decode cD_writeChecked 11 = .ok (.invokestatic 30, 3) := by decide +kernel
theorem dD_writeChecked_14 : decode cD_writeChecked 14 = .ok (.invokevirtual 50, 3) := by decide +kernel
theorem dD_writeChecked_17 : decode cD_writeChecked 17 = .ok (.return_, 1) := by decide +kernel
theorem dS_checkpoint_0 : decode cS_checkpoint 0 = .ok (.aload_n 0, 1) := by decide +kernel
theorem dS_checkpoint_1 : decode cS_checkpoint 1 = .ok (.invokevirtual 50, 3) := by decide +kernel
theorem dS_checkpoint_4 : decode cS_checkpoint 4 = .ok (.iconst 1, 1) := by decide +kernel
theorem dS_checkpoint_5 : decode cS_checkpoint 5 = .ok (.aload_n 0, 1) := by decide +kernel
theorem dS_checkpoint_6 : decode cS_checkpoint 6 = .ok (.getfield 40, 3) := by decide +kernel
theorem dS_checkpoint_9 : decode cS_checkpoint 9 = .ok (.isub, 1) := by decide +kernel
theorem dS_checkpoint_10 : decode cS_checkpoint 10 = .ok (.istore_n 1, 1) := by decide +kernel
theorem dS_checkpoint_11 : decode cS_checkpoint 11 = .ok (.aload_n 0, 1) := by decide +kernel
theorem dS_checkpoint_12 : decode cS_checkpoint 12 = .ok (.getfield 37, 3) := by decide +kernel
theorem dS_checkpoint_15 : decode cS_checkpoint 15 = .ok (.iconst 1, 1) := by decide +kernel
theorem dS_checkpoint_16 : decode cS_checkpoint 16 = .ok (.iadd, 1) := by decide +kernel
theorem dS_checkpoint_17 : decode cS_checkpoint 17 = .ok (.istore_n 2, 1) := by decide +kernel
theorem dS_checkpoint_18 : decode cS_checkpoint 18 = .ok (.aload_n 0, 1) := by decide +kernel
theorem dS_checkpoint_19 : decode cS_checkpoint 19 = .ok (.iload_n 1, 1) := by decide +kernel
theorem dS_checkpoint_20 : decode cS_checkpoint 20 = .ok (.invokevirtual 131, 3) := by decide +kernel
theorem dS_checkpoint_23 : decode cS_checkpoint 23 = .ok (.aload_n 0, 1) := by decide +kernel
theorem dS_checkpoint_24 : decode cS_checkpoint 24 = .ok (.getfield 10, 3) := by decide +kernel
theorem dS_checkpoint_27 : decode cS_checkpoint 27 = .ok (.iload_n 2, 1) := by decide +kernel
theorem dS_checkpoint_28 : decode cS_checkpoint 28 = .ok (.invokestatic 134, 3) := by decide +kernel
theorem dS_checkpoint_31 : decode cS_checkpoint 31 = .ok (.iload_n 2, 1) := by decide +kernel
theorem dS_checkpoint_32 : decode cS_checkpoint 32 = .ok (.bipush 64, 2) := by decide +kernel
theorem dS_checkpoint_34 : decode cS_checkpoint 34 = .ok (.iload_n 1, 1) := by decide +kernel
theorem dS_checkpoint_35 : decode cS_checkpoint 35 = .ok (.imul, 1) := by decide +kernel
theorem dS_checkpoint_36 : decode cS_checkpoint 36 = .ok (.aload_n 0, 1) := by decide +kernel
theorem dS_checkpoint_37 : decode cS_checkpoint 37 = .ok (.getfield 19, 3) := by decide +kernel
theorem dS_checkpoint_40 : decode cS_checkpoint 40 = .ok (.getfield 137, 3) := by decide +kernel
theorem dS_checkpoint_43 : decode cS_checkpoint 43 = .ok (.iadd, 1) := by decide +kernel
theorem dS_checkpoint_44 : decode cS_checkpoint 44 = .ok (.aload_n 0, 1) := by decide +kernel
theorem dS_checkpoint_45 : decode cS_checkpoint 45 = .ok (.getfield 33, 3) := by decide +kernel
theorem dS_checkpoint_48 : decode cS_checkpoint 48 = .ok (.invokevirtual 140, 3) := by decide +kernel
theorem dS_checkpoint_51 : decode cS_checkpoint 51 = .ok (.aload_n 0, 1) := by decide +kernel
theorem dS_checkpoint_52 : decode cS_checkpoint 52 = .ok (.iload_n 1, 1) := by decide +kernel
theorem dS_checkpoint_53 : decode cS_checkpoint 53 = .ok (.putfield 40, 3) := by decide +kernel
theorem dS_checkpoint_56 : decode cS_checkpoint 56 = .ok (.aload_n 0, 1) := by decide +kernel
theorem dS_checkpoint_57 : decode cS_checkpoint 57 = .ok (.iload_n 2, 1) := by decide +kernel
theorem dS_checkpoint_58 : decode cS_checkpoint 58 = .ok (.putfield 37, 3) := by decide +kernel
theorem dS_checkpoint_61 : decode cS_checkpoint 61 = .ok (.aload_n 0, 1) := by decide +kernel
theorem dS_checkpoint_62 : decode cS_checkpoint 62 = .ok (.bipush 22, 2) := by decide +kernel
theorem dS_checkpoint_64 : decode cS_checkpoint 64 = .ok (.putfield 43, 3) := by decide +kernel
theorem dS_checkpoint_67 : decode cS_checkpoint 67 = .ok (.aload_n 0, 1) := by decide +kernel
theorem dS_checkpoint_68 : decode cS_checkpoint 68 = .ok (.getfield 37, 3) := by decide +kernel
theorem dS_checkpoint_71 : decode cS_checkpoint 71 = .ok (.ireturn, 1) := by decide +kernel
theorem dT_copyAll_0 : decode cT_copyAll 0 = .ok (.iconst 0, 1) := by decide +kernel
theorem dT_copyAll_1 : decode cT_copyAll 1 = .ok (.istore_n 2, 1) := by decide +kernel
theorem dT_copyAll_2 : decode cT_copyAll 2 = .ok (.iload_n 2, 1) := by decide +kernel
theorem dT_copyAll_3 : decode cT_copyAll 3 = .ok (.bipush 64, 2) := by decide +kernel
theorem dT_copyAll_5 : decode cT_copyAll 5 = .ok (.if_icmp .ge 33, 3) := by decide +kernel
theorem dT_copyAll_8 : decode cT_copyAll 8 = .ok (.aload_n 0, 1) := by decide +kernel
theorem dT_copyAll_9 : decode cT_copyAll 9 = .ok (.getfield 9, 3) := by decide +kernel
theorem dT_copyAll_12 : decode cT_copyAll 12 = .ok (.iload_n 2, 1) := by decide +kernel
theorem dT_copyAll_13 : decode cT_copyAll 13 = .ok (.aload_n 1, 1) := by decide +kernel
theorem dT_copyAll_14 : decode cT_copyAll 14 = .ok (.getfield 9, 3) := by decide +kernel
theorem dT_copyAll_17 : decode cT_copyAll 17 = .ok (.iload_n 2, 1) := by decide +kernel
theorem dT_copyAll_18 : decode cT_copyAll 18 = .ok (.baload, 1) := by decide +kernel
theorem dT_copyAll_19 : decode cT_copyAll 19 = .ok (.bastore, 1) := by decide +kernel
theorem dT_copyAll_20 : decode cT_copyAll 20 = .ok (.aload_n 0, 1) := by decide +kernel
theorem dT_copyAll_21 : decode cT_copyAll 21 = .ok (.getfield 15, 3) := by decide +kernel
theorem dT_copyAll_24 : decode cT_copyAll 24 = .ok (.iload_n 2, 1) := by decide +kernel
theorem dT_copyAll_25 : decode cT_copyAll 25 = .ok (.aload_n 1, 1) := by decide +kernel
theorem dT_copyAll_26 : decode cT_copyAll 26 = .ok (.getfield 15, 3) := by decide +kernel
theorem dT_copyAll_29 : decode cT_copyAll 29 = .ok (.iload_n 2, 1) := by decide +kernel
theorem dT_copyAll_30 : decode cT_copyAll 30 = .ok (.iaload, 1) := by decide +kernel
theorem dT_copyAll_31 : decode cT_copyAll 31 = .ok (.iastore, 1) := by decide +kernel
theorem dT_copyAll_32 : decode cT_copyAll 32 = .ok (.iinc 2 1, 3) := by decide +kernel
theorem dT_copyAll_35 : decode cT_copyAll 35 = .ok (.goto (-33), 3) := by decide +kernel
theorem dT_copyAll_38 : decode cT_copyAll 38 = .ok (.aload_n 0, 1) := by decide +kernel
theorem dT_copyAll_39 : decode cT_copyAll 39 = .ok (.aload_n 1, 1) := by decide +kernel
theorem dT_copyAll_40 : decode cT_copyAll 40 = .ok (.getfield 19, 3) := by decide +kernel
theorem dT_copyAll_43 : decode cT_copyAll 43 = .ok (.putfield 19, 3) := by decide +kernel
theorem dT_copyAll_46 : decode cT_copyAll 46 = .ok (.return_, 1) := by decide +kernel
theorem dR_start_0 : decode cR_start 0 = .ok (.aload_n 0, 1) := by decide +kernel
theorem dR_start_1 : decode cR_start 1 = .ok (.getfield 12, 3) := by decide +kernel
theorem dR_start_4 : decode cR_start 4 = .ok (.aload_n 1, 1) := by decide +kernel
theorem dR_start_5 : decode cR_start 5 = .ok (.invokevirtual 33, 3) := by decide +kernel
theorem dR_start_8 : decode cR_start 8 = .ok (.iconst 0, 1) := by decide +kernel
theorem dR_start_9 : decode cR_start 9 = .ok (.istore_n 3, 1) := by decide +kernel
theorem dR_start_10 : decode cR_start 10 = .ok (.iload_n 3, 1) := by decide +kernel
theorem dR_start_11 : decode cR_start 11 = .ok (.bipush 64, 2) := by decide +kernel
theorem dR_start_13 : decode cR_start 13 = .ok (.if_icmp .ge 16, 3) := by decide +kernel
theorem dR_start_16 : decode cR_start 16 = .ok (.aload_n 0, 1) := by decide +kernel
theorem dR_start_17 : decode cR_start 17 = .ok (.getfield 18, 3) := by decide +kernel
theorem dR_start_20 : decode cR_start 20 = .ok (.iload_n 3, 1) := by decide +kernel
theorem dR_start_21 : decode cR_start 21 = .ok (.iconst 0, 1) := by decide +kernel
theorem dR_start_22 : decode cR_start 22 = .ok (.bastore, 1) := by decide +kernel
theorem dR_start_23 : decode cR_start 23 = .ok (.iinc 3 1, 3) := by decide +kernel
theorem dR_start_26 : decode cR_start 26 = .ok (.goto (-16), 3) := by decide +kernel
theorem dR_start_29 : decode cR_start 29 = .ok (.aload_n 0, 1) := by decide +kernel
theorem dR_start_30 : decode cR_start 30 = .ok (.iconst 0, 1) := by decide +kernel
theorem dR_start_31 : decode cR_start 31 = .ok (.putfield 22, 3) := by decide +kernel
theorem dR_start_34 : decode cR_start 34 = .ok (.aload_n 0, 1) := by decide +kernel
theorem dR_start_35 : decode cR_start 35 = .ok (.iload_n 2, 1) := by decide +kernel
theorem dR_start_36 : decode cR_start 36 = .ok (.putfield 26, 3) := by decide +kernel
theorem dR_start_39 : decode cR_start 39 = .ok (.aload_n 0, 1) := by decide +kernel
theorem dR_start_40 : decode cR_start 40 = .ok (.iconst 1, 1) := by decide +kernel
theorem dR_start_41 : decode cR_start 41 = .ok (.putfield 29, 3) := by decide +kernel
theorem dR_start_44 : decode cR_start 44 = .ok (.return_, 1) := by decide +kernel
theorem dD_limitWrites_0 : decode cD_limitWrites 0 = .ok (.aload_n 0, 1) := by decide +kernel
theorem dD_limitWrites_1 : decode cD_limitWrites 1 = .ok (.iload_n 1, 1) := by decide +kernel
theorem dD_limitWrites_2 : decode cD_limitWrites 2 = .ok (.ifCond .ge 7, 3) := by decide +kernel
theorem dD_limitWrites_5 : decode cD_limitWrites 5 = .ok (.iconst (-1), 1) := by decide +kernel
theorem dD_limitWrites_6 : decode cD_limitWrites 6 = .ok (.goto 4, 3) := by decide +kernel
theorem dD_limitWrites_9 : decode cD_limitWrites 9 = .ok (.iload_n 1, 1) := by decide +kernel
theorem dD_limitWrites_10 : decode cD_limitWrites 10 = .ok (.putfield 15, 3) := by decide +kernel
theorem dD_limitWrites_13 : decode cD_limitWrites 13 = .ok (.aload_n 0, 1) := by decide +kernel
theorem dD_limitWrites_14 : decode cD_limitWrites 14 = .ok (.iconst 0, 1) := by decide +kernel
theorem dD_limitWrites_15 : decode cD_limitWrites 15 = .ok (.iconst 3, 1) := by decide +kernel
theorem dD_limitWrites_16 : decode cD_limitWrites 16 = .ok (.iload_n 2, 1) := by decide +kernel
theorem dD_limitWrites_17 : decode cD_limitWrites 17 = .ok (.invokestatic 38, 3) := by decide +kernel
theorem dD_limitWrites_20 : decode cD_limitWrites 20 = .ok (.invokestatic 44, 3) := by decide +kernel
theorem dD_limitWrites_23 : decode cD_limitWrites 23 = .ok (.putfield 19, 3) := by decide +kernel
theorem dD_limitWrites_26 : decode cD_limitWrites 26 = .ok (.return_, 1) := by decide +kernel
theorem dS_arm_0 : decode cS_arm 0 = .ok (.aload_n 0, 1) := by decide +kernel
theorem dS_arm_1 : decode cS_arm 1 = .ok (.getfield 10, 3) := by decide +kernel
theorem dS_arm_4 : decode cS_arm 4 = .ok (.iload_n 1, 1) := by decide +kernel
theorem dS_arm_5 : decode cS_arm 5 = .ok (.iload_n 2, 1) := by decide +kernel
theorem dS_arm_6 : decode cS_arm 6 = .ok (.invokevirtual 147, 3) := by decide +kernel
theorem dS_arm_9 : decode cS_arm 9 = .ok (.return_, 1) := by decide +kernel
set_option maxHeartbeats 4000000 in
set_option maxRecDepth 100000 in
theorem c_keyFrom (l : Launch) (dC : Nat → ClassId) (dI : Nat → Nat → Nat) (cI cZ cJ cT : ClassId) (tb hs ns : Nat) : Met l yT_keyFrom (Cond.code yT_keyFrom cT_keyFrom 3 (some .int) :: wsA) ({ frames := 0, cells := 0, slots := 0, locals := 0 }) (va_Pc [.ref tb, .int 0] (fun U => va_P (dC, dI) vwC [(tb, .inr (1, [.ref hs, .ref ns, .int 0])), (hs, .inl (cZ, 64, .inl (fun _ => 0)))] U.heap ∧ KK dC dI cI cZ cJ cT U)) (vp_Si (fun r => r = (-1))) 0 0 (fun _ => False) := by
  refine Met.ofW (cc := cT_keyFrom) (maxL := 3) (ret := (some .int)) (by decide) rfl ?_
  intro p e s m args below meth c s₁ B hml hv
  obtain ⟨rfl, hP, hKK⟩ := hv
  have hK := hKK.1
  have hx := B.exec
  have hb := B.bytes
  have hr := B.returns
  have hw : ∀ w ∈ wsA, w.before _ s = true := fun w h => atoms_spec (ws := (Cond.code yT_keyFrom cT_keyFrom 3 (some .int) :: wsA)) B.pre w (List.mem_cons_of_mem _ h)
  have hown : s.vm.findClass "LoggedStore$Table" = some m.cls := findClass_of_methodNamed B.named
  have hlocks := B.notSynchronized
  have hl := lv_entry ([.ref tb, .int 0]) (n := 3) (Nat.le_of_ble_eq_true rfl)
  rw [lg_entry_eq]
  generalize (lg_sl ([.ref tb, .int 0]) ++ List.replicate (3 - (lg_sl ([.ref tb, .int 0])).length) Slot.unset).toArray = ls at hl ⊢
  have hl : lv_has ls 3 [(0, .ref tb), (1, .int 0)] := hl
  refine lv_iload_n hx hb dT_keyFrom_0 rfl (lv_at hl 1 rfl) ?_
  refine lv_istore_n hx hb dT_keyFrom_1 rfl hl (by decide) rfl (fun ls hl => ?_)
  have hl : lv_has ls 3 [(2, .int 0), (0, .ref tb), (1, .int 0)] := hl
  refine tk_for (nL := 3) (G := fun ls => W p l e _ s m _ below meth c _ _ _ _ _ (F0 m 2 ls [])) (fun i => [(2, .int (nI i)), (0, .ref tb), (1, .int 0)]) 64 ?_ ?_ ls hl
  · intro ls hl
    have hl : lv_has ls 3 [(2, .int (nI 64)), (0, .ref tb), (1, .int 0)] := hl
    refine lv_iload_n hx hb dT_keyFrom_2 rfl (lv_at hl 0 rfl) ?_
    refine lv_bipush (v := 64) hx hb dT_keyFrom_3 (by decide) ?_
    refine lv_icmp_ge (tgt := 25) hx hb dT_keyFrom_5 (by decide) (fun _ => ?_) (fun h9 => absurd (by decide +kernel) h9)
    refine lv_iconst (v := (-1)) hx hb dT_keyFrom_25 (by decide) ?_
    exact W.iret (v := (-1)) hx hb hr (fun t ht hW => ⟨(-1), rfl, rfl, ht⟩) (fun q h => by cases h) dT_keyFrom_26
  · intro i hi ls hl ih
    have hl : lv_has ls 3 [(2, .int (nI i)), (0, .ref tb), (1, .int 0)] := hl
    refine lv_iload_n hx hb dT_keyFrom_2 rfl (lv_at hl 0 rfl) ?_
    refine lv_bipush (v := 64) hx hb dT_keyFrom_3 (by decide) ?_
    refine lv_icmp_ge (tgt := 25) hx hb dT_keyFrom_5 (by decide) (fun h9 => absurd h9 (nI_ge hi (by decide))) (fun _ => ?_)
    refine lv_aload_n hx hb dT_keyFrom_8 rfl (lv_at hl 1 rfl) ?_
    refine va_get (D := (dC, dI)) (ci := 1) (v := .ref hs) (C := "LoggedStore$Table") (T := uT) (N := 3) hx hb hw inT hown hK hP 0 rfl rfl 0 (by decide) (hw _ w90) (fun _ h9 => h9) rfl dT_keyFrom_9 ?_
    refine lv_iload_n hx hb dT_keyFrom_12 rfl (lv_at hl 0 rfl) ?_
    refine va_zald hx hb hK hP 1 1 rfl rfl (vp_in_nI hi (by decide)) dT_keyFrom_13 ?_
    refine lv_topi (nm_r (e' := 0) (rfl) ?_)
    refine lv_if_eq (tgt := 19) hx hb dT_keyFrom_14 (by decide) (fun _ => ?_) (fun h9 => absurd (by decide) h9)
    refine lv_iinc (k := 0) (v := nI (i + 1)) hx hb dT_keyFrom_19 hl rfl (nI_1 i) (by decide) rfl (fun ls hl => ?_)
    have hl : lv_has ls 3 [(2, .int (nI (i + 1))), (0, .ref tb), (1, .int 0)] := hl
    refine lv_goto (tgt := 2) hx hb dT_keyFrom_22 (by decide) ?_
    exact ih ls hl

set_option maxHeartbeats 4000000 in
set_option maxRecDepth 100000 in
theorem c_writeArea (l : Launch) (dC : Nat → ClassId) (dI : Nat → Nat → Nat) (cI cZ cJ cT : ClassId) (x d w tb wa ts : Nat) (hs ns : Nat) : Met l yS_writeArea (Cond.code yS_writeArea cS_writeArea 6 none :: wsA) ({ frames := 1, cells := 0, slots := 0, locals := 22 }) (va_Pc [.ref x, .int 1] (fun U => va_P (dC, dI) vwC [(x, .inr (3, [.ref d, .ref tb, .ref wa, .ref ts, .int 0, .int 1, .int 0, .int 22])), (tb, .inr (1, [.ref hs, .ref ns, .int 0])), (hs, .inl (cZ, 64, .inl (fun _ => 0)))] U.heap ∧ KK dC dI cI cZ cJ cT U)) (va_Sv (fun _ => True)) 0 0 (fun _ => False) := by
  refine Met.ofW (cc := cS_writeArea) (maxL := 6) (ret := none) (by decide) rfl ?_
  intro p e s m args below meth c s₁ B hml hv
  obtain ⟨rfl, hP, hKK⟩ := hv
  have hK := hKK.1
  have hx := B.exec
  have hb := B.bytes
  have hr := B.returns
  have hw : ∀ w ∈ wsA, w.before _ s = true := fun w h => atoms_spec (ws := (Cond.code yS_writeArea cS_writeArea 6 none :: wsA)) B.pre w (List.mem_cons_of_mem _ h)
  have hown : s.vm.findClass "LoggedStore" = some m.cls := findClass_of_methodNamed B.named
  have hlocks := B.notSynchronized
  have hl := lv_entry ([.ref x, .int 1]) (n := 6) (Nat.le_of_ble_eq_true rfl)
  rw [lg_entry_eq]
  generalize (lg_sl ([.ref x, .int 1]) ++ List.replicate (6 - (lg_sl ([.ref x, .int 1])).length) Slot.unset).toArray = ls at hl ⊢
  have hl : lv_has ls 6 [(0, .ref x), (1, .int 1)] := hl
  refine lv_iload_n hx hb dS_writeArea_0 rfl (lv_at hl 1 rfl) ?_
  have hPc := hP.sub (ws' := []) [] rfl
  refine vp_callSi (W.runS (As := [.int 1]) (rest := []) ⟨hx, hb, hml, hown, hw⟩ (c_areaBegin1 l dC dI cI cZ cJ cT) ⟨callB_of 1 hw (gA0 w236) rfl rfl rfl (hw _ w40) (hw _ w234) (by decide +kernel) ⟨Nat.le_of_ble_eq_true rfl, Nat.le_of_ble_eq_true rfl⟩, (hw _ w235)⟩ ⟨kb_S, fun U hU hW => ⟨rfl, by rw [hU]; exact hPc, hKK.moved hW⟩⟩ rfl rfl hl.1 rfl (lv_room (Nat.le_of_ble_eq_true rfl)) dS_writeArea_1 ⟨Nat.le_of_ble_eq_true rfl, Nat.le_of_ble_eq_true rfl⟩) (fun r1 e2 => ?_)
  obtain rfl : r1 = 12 := e2
  refine lv_istore_n hx hb dS_writeArea_4 rfl hl (by decide) rfl (fun ls hl => ?_)
  have hl : lv_has ls 6 [(2, .int 12), (0, .ref x), (1, .int 1)] := hl
  refine lv_aload_n hx hb dS_writeArea_5 rfl (lv_at hl 1 rfl) ?_
  refine va_get (D := (dC, dI)) (ci := 3) (v := .ref tb) (C := "LoggedStore") (T := uS) (N := 8) hx hb hw inS hown hK hP 0 rfl rfl 1 (by decide) (hw _ w155) (fun _ h9 => h9) rfl dS_writeArea_6 ?_
  refine lv_iconst (v := 0) hx hb dS_writeArea_9 (by decide) ?_
  have hPc := hP.sub (ws' := [(tb, .inr (1, [.ref hs, .ref ns, .int 0])), (hs, .inl (cZ, 64, .inl (fun _ => 0)))]) [1, 2] rfl
  refine vp_callSi (W.runV (C := "LoggedStore$Table") (b := tb) (As := [.int 0]) (rest := []) ⟨hx, hb, hml, hown, hw⟩ (c_keyFrom l dC dI cI cZ cJ cT tb hs ns) ⟨callB_of 1 hw (gA0 w485) rfl rfl rfl (hw _ w42) (hw _ w482) (by decide +kernel) ⟨Nat.le_of_ble_eq_true rfl, Nat.le_of_ble_eq_true rfl⟩, (hw _ w483), (hw _ w484)⟩ ⟨kb_S, va_recv (ci := 1) (q0 := 1) hK hP rfl rfl, fun U hU hW => ⟨rfl, by rw [hU]; exact hPc, hKK.moved hW⟩⟩ rfl rfl hl.1 rfl (lv_room (Nat.le_of_ble_eq_true rfl)) dS_writeArea_10 ⟨Nat.le_of_ble_eq_true rfl, Nat.le_of_ble_eq_true rfl⟩) (fun r3 e4 => ?_)
  obtain rfl : r3 = (-1) := e4
  refine lv_istore_n hx hb dS_writeArea_13 rfl hl (by decide) rfl (fun ls hl => ?_)
  have hl : lv_has ls 6 [(3, .int (-1)), (2, .int 12), (0, .ref x), (1, .int 1)] := hl
  refine lv_iconst (v := 0) hx hb dS_writeArea_14 (by decide) ?_
  refine lv_istore hx hb dS_writeArea_15 hl (by decide) rfl (fun ls hl => ?_)
  have hl : lv_has ls 6 [(4, .int 0), (3, .int (-1)), (2, .int 12), (0, .ref x), (1, .int 1)] := hl
  refine lv_iload hx hb dS_writeArea_17 (lv_at hl 0 rfl) ?_
  refine lv_bipush (v := 10) hx hb dS_writeArea_19 (by decide) ?_
  refine lv_icmp_ge (tgt := 124) hx hb dS_writeArea_21 (by decide) (fun h9 => absurd h9 (by decide)) (fun _ => ?_)
  refine lv_iload_n hx hb dS_writeArea_24 rfl (lv_at hl 1 rfl) ?_
  refine lv_if_lt (tgt := 124) hx hb dS_writeArea_25 (by decide) (fun _ => ?_) (fun h9 => absurd (by decide) h9)
  exact W.vret hx hb hr (fun t ht hW => ⟨rfl, trivial, ht⟩) (fun q h => by cases h) dS_writeArea_124

set_option maxHeartbeats 4000000 in
set_option maxRecDepth 100000 in
theorem c_D_write (l : Launch) (dC : Nat → ClassId) (dI : Nat → Nat → Nat) (cI cZ cJ cT : ClassId) (d w : Nat) (a b c9 e9 : Int32) (f : Nat → Int32) (sz : Nat) : Met l yD_write (Cond.code yD_write cD_write 6 none :: wsA) ({ frames := 1, cells := 0, slots := 0, locals := 27 }) (va_Pc [.ref d, .int 1, .int a, .int b, .int c9, .int e9] (fun U => U.heap.size = sz ∧ va_P (dC, dI) vwC [(d, .inr (0, [.ref w, .int (-1), .int 0, .int 0])), (w, .inl (cI, 384, .inl f))] U.heap ∧ KK dC dI cI cZ cJ cT U ∧ va_D (fun _ => True) [(d, .inr (0, [.ref w, .int (-1), .int 0, .int 0])), (w, .inl (cI, 384, .inl f))])) (va_Qv (S := Nat → Nat) (fun _ => True) (fun u t => va_P (dC, dI) vwC [(d, .inr (0, [.ref w, .int (-1), .int 0, .int 0]))] t.heap ∧ va_D (va_A [(d, .inr (0, [.ref w, .int (-1), .int 0, .int 0])), (w, .inl (cI, 384, .inl f))] sz) [(d, .inr (0, [.ref w, .int (-1), .int 0, .int 0]))]) (va_A [(d, .inr (0, [.ref w, .int (-1), .int 0, .int 0])), (w, .inl (cI, 384, .inl f))] sz)) 0 0 (va_A [(d, .inr (0, [.ref w, .int (-1), .int 0, .int 0])), (w, .inl (cI, 384, .inl f))] sz) := by
  refine Met.ofW (cc := cD_write) (maxL := 6) (ret := none) (by decide) rfl ?_
  intro p e s m args below meth c s₁ B hml hv
  obtain ⟨rfl, hsz, hP, hKK, hD0⟩ := hv
  have hK := hKK.1
  have hx := B.exec
  have hb := B.bytes
  have hr := B.returns
  have hw : ∀ w ∈ wsA, w.before _ s = true := fun w h => atoms_spec (ws := (Cond.code yD_write cD_write 6 none :: wsA)) B.pre w (List.mem_cons_of_mem _ h)
  have hown : s.vm.findClass "LoggedStore$Disk" = some m.cls := findClass_of_methodNamed B.named
  have hlocks := B.notSynchronized
  subst hsz
  have hD := hD0.self (sz := s.heap.size)
  generalize hAe : va_A [(d, .inr (0, [.ref w, .int (-1), .int 0, .int 0])), (w, .inl (cI, 384, .inl f))] s.heap.size = A at hD ⊢
  have hA : ∀ q : Nat, s.heap.size ≤ q → A q := fun q h => by rw [← hAe]; exact Or.inr h
  have hS : va_S A s.heap s.heap [] := va_S.rf
  have hl := lv_entry ([.ref d, .int 1, .int a, .int b, .int c9, .int e9]) (n := 6) (Nat.le_of_ble_eq_true rfl)
  rw [lg_entry_eq]
  generalize (lg_sl ([.ref d, .int 1, .int a, .int b, .int c9, .int e9]) ++ List.replicate (6 - (lg_sl ([.ref d, .int 1, .int a, .int b, .int c9, .int e9])).length) Slot.unset).toArray = ls at hl ⊢
  have hl : lv_has ls 6 [(0, .ref d), (1, .int 1), (2, .int a), (3, .int b), (4, .int c9), (5, .int e9)] := hl
  refine lv_aload_n hx hb dD_write_0 rfl (lv_at hl 0 rfl) ?_
  refine va_get (D := (dC, dI)) (ci := 0) (v := .int (-1)) (C := "LoggedStore$Disk") (T := uD) (N := 4) hx hb hw inD hown hK hP 0 rfl rfl 1 (by decide) (hw _ w70) (fun _ h9 => h9) rfl dD_write_1 ?_
  refine lv_if_ne (tgt := 37) hx hb dD_write_4 (by decide) (fun _ => ?_) (fun h9 => absurd h9 (by decide))
  refine lv_aload_n hx hb dD_write_37 rfl (lv_at hl 0 rfl) ?_
  refine va_get (D := (dC, dI)) (ci := 0) (v := .int (-1)) (C := "LoggedStore$Disk") (T := uD) (N := 4) hx hb hw inD hown hK hP 0 rfl rfl 1 (by decide) (hw _ w70) (fun _ h9 => h9) rfl dD_write_38 ?_
  refine lv_if_le (tgt := 54) hx hb dD_write_41 (by decide) (fun _ => ?_) (fun h9 => absurd (by decide) h9)
  refine lv_aload_n hx hb dD_write_54 rfl (lv_at hl 0 rfl) ?_
  refine lv_iload_n hx hb dD_write_55 rfl (lv_at hl 1 rfl) ?_
  refine lv_iconst (v := 4) hx hb dD_write_56 (by decide) ?_
  refine lv_iload_n hx hb dD_write_57 rfl (lv_at hl 2 rfl) ?_
  refine lv_iload_n hx hb dD_write_58 rfl (lv_at hl 3 rfl) ?_
  refine lv_iload hx hb dD_write_59 (lv_at hl 4 rfl) ?_
  refine lv_iload hx hb dD_write_61 (lv_at hl 5 rfl) ?_
  have hPc := hP.sub (ws' := [(d, .inr (0, [.ref w, .int (-1), .int 0, .int 0])), (w, .inl (cI, 384, .inl f))]) [0, 1] rfl
  have hDc := hD.sub (ws' := [(d, .inr (0, [.ref w, .int (-1), .int 0, .int 0])), (w, .inl (cI, 384, .inl f))]) [0, 1] (by decide) rfl
  have hFc := va_free (wc := [(d, .inr (0, [.ref w, .int (-1), .int 0, .int 0])), (w, .inl (cI, 384, .inl f))]) hD hS hA [0, 1] rfl
  refine va_callv (va_runV (C := "LoggedStore$Disk") (b := d) (As := [.int 1, .int 4, .int a, .int b, .int c9, .int e9]) (rest := []) ⟨hx, hb, hml, hown, hw⟩ (c_setWords1 l dC dI cI cZ cJ cT d w a b c9 e9 f s.heap.size) ⟨callB_of 6 hw (gA0 w153) rfl rfl rfl (hw _ w41) (hw _ w150) (by decide +kernel) ⟨Nat.le_of_ble_eq_true rfl, Nat.le_of_ble_eq_true rfl⟩, (hw _ w152), (hw _ w0)⟩ ⟨kb_Q, va_recv (ci := 0) (q0 := 0) hK hP rfl rfl, fun U hU hW => ⟨rfl, by rw [hU], by rw [hU]; exact hPc, hKK.moved hW, hDc.weaken (fun _ _ _ _ => trivial)⟩⟩ rfl rfl hl.1 rfl (lv_room (Nat.le_of_ble_eq_true rfl)) dD_write_63 ⟨Nat.le_of_ble_eq_true rfl, Nat.le_of_ble_eq_true rfl⟩) hS (fun q _ h => hFc q h) hFc (fun u2 t H1 locs ht hvm he9 hB hz1 hk1 hS => ?_)
  obtain ⟨hP1, hD1⟩ := hB
  rw [ht] at hP1
  obtain ⟨hP, hD⟩ := va_join (wr := []) (w1 := [(d, .inr (0, [.ref w, .int (-1), .int 0, .int 0])), (w, .inl (cI, 384, .inl (upd (upd (upd (upd f (4 : Int32).toNatClampNeg a) (5 : Int32).toNatClampNeg b) (6 : Int32).toNatClampNeg c9) (7 : Int32).toNatClampNeg e9)))]) hP hD [0, 1] [] rfl rfl (by decide) (by decide) hk1 hFc hP1 hD1
  generalize H1 = H at hP hS ⊢
  have hP : va_P (dC, dI) vwC [(d, .inr (0, [.ref w, .int (-1), .int 0, .int 0])), (w, .inl (cI, 384, .inl (upd (upd (upd (upd f (4 : Int32).toNatClampNeg a) (5 : Int32).toNatClampNeg b) (6 : Int32).toNatClampNeg c9) (7 : Int32).toNatClampNeg e9)))] H := hP
  have hD : va_D A [(d, .inr (0, [.ref w, .int (-1), .int 0, .int 0])), (w, .inl (cI, 384, .inl (upd (upd (upd (upd f (4 : Int32).toNatClampNeg a) (5 : Int32).toNatClampNeg b) (6 : Int32).toNatClampNeg c9) (7 : Int32).toNatClampNeg e9)))] := hD
  have hP9 := hP.sub (ws' := [(d, .inr (0, [.ref w, .int (-1), .int 0, .int 0]))]) [0] rfl
  have hD9 := hD.sub (ws' := [(d, .inr (0, [.ref w, .int (-1), .int 0, .int 0]))]) [0] (by decide) rfl
  refine W.widen (k := 0) (n := 0) (by decide) (by decide) ?_
  exact W.vret hx hb hr (fun t ht hW => ⟨⟨fun _ => 0, rfl, trivial, by rw [ht]; exact hP9, hD9⟩, hS.F ht⟩) hS.2.2 dD_write_66

set_option maxHeartbeats 4000000 in
set_option maxRecDepth 100000 in
theorem c_D_writeChecked (l : Launch) (dC : Nat → ClassId) (dI : Nat → Nat → Nat) (cI cZ cJ cT : ClassId) (d w : Nat) (f : Nat → Int32) (sz : Nat) : Met l yD_writeChecked (Cond.code yD_writeChecked cD_writeChecked 5 none :: wsA) ({ frames := 2, cells := 0, slots := 0, locals := 52 }) (va_Pc [.ref d, .int 1, .int 2, .int 64, .int 0] (fun U => U.heap.size = sz ∧ va_P (dC, dI) vwC [(d, .inr (0, [.ref w, .int (-1), .int 0, .int 0])), (w, .inl (cI, 384, .inl f))] U.heap ∧ KK dC dI cI cZ cJ cT U ∧ va_D (fun _ => True) [(d, .inr (0, [.ref w, .int (-1), .int 0, .int 0])), (w, .inl (cI, 384, .inl f))])) (va_Qv (S := Nat → Nat) (fun _ => True) (fun u t => va_P (dC, dI) vwC [(d, .inr (0, [.ref w, .int (-1), .int 0, .int 0]))] t.heap ∧ va_D (va_A [(d, .inr (0, [.ref w, .int (-1), .int 0, .int 0])), (w, .inl (cI, 384, .inl f))] sz) [(d, .inr (0, [.ref w, .int (-1), .int 0, .int 0]))]) (va_A [(d, .inr (0, [.ref w, .int (-1), .int 0, .int 0])), (w, .inl (cI, 384, .inl f))] sz)) 0 0 (va_A [(d, .inr (0, [.ref w, .int (-1), .int 0, .int 0])), (w, .inl (cI, 384, .inl f))] sz) := by
  refine Met.ofW (cc := cD_writeChecked) (maxL := 5) (ret := none) (by decide) rfl ?_
  intro p e s m args below meth c s₁ B hml hv
  obtain ⟨rfl, hsz, hP, hKK, hD0⟩ := hv
  have hK := hKK.1
  have hx := B.exec
  have hb := B.bytes
  have hr := B.returns
  have hw : ∀ w ∈ wsA, w.before _ s = true := fun w h => atoms_spec (ws := (Cond.code yD_writeChecked cD_writeChecked 5 none :: wsA)) B.pre w (List.mem_cons_of_mem _ h)
  have hown : s.vm.findClass "LoggedStore$Disk" = some m.cls := findClass_of_methodNamed B.named
  have hlocks := B.notSynchronized
  subst hsz
  have hD := hD0.self (sz := s.heap.size)
  generalize hAe : va_A [(d, .inr (0, [.ref w, .int (-1), .int 0, .int 0])), (w, .inl (cI, 384, .inl f))] s.heap.size = A at hD ⊢
  have hA : ∀ q : Nat, s.heap.size ≤ q → A q := fun q h => by rw [← hAe]; exact Or.inr h
  have hS : va_S A s.heap s.heap [] := va_S.rf
  have hl := lv_entry ([.ref d, .int 1, .int 2, .int 64, .int 0]) (n := 5) (Nat.le_of_ble_eq_true rfl)
  rw [lg_entry_eq]
  generalize (lg_sl ([.ref d, .int 1, .int 2, .int 64, .int 0]) ++ List.replicate (5 - (lg_sl ([.ref d, .int 1, .int 2, .int 64, .int 0])).length) Slot.unset).toArray = ls at hl ⊢
  have hl : lv_has ls 5 [(0, .ref d), (1, .int 1), (2, .int 2), (3, .int 64), (4, .int 0)] := hl
  refine lv_aload_n hx hb dD_writeChecked_0 rfl (lv_at hl 0 rfl) ?_
  refine lv_iload_n hx hb dD_writeChecked_1 rfl (lv_at hl 1 rfl) ?_
  refine lv_iload_n hx hb dD_writeChecked_2 rfl (lv_at hl 2 rfl) ?_
  refine lv_iload_n hx hb dD_writeChecked_3 rfl (lv_at hl 3 rfl) ?_
  refine lv_iload hx hb dD_writeChecked_4 (lv_at hl 4 rfl) ?_
  refine lv_iload_n hx hb dD_writeChecked_6 rfl (lv_at hl 1 rfl) ?_
  refine lv_iload_n hx hb dD_writeChecked_7 rfl (lv_at hl 2 rfl) ?_
  refine lv_iload_n hx hb dD_writeChecked_8 rfl (lv_at hl 3 rfl) ?_
  refine lv_iload hx hb dD_writeChecked_9 (lv_at hl 4 rfl) ?_
  have hPc := hP.sub (ws' := []) [] rfl
  refine vp_callSi (W.runS (As := [.int 1, .int 2, .int 64, .int 0]) (rest := [.int 0, .int 64, .int 2, .int 1, .ref d]) ⟨hx, hb, hml, hown, hw⟩ (c_chk l dC dI cI cZ cJ cT 1 2 64 0) ⟨callB_of 4 hw (gA0 w146) rfl rfl rfl (hw _ w41) (hw _ w144) (by decide +kernel) ⟨Nat.le_of_ble_eq_true rfl, Nat.le_of_ble_eq_true rfl⟩, (hw _ w145)⟩ ⟨kb_S, fun U hU hW => ⟨rfl, by rw [hU]; exact hPc, hKK.moved hW⟩⟩ rfl rfl hl.1 rfl (lv_room (Nat.le_of_ble_eq_true rfl)) dD_writeChecked_11 ⟨Nat.le_of_ble_eq_true rfl, Nat.le_of_ble_eq_true rfl⟩) (fun r1 e2 => ?_)
  obtain rfl : r1 = 1013773184 := e2.trans (by decide +kernel)
  have hPc := hP.sub (ws' := [(d, .inr (0, [.ref w, .int (-1), .int 0, .int 0])), (w, .inl (cI, 384, .inl f))]) [0, 1] rfl
  have hDc := hD.sub (ws' := [(d, .inr (0, [.ref w, .int (-1), .int 0, .int 0])), (w, .inl (cI, 384, .inl f))]) [0, 1] (by decide) rfl
  have hFc := va_free (wc := [(d, .inr (0, [.ref w, .int (-1), .int 0, .int 0])), (w, .inl (cI, 384, .inl f))]) hD hS hA [0, 1] rfl
  refine va_callv (va_runV (C := "LoggedStore$Disk") (b := d) (As := [.int 1, .int 2, .int 64, .int 0, .int 1013773184]) (rest := []) ⟨hx, hb, hml, hown, hw⟩ (c_D_write l dC dI cI cZ cJ cT d w 2 64 0 1013773184 f s.heap.size) ⟨callB_of 5 hw (gA0 w546) rfl rfl rfl (hw _ w41) (hw _ w543) (by decide +kernel) ⟨Nat.le_of_ble_eq_true rfl, Nat.le_of_ble_eq_true rfl⟩, (hw _ w544), (hw _ w545)⟩ ⟨kb_Q, va_recv (ci := 0) (q0 := 0) hK hP rfl rfl, fun U hU hW => ⟨rfl, by rw [hU], by rw [hU]; exact hPc, hKK.moved hW, hDc.weaken (fun _ _ _ _ => trivial)⟩⟩ rfl rfl hl.1 rfl (lv_room (Nat.le_of_ble_eq_true rfl)) dD_writeChecked_14 ⟨Nat.le_of_ble_eq_true rfl, Nat.le_of_ble_eq_true rfl⟩) hS (fun q _ h => hFc q h) hFc (fun u4 t H1 locs ht hvm he9 hB hz1 hk1 hS => ?_)
  obtain ⟨hP1, hD1⟩ := hB
  rw [ht] at hP1
  obtain ⟨hP, hD⟩ := va_join (wr := []) (w1 := [(d, .inr (0, [.ref w, .int (-1), .int 0, .int 0]))]) hP hD [0, 1] [] rfl rfl (by decide) (by decide) hk1 hFc hP1 hD1
  generalize H1 = H at hP hS ⊢
  have hP : va_P (dC, dI) vwC [(d, .inr (0, [.ref w, .int (-1), .int 0, .int 0]))] H := hP
  have hD : va_D A [(d, .inr (0, [.ref w, .int (-1), .int 0, .int 0]))] := hD
  have hP9 := hP.sub (ws' := [(d, .inr (0, [.ref w, .int (-1), .int 0, .int 0]))]) [0] rfl
  have hD9 := hD.sub (ws' := [(d, .inr (0, [.ref w, .int (-1), .int 0, .int 0]))]) [0] (by decide) rfl
  refine W.widen (k := 0) (n := 0) (by decide) (by decide) ?_
  exact W.vret hx hb hr (fun t ht hW => ⟨⟨fun _ => 0, rfl, trivial, by rw [ht]; exact hP9, hD9⟩, hS.F ht⟩) hS.2.2 dD_writeChecked_17

set_option maxHeartbeats 4000000 in
set_option maxRecDepth 100000 in
theorem c_checkpoint (l : Launch) (dC : Nat → ClassId) (dI : Nat → Nat → Nat) (cI cZ cJ cT : ClassId) (x d w tb wa ts : Nat) (hs ns : Nat) (sz : Nat) : Met l yS_checkpoint (Cond.code yS_checkpoint cS_checkpoint 3 (some .int) :: wsA) ({ frames := 3, cells := 0, slots := 0, locals := 76 }) (va_Pc [.ref x] (fun U => U.heap.size = sz ∧ va_P (dC, dI) vwC [(x, .inr (3, [.ref d, .ref tb, .ref wa, .ref ts, .int 0, .int 1, .int 0, .int 22])), (d, .inr (0, [.ref w, .int (-1), .int 0, .int 0])), (w, .inl (cI, 384, .inl W0)), (tb, .inr (1, [.ref hs, .ref ns, .int 0])), (hs, .inl (cZ, 64, .inl (fun _ => 0)))] U.heap ∧ KK dC dI cI cZ cJ cT U ∧ va_D (fun _ => True) [(x, .inr (3, [.ref d, .ref tb, .ref wa, .ref ts, .int 0, .int 1, .int 0, .int 22])), (d, .inr (0, [.ref w, .int (-1), .int 0, .int 0])), (w, .inl (cI, 384, .inl W0)), (tb, .inr (1, [.ref hs, .ref ns, .int 0])), (hs, .inl (cZ, 64, .inl (fun _ => 0)))])) (va_Qi (S := Nat → Nat) (fun r _ => r = 2) (fun _ _ => True) (va_A [(x, .inr (3, [.ref d, .ref tb, .ref wa, .ref ts, .int 0, .int 1, .int 0, .int 22])), (d, .inr (0, [.ref w, .int (-1), .int 0, .int 0])), (w, .inl (cI, 384, .inl W0)), (tb, .inr (1, [.ref hs, .ref ns, .int 0])), (hs, .inl (cZ, 64, .inl (fun _ => 0)))] sz)) 0 0 (va_A [(x, .inr (3, [.ref d, .ref tb, .ref wa, .ref ts, .int 0, .int 1, .int 0, .int 22])), (d, .inr (0, [.ref w, .int (-1), .int 0, .int 0])), (w, .inl (cI, 384, .inl W0)), (tb, .inr (1, [.ref hs, .ref ns, .int 0])), (hs, .inl (cZ, 64, .inl (fun _ => 0)))] sz) := by
  refine Met.ofW (cc := cS_checkpoint) (maxL := 3) (ret := (some .int)) (by decide) rfl ?_
  intro p e s m args below meth c s₁ B hml hv
  obtain ⟨rfl, hsz, hP, hKK, hD0⟩ := hv
  have hK := hKK.1
  have hx := B.exec
  have hb := B.bytes
  have hr := B.returns
  have hw : ∀ w ∈ wsA, w.before _ s = true := fun w h => atoms_spec (ws := (Cond.code yS_checkpoint cS_checkpoint 3 (some .int) :: wsA)) B.pre w (List.mem_cons_of_mem _ h)
  have hown : s.vm.findClass "LoggedStore" = some m.cls := findClass_of_methodNamed B.named
  have hlocks := B.notSynchronized
  subst hsz
  have hD := hD0.self (sz := s.heap.size)
  generalize hAe : va_A [(x, .inr (3, [.ref d, .ref tb, .ref wa, .ref ts, .int 0, .int 1, .int 0, .int 22])), (d, .inr (0, [.ref w, .int (-1), .int 0, .int 0])), (w, .inl (cI, 384, .inl W0)), (tb, .inr (1, [.ref hs, .ref ns, .int 0])), (hs, .inl (cZ, 64, .inl (fun _ => 0)))] s.heap.size = A at hD ⊢
  have hA : ∀ q : Nat, s.heap.size ≤ q → A q := fun q h => by rw [← hAe]; exact Or.inr h
  have hS : va_S A s.heap s.heap [] := va_S.rf
  have hl := lv_entry ([.ref x]) (n := 3) (Nat.le_of_ble_eq_true rfl)
  rw [lg_entry_eq]
  generalize (lg_sl ([.ref x]) ++ List.replicate (3 - (lg_sl ([.ref x])).length) Slot.unset).toArray = ls at hl ⊢
  have hl : lv_has ls 3 [(0, .ref x)] := hl
  refine lv_aload_n hx hb dS_checkpoint_0 rfl (lv_at hl 0 rfl) ?_
  have hPc := hP.sub (ws' := [(x, .inr (3, [.ref d, .ref tb, .ref wa, .ref ts, .int 0, .int 1, .int 0, .int 22])), (d, .inr (0, [.ref w, .int (-1), .int 0, .int 0]))]) [0, 1] rfl
  refine va_csv (W.runV (C := "LoggedStore") (b := x) (As := []) (rest := []) ⟨hx, hb, hml, hown, hw⟩ (c_requireUp l dC dI cI cZ cJ cT x d w tb wa ts) ⟨callB_of 0 hw (gA0 w292) rfl rfl rfl (hw _ w40) (hw _ w289) (by decide +kernel) ⟨Nat.le_of_ble_eq_true rfl, Nat.le_of_ble_eq_true rfl⟩, (hw _ w291), (hw _ w10)⟩ ⟨kb_S, va_recv (ci := 3) (q0 := 0) hK hP rfl rfl, fun U hU hW => ⟨rfl, by rw [hU]; exact hPc, hKK.moved hW⟩⟩ rfl rfl hl.1 rfl (lv_room (Nat.le_of_ble_eq_true rfl)) dS_checkpoint_1 ⟨Nat.le_of_ble_eq_true rfl, Nat.le_of_ble_eq_true rfl⟩) (fun _ => ?_)
  refine lv_iconst (v := 1) hx hb dS_checkpoint_4 (by decide) ?_
  refine lv_aload_n hx hb dS_checkpoint_5 rfl (lv_at hl 0 rfl) ?_
  refine va_get (D := (dC, dI)) (ci := 3) (v := .int 0) (C := "LoggedStore") (T := uS) (N := 8) hx hb hw inS hown hK hP 0 rfl rfl 6 (by decide) (hw _ w160) (fun _ h9 => h9) rfl dS_checkpoint_6 ?_
  refine lv_isub hx hb dS_checkpoint_9 ?_
  refine lv_topi (nm_r (e' := 1) (by decide +kernel) ?_)
  refine lv_istore_n hx hb dS_checkpoint_10 rfl hl (by decide) rfl (fun ls hl => ?_)
  have hl : lv_has ls 3 [(1, .int 1), (0, .ref x)] := hl
  refine lv_aload_n hx hb dS_checkpoint_11 rfl (lv_at hl 1 rfl) ?_
  refine va_get (D := (dC, dI)) (ci := 3) (v := .int 1) (C := "LoggedStore") (T := uS) (N := 8) hx hb hw inS hown hK hP 0 rfl rfl 5 (by decide) (hw _ w159) (fun _ h9 => h9) rfl dS_checkpoint_12 ?_
  refine lv_iconst (v := 1) hx hb dS_checkpoint_15 (by decide) ?_
  refine lv_iadd hx hb dS_checkpoint_16 ?_
  refine lv_topi (nm_r (e' := 2) (by decide +kernel) ?_)
  refine lv_istore_n hx hb dS_checkpoint_17 rfl hl (by decide) rfl (fun ls hl => ?_)
  have hl : lv_has ls 3 [(2, .int 2), (1, .int 1), (0, .ref x)] := hl
  refine lv_aload_n hx hb dS_checkpoint_18 rfl (lv_at hl 2 rfl) ?_
  refine lv_iload_n hx hb dS_checkpoint_19 rfl (lv_at hl 1 rfl) ?_
  have hPc := hP.sub (ws' := [(x, .inr (3, [.ref d, .ref tb, .ref wa, .ref ts, .int 0, .int 1, .int 0, .int 22])), (tb, .inr (1, [.ref hs, .ref ns, .int 0])), (hs, .inl (cZ, 64, .inl (fun _ => 0)))]) [0, 3, 4] rfl
  refine va_csv (W.runV (C := "LoggedStore") (b := x) (As := [.int 1]) (rest := []) ⟨hx, hb, hml, hown, hw⟩ (c_writeArea l dC dI cI cZ cJ cT x d w tb wa ts hs ns) ⟨callB_of 1 hw (gA0 w570) rfl rfl rfl (hw _ w40) (hw _ w567) (by decide +kernel) ⟨Nat.le_of_ble_eq_true rfl, Nat.le_of_ble_eq_true rfl⟩, (hw _ w569), (hw _ w20)⟩ ⟨kb_S, va_recv (ci := 3) (q0 := 0) hK hP rfl rfl, fun U hU hW => ⟨rfl, by rw [hU]; exact hPc, hKK.moved hW⟩⟩ rfl rfl hl.1 rfl (lv_room (Nat.le_of_ble_eq_true rfl)) dS_checkpoint_20 ⟨Nat.le_of_ble_eq_true rfl, Nat.le_of_ble_eq_true rfl⟩) (fun _ => ?_)
  refine lv_aload_n hx hb dS_checkpoint_23 rfl (lv_at hl 2 rfl) ?_
  refine va_get (D := (dC, dI)) (ci := 3) (v := .ref d) (C := "LoggedStore") (T := uS) (N := 8) hx hb hw inS hown hK hP 0 rfl rfl 0 (by decide) (hw _ w154) (fun _ h9 => h9) rfl dS_checkpoint_24 ?_
  refine lv_iload_n hx hb dS_checkpoint_27 rfl (lv_at hl 0 rfl) ?_
  have hPc := hP.sub (ws' := []) [] rfl
  refine vp_callSi (W.runS (As := [.int 2]) (rest := [.ref d]) ⟨hx, hb, hml, hown, hw⟩ (c_hb2 l dC dI cI cZ cJ cT) ⟨callB_of 1 hw (gA0 w140) rfl rfl rfl (hw _ w40) (hw _ w225) (by decide +kernel) ⟨Nat.le_of_ble_eq_true rfl, Nat.le_of_ble_eq_true rfl⟩, (hw _ w139)⟩ ⟨kb_S, fun U hU hW => ⟨rfl, by rw [hU]; exact hPc, hKK.moved hW⟩⟩ rfl rfl hl.1 rfl (lv_room (Nat.le_of_ble_eq_true rfl)) dS_checkpoint_28 ⟨Nat.le_of_ble_eq_true rfl, Nat.le_of_ble_eq_true rfl⟩) (fun r1 e2 => ?_)
  obtain rfl : r1 = 1 := e2
  refine lv_iload_n hx hb dS_checkpoint_31 rfl (lv_at hl 0 rfl) ?_
  refine lv_bipush (v := 64) hx hb dS_checkpoint_32 (by decide) ?_
  refine lv_iload_n hx hb dS_checkpoint_34 rfl (lv_at hl 1 rfl) ?_
  refine lv_imul hx hb dS_checkpoint_35 ?_
  refine lv_topi (nm_r (e' := 64) (by decide +kernel) ?_)
  refine lv_aload_n hx hb dS_checkpoint_36 rfl (lv_at hl 2 rfl) ?_
  refine va_get (D := (dC, dI)) (ci := 3) (v := .ref tb) (C := "LoggedStore") (T := uS) (N := 8) hx hb hw inS hown hK hP 0 rfl rfl 1 (by decide) (hw _ w155) (fun _ h9 => h9) rfl dS_checkpoint_37 ?_
  refine va_get (D := (dC, dI)) (ci := 1) (v := .int 0) (C := "LoggedStore$Table") (T := uT) (N := 3) hx hb hw inT hown hK hP 3 rfl rfl 2 (by decide) (hw _ w95) (fun _ h9 => h9) rfl dS_checkpoint_40 ?_
  refine lv_iadd hx hb dS_checkpoint_43 ?_
  refine lv_topi (nm_r (e' := 64) (by decide +kernel) ?_)
  refine lv_aload_n hx hb dS_checkpoint_44 rfl (lv_at hl 2 rfl) ?_
  refine va_get (D := (dC, dI)) (ci := 3) (v := .int 0) (C := "LoggedStore") (T := uS) (N := 8) hx hb hw inS hown hK hP 0 rfl rfl 4 (by decide) (hw _ w158) (fun _ h9 => h9) rfl dS_checkpoint_45 ?_
  have hPc := hP.sub (ws' := [(d, .inr (0, [.ref w, .int (-1), .int 0, .int 0])), (w, .inl (cI, 384, .inl W0))]) [1, 2] rfl
  have hDc := hD.sub (ws' := [(d, .inr (0, [.ref w, .int (-1), .int 0, .int 0])), (w, .inl (cI, 384, .inl W0))]) [1, 2] (by decide) rfl
  have hFc := va_free (wc := [(d, .inr (0, [.ref w, .int (-1), .int 0, .int 0])), (w, .inl (cI, 384, .inl W0))]) hD hS hA [1, 2] rfl
  refine va_callv (va_runV (C := "LoggedStore$Disk") (b := d) (As := [.int 1, .int 2, .int 64, .int 0]) (rest := []) ⟨hx, hb, hml, hown, hw⟩ (c_D_writeChecked l dC dI cI cZ cJ cT d w W0 s.heap.size) ⟨callB_of 4 hw (gA0 w542) rfl rfl rfl (hw _ w41) (hw _ w539) (by decide +kernel) ⟨Nat.le_of_ble_eq_true rfl, Nat.le_of_ble_eq_true rfl⟩, (hw _ w540), (hw _ w541)⟩ ⟨kb_Q, va_recv (ci := 0) (q0 := 1) hK hP rfl rfl, fun U hU hW => ⟨rfl, by rw [hU], by rw [hU]; exact hPc, hKK.moved hW, hDc.weaken (fun _ _ _ _ => trivial)⟩⟩ rfl rfl hl.1 rfl (lv_room (Nat.le_of_ble_eq_true rfl)) dS_checkpoint_48 ⟨Nat.le_of_ble_eq_true rfl, Nat.le_of_ble_eq_true rfl⟩) hS (fun q _ h => hFc q h) hFc (fun u4 t H1 locs ht hvm he9 hB hz1 hk1 hS => ?_)
  obtain ⟨hP1, hD1⟩ := hB
  rw [ht] at hP1
  obtain ⟨hP, hD⟩ := va_join (wr := [(x, .inr (3, [.ref d, .ref tb, .ref wa, .ref ts, .int 0, .int 1, .int 0, .int 22])), (tb, .inr (1, [.ref hs, .ref ns, .int 0])), (hs, .inl (cZ, 64, .inl (fun _ => 0)))]) (w1 := [(d, .inr (0, [.ref w, .int (-1), .int 0, .int 0]))]) hP hD [1, 2] [0, 3, 4] rfl rfl (by decide) (by decide) hk1 hFc hP1 hD1
  generalize H1 = H at hP hS ⊢
  have hP : va_P (dC, dI) vwC [(x, .inr (3, [.ref d, .ref tb, .ref wa, .ref ts, .int 0, .int 1, .int 0, .int 22])), (tb, .inr (1, [.ref hs, .ref ns, .int 0])), (hs, .inl (cZ, 64, .inl (fun _ => 0))), (d, .inr (0, [.ref w, .int (-1), .int 0, .int 0]))] H := hP
  have hD : va_D A [(x, .inr (3, [.ref d, .ref tb, .ref wa, .ref ts, .int 0, .int 1, .int 0, .int 22])), (tb, .inr (1, [.ref hs, .ref ns, .int 0])), (hs, .inl (cZ, 64, .inl (fun _ => 0))), (d, .inr (0, [.ref w, .int (-1), .int 0, .int 0]))] := hD
  refine lv_aload_n hx hb dS_checkpoint_51 rfl (lv_at hl 2 rfl) ?_
  refine lv_iload_n hx hb dS_checkpoint_52 rfl (lv_at hl 1 rfl) ?_
  refine va_put (D := (dC, dI)) (ci := 3) (v := .int 1) (ty := .int) (C := "LoggedStore") (T := uS) (N := 8) hx hb hw inS tyS tyS_ok nmS hown hK hP hD hS 0 rfl rfl 6 (by decide) (hw _ w160) (fun _ h9 => h9) rfl (by decide +kernel) rfl rfl (Nat.le_of_ble_eq_true rfl) dS_checkpoint_53 (fun H locs hP hD hS => ?_)
  have hP : va_P (dC, dI) vwC [(x, .inr (3, [.ref d, .ref tb, .ref wa, .ref ts, .int 0, .int 1, .int 1, .int 22])), (tb, .inr (1, [.ref hs, .ref ns, .int 0])), (hs, .inl (cZ, 64, .inl (fun _ => 0))), (d, .inr (0, [.ref w, .int (-1), .int 0, .int 0]))] H := hP
  have hD : va_D A [(x, .inr (3, [.ref d, .ref tb, .ref wa, .ref ts, .int 0, .int 1, .int 1, .int 22])), (tb, .inr (1, [.ref hs, .ref ns, .int 0])), (hs, .inl (cZ, 64, .inl (fun _ => 0))), (d, .inr (0, [.ref w, .int (-1), .int 0, .int 0]))] := hD
  refine lv_aload_n hx hb dS_checkpoint_56 rfl (lv_at hl 2 rfl) ?_
  refine lv_iload_n hx hb dS_checkpoint_57 rfl (lv_at hl 0 rfl) ?_
  refine va_put (D := (dC, dI)) (ci := 3) (v := .int 2) (ty := .int) (C := "LoggedStore") (T := uS) (N := 8) hx hb hw inS tyS tyS_ok nmS hown hK hP hD hS 0 rfl rfl 5 (by decide) (hw _ w159) (fun _ h9 => h9) rfl (by decide +kernel) rfl rfl (Nat.le_of_ble_eq_true rfl) dS_checkpoint_58 (fun H locs hP hD hS => ?_)
  have hP : va_P (dC, dI) vwC [(x, .inr (3, [.ref d, .ref tb, .ref wa, .ref ts, .int 0, .int 2, .int 1, .int 22])), (tb, .inr (1, [.ref hs, .ref ns, .int 0])), (hs, .inl (cZ, 64, .inl (fun _ => 0))), (d, .inr (0, [.ref w, .int (-1), .int 0, .int 0]))] H := hP
  have hD : va_D A [(x, .inr (3, [.ref d, .ref tb, .ref wa, .ref ts, .int 0, .int 2, .int 1, .int 22])), (tb, .inr (1, [.ref hs, .ref ns, .int 0])), (hs, .inl (cZ, 64, .inl (fun _ => 0))), (d, .inr (0, [.ref w, .int (-1), .int 0, .int 0]))] := hD
  refine lv_aload_n hx hb dS_checkpoint_61 rfl (lv_at hl 2 rfl) ?_
  refine lv_bipush (v := 22) hx hb dS_checkpoint_62 (by decide) ?_
  refine va_put (D := (dC, dI)) (ci := 3) (v := .int 22) (ty := .int) (C := "LoggedStore") (T := uS) (N := 8) hx hb hw inS tyS tyS_ok nmS hown hK hP hD hS 0 rfl rfl 7 (by decide) (hw _ w161) (fun _ h9 => h9) rfl (by decide +kernel) rfl rfl (Nat.le_of_ble_eq_true rfl) dS_checkpoint_64 (fun H locs hP hD hS => ?_)
  have hP : va_P (dC, dI) vwC [(x, .inr (3, [.ref d, .ref tb, .ref wa, .ref ts, .int 0, .int 2, .int 1, .int 22])), (tb, .inr (1, [.ref hs, .ref ns, .int 0])), (hs, .inl (cZ, 64, .inl (fun _ => 0))), (d, .inr (0, [.ref w, .int (-1), .int 0, .int 0]))] H := hP
  have hD : va_D A [(x, .inr (3, [.ref d, .ref tb, .ref wa, .ref ts, .int 0, .int 2, .int 1, .int 22])), (tb, .inr (1, [.ref hs, .ref ns, .int 0])), (hs, .inl (cZ, 64, .inl (fun _ => 0))), (d, .inr (0, [.ref w, .int (-1), .int 0, .int 0]))] := hD
  refine lv_aload_n hx hb dS_checkpoint_67 rfl (lv_at hl 2 rfl) ?_
  refine va_get (D := (dC, dI)) (ci := 3) (v := .int 2) (C := "LoggedStore") (T := uS) (N := 8) hx hb hw inS hown hK hP 0 rfl rfl 5 (by decide) (hw _ w159) (fun _ h9 => h9) rfl dS_checkpoint_68 ?_
  refine W.widen (k := 0) (n := 0) (by decide) (by decide) ?_
  exact W.iret (v := 2) hx hb hr (fun t ht hW => ⟨⟨2, fun _ => 0, rfl, rfl, trivial⟩, hS.F ht⟩) hS.2.2 dS_checkpoint_71

set_option maxHeartbeats 4000000 in
set_option maxRecDepth 100000 in
theorem c_copyAll (l : Launch) (dC : Nat → ClassId) (dI : Nat → Nat → Nat) (cI cZ cJ cT : ClassId) (v vh vn tb hs ns : Nat) (sz : Nat) : Met l yT_copyAll (Cond.code yT_copyAll cT_copyAll 3 none :: wsA) ({ frames := 0, cells := 0, slots := 0, locals := 0 }) (va_Pc [.ref v, .ref tb] (fun U => U.heap.size = sz ∧ va_P (dC, dI) vwC [(v, .inr (1, [.ref vh, .ref vn, .int 0])), (vh, .inl (cZ, 64, .inl (fun _ => 0))), (vn, .inl (cI, 64, .inl (fun _ => 0))), (tb, .inr (1, [.ref hs, .ref ns, .int 0])), (hs, .inl (cZ, 64, .inl (fun _ => 0))), (ns, .inl (cI, 64, .inl (fun _ => 0)))] U.heap ∧ KK dC dI cI cZ cJ cT U ∧ va_D (fun _ => True) [(v, .inr (1, [.ref vh, .ref vn, .int 0])), (vh, .inl (cZ, 64, .inl (fun _ => 0))), (vn, .inl (cI, 64, .inl (fun _ => 0))), (tb, .inr (1, [.ref hs, .ref ns, .int 0])), (hs, .inl (cZ, 64, .inl (fun _ => 0))), (ns, .inl (cI, 64, .inl (fun _ => 0)))])) (va_Qv (S := Nat → Nat) (fun _ => True) (fun u t => va_P (dC, dI) vwC [(tb, .inr (1, [.ref hs, .ref ns, .int 0])), (hs, .inl (cZ, 64, .inl (fun _ => 0))), (ns, .inl (cI, 64, .inl (fun _ => 0)))] t.heap ∧ va_D (va_A [(v, .inr (1, [.ref vh, .ref vn, .int 0])), (vh, .inl (cZ, 64, .inl (fun _ => 0))), (vn, .inl (cI, 64, .inl (fun _ => 0))), (tb, .inr (1, [.ref hs, .ref ns, .int 0])), (hs, .inl (cZ, 64, .inl (fun _ => 0))), (ns, .inl (cI, 64, .inl (fun _ => 0)))] sz) [(tb, .inr (1, [.ref hs, .ref ns, .int 0])), (hs, .inl (cZ, 64, .inl (fun _ => 0))), (ns, .inl (cI, 64, .inl (fun _ => 0)))]) (va_A [(v, .inr (1, [.ref vh, .ref vn, .int 0])), (vh, .inl (cZ, 64, .inl (fun _ => 0))), (vn, .inl (cI, 64, .inl (fun _ => 0))), (tb, .inr (1, [.ref hs, .ref ns, .int 0])), (hs, .inl (cZ, 64, .inl (fun _ => 0))), (ns, .inl (cI, 64, .inl (fun _ => 0)))] sz)) 0 0 (va_A [(v, .inr (1, [.ref vh, .ref vn, .int 0])), (vh, .inl (cZ, 64, .inl (fun _ => 0))), (vn, .inl (cI, 64, .inl (fun _ => 0))), (tb, .inr (1, [.ref hs, .ref ns, .int 0])), (hs, .inl (cZ, 64, .inl (fun _ => 0))), (ns, .inl (cI, 64, .inl (fun _ => 0)))] sz) := by
  refine Met.ofW (cc := cT_copyAll) (maxL := 3) (ret := none) (by decide) rfl ?_
  intro p e s m args below meth c s₁ B hml hv
  obtain ⟨rfl, hsz, hP, hKK, hD0⟩ := hv
  have hK := hKK.1
  have hx := B.exec
  have hb := B.bytes
  have hr := B.returns
  have hw : ∀ w ∈ wsA, w.before _ s = true := fun w h => atoms_spec (ws := (Cond.code yT_copyAll cT_copyAll 3 none :: wsA)) B.pre w (List.mem_cons_of_mem _ h)
  have hown : s.vm.findClass "LoggedStore$Table" = some m.cls := findClass_of_methodNamed B.named
  have hlocks := B.notSynchronized
  subst hsz
  have hD := hD0.self (sz := s.heap.size)
  generalize hAe : va_A [(v, .inr (1, [.ref vh, .ref vn, .int 0])), (vh, .inl (cZ, 64, .inl (fun _ => 0))), (vn, .inl (cI, 64, .inl (fun _ => 0))), (tb, .inr (1, [.ref hs, .ref ns, .int 0])), (hs, .inl (cZ, 64, .inl (fun _ => 0))), (ns, .inl (cI, 64, .inl (fun _ => 0)))] s.heap.size = A at hD ⊢
  have hA : ∀ q : Nat, s.heap.size ≤ q → A q := fun q h => by rw [← hAe]; exact Or.inr h
  have hS : va_S A s.heap s.heap [] := va_S.rf
  have hl := lv_entry ([.ref v, .ref tb]) (n := 3) (Nat.le_of_ble_eq_true rfl)
  rw [lg_entry_eq]
  generalize (lg_sl ([.ref v, .ref tb]) ++ List.replicate (3 - (lg_sl ([.ref v, .ref tb])).length) Slot.unset).toArray = ls at hl ⊢
  have hl : lv_has ls 3 [(0, .ref v), (1, .ref tb)] := hl
  refine lv_iconst (v := 0) hx hb dT_copyAll_0 (by decide) ?_
  refine lv_istore_n hx hb dT_copyAll_1 rfl hl (by decide) rfl (fun ls hl => ?_)
  have hl : lv_has ls 3 [(2, .int 0), (0, .ref v), (1, .ref tb)] := hl
  refine tk_forW (nL := 3) (D := (dC, dI)) (cl := vwC) (A := A) (H0 := s.heap) (σ := (Nat → Int32) × (Nat → Int32)) (G := fun ls H locs => W p l e _ s m _ below meth c H locs _ _ _ (F0 m 2 ls [])) (fun i => [(2, .int (nI i)), (0, .ref v), (1, .ref tb)]) (fun z => [(v, .inr (1, [.ref vh, .ref vn, .int 0])), (vh, .inl (cZ, 64, .inl z.1)), (vn, .inl (cI, 64, .inl z.2)), (tb, .inr (1, [.ref hs, .ref ns, .int 0])), (hs, .inl (cZ, 64, .inl (fun _ => 0))), (ns, .inl (cI, 64, .inl (fun _ => 0)))]) 64 ?_ ?_ (fun _ => 0, fun _ => 0) ls s.heap [] hl hP hD hS
  · intro z ls H locs hl hP hD hS
    have hl : lv_has ls 3 [(2, .int (nI 64)), (0, .ref v), (1, .ref tb)] := hl
    have hP : va_P (dC, dI) vwC [(v, .inr (1, [.ref vh, .ref vn, .int 0])), (vh, .inl (cZ, 64, .inl z.1)), (vn, .inl (cI, 64, .inl z.2)), (tb, .inr (1, [.ref hs, .ref ns, .int 0])), (hs, .inl (cZ, 64, .inl (fun _ => 0))), (ns, .inl (cI, 64, .inl (fun _ => 0)))] H := hP
    have hD : va_D A [(v, .inr (1, [.ref vh, .ref vn, .int 0])), (vh, .inl (cZ, 64, .inl z.1)), (vn, .inl (cI, 64, .inl z.2)), (tb, .inr (1, [.ref hs, .ref ns, .int 0])), (hs, .inl (cZ, 64, .inl (fun _ => 0))), (ns, .inl (cI, 64, .inl (fun _ => 0)))] := hD
    refine lv_iload_n hx hb dT_copyAll_2 rfl (lv_at hl 0 rfl) ?_
    refine lv_bipush (v := 64) hx hb dT_copyAll_3 (by decide) ?_
    refine lv_icmp_ge (tgt := 38) hx hb dT_copyAll_5 (by decide) (fun _ => ?_) (fun h9 => absurd (by decide +kernel) h9)
    refine lv_aload_n hx hb dT_copyAll_38 rfl (lv_at hl 1 rfl) ?_
    refine lv_aload_n hx hb dT_copyAll_39 rfl (lv_at hl 2 rfl) ?_
    refine va_get (D := (dC, dI)) (ci := 1) (v := .int 0) (C := "LoggedStore$Table") (T := uT) (N := 3) hx hb hw inT hown hK hP 3 rfl rfl 2 (by decide) (hw _ w94) (fun _ h9 => h9) rfl dT_copyAll_40 ?_
    refine va_put (D := (dC, dI)) (ci := 1) (v := .int 0) (ty := .int) (C := "LoggedStore$Table") (T := uT) (N := 3) hx hb hw inT tyT tyT_ok nmT hown hK hP hD hS 0 rfl rfl 2 (by decide) (hw _ w94) (fun _ h9 => h9) rfl (by decide +kernel) rfl rfl (Nat.le_of_ble_eq_true rfl) dT_copyAll_43 (fun H locs hP hD hS => ?_)
    have hP : va_P (dC, dI) vwC [(v, .inr (1, [.ref vh, .ref vn, .int 0])), (vh, .inl (cZ, 64, .inl z.1)), (vn, .inl (cI, 64, .inl z.2)), (tb, .inr (1, [.ref hs, .ref ns, .int 0])), (hs, .inl (cZ, 64, .inl (fun _ => 0))), (ns, .inl (cI, 64, .inl (fun _ => 0)))] H := hP
    have hD : va_D A [(v, .inr (1, [.ref vh, .ref vn, .int 0])), (vh, .inl (cZ, 64, .inl z.1)), (vn, .inl (cI, 64, .inl z.2)), (tb, .inr (1, [.ref hs, .ref ns, .int 0])), (hs, .inl (cZ, 64, .inl (fun _ => 0))), (ns, .inl (cI, 64, .inl (fun _ => 0)))] := hD
    have hP9 := hP.sub (ws' := [(tb, .inr (1, [.ref hs, .ref ns, .int 0])), (hs, .inl (cZ, 64, .inl (fun _ => 0))), (ns, .inl (cI, 64, .inl (fun _ => 0)))]) [3, 4, 5] rfl
    have hD9 := hD.sub (ws' := [(tb, .inr (1, [.ref hs, .ref ns, .int 0])), (hs, .inl (cZ, 64, .inl (fun _ => 0))), (ns, .inl (cI, 64, .inl (fun _ => 0)))]) [3, 4, 5] (by decide) rfl
    refine W.widen (k := 0) (n := 0) (by decide) (by decide) ?_
    exact W.vret hx hb hr (fun t ht hW => ⟨⟨fun _ => 0, rfl, trivial, by rw [ht]; exact hP9, hD9⟩, hS.F ht⟩) hS.2.2 dT_copyAll_46
  · intro i hi z ls H locs hl hP hD hS ih
    have hl : lv_has ls 3 [(2, .int (nI i)), (0, .ref v), (1, .ref tb)] := hl
    have hP : va_P (dC, dI) vwC [(v, .inr (1, [.ref vh, .ref vn, .int 0])), (vh, .inl (cZ, 64, .inl z.1)), (vn, .inl (cI, 64, .inl z.2)), (tb, .inr (1, [.ref hs, .ref ns, .int 0])), (hs, .inl (cZ, 64, .inl (fun _ => 0))), (ns, .inl (cI, 64, .inl (fun _ => 0)))] H := hP
    have hD : va_D A [(v, .inr (1, [.ref vh, .ref vn, .int 0])), (vh, .inl (cZ, 64, .inl z.1)), (vn, .inl (cI, 64, .inl z.2)), (tb, .inr (1, [.ref hs, .ref ns, .int 0])), (hs, .inl (cZ, 64, .inl (fun _ => 0))), (ns, .inl (cI, 64, .inl (fun _ => 0)))] := hD
    refine lv_iload_n hx hb dT_copyAll_2 rfl (lv_at hl 0 rfl) ?_
    refine lv_bipush (v := 64) hx hb dT_copyAll_3 (by decide) ?_
    refine lv_icmp_ge (tgt := 38) hx hb dT_copyAll_5 (by decide) (fun h9 => absurd h9 (nI_ge hi (by decide))) (fun _ => ?_)
    refine lv_aload_n hx hb dT_copyAll_8 rfl (lv_at hl 1 rfl) ?_
    refine va_get (D := (dC, dI)) (ci := 1) (v := .ref vh) (C := "LoggedStore$Table") (T := uT) (N := 3) hx hb hw inT hown hK hP 0 rfl rfl 0 (by decide) (hw _ w90) (fun _ h9 => h9) rfl dT_copyAll_9 ?_
    refine lv_iload_n hx hb dT_copyAll_12 rfl (lv_at hl 0 rfl) ?_
    refine lv_aload_n hx hb dT_copyAll_13 rfl (lv_at hl 2 rfl) ?_
    refine va_get (D := (dC, dI)) (ci := 1) (v := .ref hs) (C := "LoggedStore$Table") (T := uT) (N := 3) hx hb hw inT hown hK hP 3 rfl rfl 0 (by decide) (hw _ w90) (fun _ h9 => h9) rfl dT_copyAll_14 ?_
    refine lv_iload_n hx hb dT_copyAll_17 rfl (lv_at hl 0 rfl) ?_
    refine va_zald hx hb hK hP 4 1 rfl rfl (vp_in_nI hi (by decide)) dT_copyAll_18 ?_
    refine lv_topi (nm_r (e' := 0) (rfl) ?_)
    refine va_zast hx hb hK hP hD hS 1 1 rfl rfl (vp_in_nI hi (by decide)) dT_copyAll_19 (fun H locs hP hD hS => ?_)
    have hP : va_P (dC, dI) vwC [(v, .inr (1, [.ref vh, .ref vn, .int 0])), (vh, .inl (cZ, 64, .inl (upd z.1 (nI i : Int32).toNatClampNeg (vp_nar .boolean 0)))), (vn, .inl (cI, 64, .inl z.2)), (tb, .inr (1, [.ref hs, .ref ns, .int 0])), (hs, .inl (cZ, 64, .inl (fun _ => 0))), (ns, .inl (cI, 64, .inl (fun _ => 0)))] H := hP
    have hD : va_D A [(v, .inr (1, [.ref vh, .ref vn, .int 0])), (vh, .inl (cZ, 64, .inl (upd z.1 (nI i : Int32).toNatClampNeg (vp_nar .boolean 0)))), (vn, .inl (cI, 64, .inl z.2)), (tb, .inr (1, [.ref hs, .ref ns, .int 0])), (hs, .inl (cZ, 64, .inl (fun _ => 0))), (ns, .inl (cI, 64, .inl (fun _ => 0)))] := hD
    refine lv_aload_n hx hb dT_copyAll_20 rfl (lv_at hl 1 rfl) ?_
    refine va_get (D := (dC, dI)) (ci := 1) (v := .ref vn) (C := "LoggedStore$Table") (T := uT) (N := 3) hx hb hw inT hown hK hP 0 rfl rfl 1 (by decide) (hw _ w92) (fun _ h9 => h9) rfl dT_copyAll_21 ?_
    refine lv_iload_n hx hb dT_copyAll_24 rfl (lv_at hl 0 rfl) ?_
    refine lv_aload_n hx hb dT_copyAll_25 rfl (lv_at hl 2 rfl) ?_
    refine va_get (D := (dC, dI)) (ci := 1) (v := .ref ns) (C := "LoggedStore$Table") (T := uT) (N := 3) hx hb hw inT hown hK hP 3 rfl rfl 1 (by decide) (hw _ w92) (fun _ h9 => h9) rfl dT_copyAll_26 ?_
    refine lv_iload_n hx hb dT_copyAll_29 rfl (lv_at hl 0 rfl) ?_
    refine va_iald hx hb hK hP 5 0 rfl rfl (vp_in_nI hi (by decide)) dT_copyAll_30 ?_
    refine lv_topi (nm_r (e' := 0) (rfl) ?_)
    refine va_iast hx hb hK hP hD hS 2 0 rfl rfl (vp_in_nI hi (by decide)) dT_copyAll_31 (fun H locs hP hD hS => ?_)
    have hP : va_P (dC, dI) vwC [(v, .inr (1, [.ref vh, .ref vn, .int 0])), (vh, .inl (cZ, 64, .inl (upd z.1 (nI i : Int32).toNatClampNeg (vp_nar .boolean 0)))), (vn, .inl (cI, 64, .inl (upd z.2 (nI i : Int32).toNatClampNeg 0))), (tb, .inr (1, [.ref hs, .ref ns, .int 0])), (hs, .inl (cZ, 64, .inl (fun _ => 0))), (ns, .inl (cI, 64, .inl (fun _ => 0)))] H := hP
    have hD : va_D A [(v, .inr (1, [.ref vh, .ref vn, .int 0])), (vh, .inl (cZ, 64, .inl (upd z.1 (nI i : Int32).toNatClampNeg (vp_nar .boolean 0)))), (vn, .inl (cI, 64, .inl (upd z.2 (nI i : Int32).toNatClampNeg 0))), (tb, .inr (1, [.ref hs, .ref ns, .int 0])), (hs, .inl (cZ, 64, .inl (fun _ => 0))), (ns, .inl (cI, 64, .inl (fun _ => 0)))] := hD
    refine lv_iinc (k := 0) (v := nI (i + 1)) hx hb dT_copyAll_32 hl rfl (nI_1 i) (by decide) rfl (fun ls hl => ?_)
    have hl : lv_has ls 3 [(2, .int (nI (i + 1))), (0, .ref v), (1, .ref tb)] := hl
    refine lv_goto (tgt := 2) hx hb dT_copyAll_35 (by decide) ?_
    exact ih (upd z.1 (nI i : Int32).toNatClampNeg (vp_nar .boolean 0), upd z.2 (nI i : Int32).toNatClampNeg 0) ls H locs hl hP hD hS

set_option maxHeartbeats 4000000 in
set_option maxRecDepth 100000 in
theorem c_start (l : Launch) (dC : Nat → ClassId) (dI : Nat → Nat → Nat) (cI cZ cJ cT : ClassId) (tr v vh vn wr tb hs ns : Nat) (sz : Nat) : Met l yR_start (Cond.code yR_start cR_start 4 none :: wsA) ({ frames := 1, cells := 0, slots := 0, locals := 22 }) (va_Pc [.ref tr, .ref tb, .int 0] (fun U => U.heap.size = sz ∧ va_P (dC, dI) vwC [(tr, .inr (2, [.ref v, .ref wr, .int 0, .int 0, .int 0])), (v, .inr (1, [.ref vh, .ref vn, .int 0])), (vh, .inl (cZ, 64, .inl (fun _ => 0))), (vn, .inl (cI, 64, .inl (fun _ => 0))), (wr, .inl (cZ, 64, .inl (fun _ => 0))), (tb, .inr (1, [.ref hs, .ref ns, .int 0])), (hs, .inl (cZ, 64, .inl (fun _ => 0))), (ns, .inl (cI, 64, .inl (fun _ => 0)))] U.heap ∧ KK dC dI cI cZ cJ cT U ∧ va_D (fun _ => True) [(tr, .inr (2, [.ref v, .ref wr, .int 0, .int 0, .int 0])), (v, .inr (1, [.ref vh, .ref vn, .int 0])), (vh, .inl (cZ, 64, .inl (fun _ => 0))), (vn, .inl (cI, 64, .inl (fun _ => 0))), (wr, .inl (cZ, 64, .inl (fun _ => 0))), (tb, .inr (1, [.ref hs, .ref ns, .int 0])), (hs, .inl (cZ, 64, .inl (fun _ => 0))), (ns, .inl (cI, 64, .inl (fun _ => 0)))])) (va_Qv (S := Nat → Nat) (fun _ => True) (fun _ _ => True) (va_A [(tr, .inr (2, [.ref v, .ref wr, .int 0, .int 0, .int 0])), (v, .inr (1, [.ref vh, .ref vn, .int 0])), (vh, .inl (cZ, 64, .inl (fun _ => 0))), (vn, .inl (cI, 64, .inl (fun _ => 0))), (wr, .inl (cZ, 64, .inl (fun _ => 0))), (tb, .inr (1, [.ref hs, .ref ns, .int 0])), (hs, .inl (cZ, 64, .inl (fun _ => 0))), (ns, .inl (cI, 64, .inl (fun _ => 0)))] sz)) 0 0 (va_A [(tr, .inr (2, [.ref v, .ref wr, .int 0, .int 0, .int 0])), (v, .inr (1, [.ref vh, .ref vn, .int 0])), (vh, .inl (cZ, 64, .inl (fun _ => 0))), (vn, .inl (cI, 64, .inl (fun _ => 0))), (wr, .inl (cZ, 64, .inl (fun _ => 0))), (tb, .inr (1, [.ref hs, .ref ns, .int 0])), (hs, .inl (cZ, 64, .inl (fun _ => 0))), (ns, .inl (cI, 64, .inl (fun _ => 0)))] sz) := by
  refine Met.ofW (cc := cR_start) (maxL := 4) (ret := none) (by decide) rfl ?_
  intro p e s m args below meth c s₁ B hml hv
  obtain ⟨rfl, hsz, hP, hKK, hD0⟩ := hv
  have hK := hKK.1
  have hx := B.exec
  have hb := B.bytes
  have hr := B.returns
  have hw : ∀ w ∈ wsA, w.before _ s = true := fun w h => atoms_spec (ws := (Cond.code yR_start cR_start 4 none :: wsA)) B.pre w (List.mem_cons_of_mem _ h)
  have hown : s.vm.findClass "LoggedStore$Transaction" = some m.cls := findClass_of_methodNamed B.named
  have hlocks := B.notSynchronized
  subst hsz
  have hD := hD0.self (sz := s.heap.size)
  generalize hAe : va_A [(tr, .inr (2, [.ref v, .ref wr, .int 0, .int 0, .int 0])), (v, .inr (1, [.ref vh, .ref vn, .int 0])), (vh, .inl (cZ, 64, .inl (fun _ => 0))), (vn, .inl (cI, 64, .inl (fun _ => 0))), (wr, .inl (cZ, 64, .inl (fun _ => 0))), (tb, .inr (1, [.ref hs, .ref ns, .int 0])), (hs, .inl (cZ, 64, .inl (fun _ => 0))), (ns, .inl (cI, 64, .inl (fun _ => 0)))] s.heap.size = A at hD ⊢
  have hA : ∀ q : Nat, s.heap.size ≤ q → A q := fun q h => by rw [← hAe]; exact Or.inr h
  have hS : va_S A s.heap s.heap [] := va_S.rf
  have hl := lv_entry ([.ref tr, .ref tb, .int 0]) (n := 4) (Nat.le_of_ble_eq_true rfl)
  rw [lg_entry_eq]
  generalize (lg_sl ([.ref tr, .ref tb, .int 0]) ++ List.replicate (4 - (lg_sl ([.ref tr, .ref tb, .int 0])).length) Slot.unset).toArray = ls at hl ⊢
  have hl : lv_has ls 4 [(0, .ref tr), (1, .ref tb), (2, .int 0)] := hl
  refine lv_aload_n hx hb dR_start_0 rfl (lv_at hl 0 rfl) ?_
  refine va_get (D := (dC, dI)) (ci := 2) (v := .ref v) (C := "LoggedStore$Transaction") (T := uR) (N := 5) hx hb hw inR hown hK hP 0 rfl rfl 0 (by decide) (hw _ w113) (fun _ h9 => h9) rfl dR_start_1 ?_
  refine lv_aload_n hx hb dR_start_4 rfl (lv_at hl 1 rfl) ?_
  have hPc := hP.sub (ws' := [(v, .inr (1, [.ref vh, .ref vn, .int 0])), (vh, .inl (cZ, 64, .inl (fun _ => 0))), (vn, .inl (cI, 64, .inl (fun _ => 0))), (tb, .inr (1, [.ref hs, .ref ns, .int 0])), (hs, .inl (cZ, 64, .inl (fun _ => 0))), (ns, .inl (cI, 64, .inl (fun _ => 0)))]) [1, 2, 3, 5, 6, 7] rfl
  have hDc := hD.sub (ws' := [(v, .inr (1, [.ref vh, .ref vn, .int 0])), (vh, .inl (cZ, 64, .inl (fun _ => 0))), (vn, .inl (cI, 64, .inl (fun _ => 0))), (tb, .inr (1, [.ref hs, .ref ns, .int 0])), (hs, .inl (cZ, 64, .inl (fun _ => 0))), (ns, .inl (cI, 64, .inl (fun _ => 0)))]) [1, 2, 3, 5, 6, 7] (by decide) rfl
  have hFc := va_free (wc := [(v, .inr (1, [.ref vh, .ref vn, .int 0])), (vh, .inl (cZ, 64, .inl (fun _ => 0))), (vn, .inl (cI, 64, .inl (fun _ => 0))), (tb, .inr (1, [.ref hs, .ref ns, .int 0])), (hs, .inl (cZ, 64, .inl (fun _ => 0))), (ns, .inl (cI, 64, .inl (fun _ => 0)))]) hD hS hA [1, 2, 3, 5, 6, 7] rfl
  refine va_callv (va_runV (C := "LoggedStore$Table") (b := v) (As := [.ref tb]) (rest := []) ⟨hx, hb, hml, hown, hw⟩ (c_copyAll l dC dI cI cZ cJ cT v vh vn tb hs ns s.heap.size) ⟨callB_of 1 hw (gA0 w405) rfl rfl rfl (hw _ w42) (hw _ w402) (by decide +kernel) ⟨Nat.le_of_ble_eq_true rfl, Nat.le_of_ble_eq_true rfl⟩, (hw _ w403), (hw _ w404)⟩ ⟨kb_Q, va_recv (ci := 1) (q0 := 1) hK hP rfl rfl, fun U hU hW => ⟨rfl, by rw [hU], by rw [hU]; exact hPc, hKK.moved hW, hDc.weaken (fun _ _ _ _ => trivial)⟩⟩ rfl rfl hl.1 rfl (lv_room (Nat.le_of_ble_eq_true rfl)) dR_start_5 ⟨Nat.le_of_ble_eq_true rfl, Nat.le_of_ble_eq_true rfl⟩) hS (fun q _ h => hFc q h) hFc (fun u2 t H1 locs ht hvm he9 hB hz1 hk1 hS => ?_)
  obtain ⟨hP1, hD1⟩ := hB
  rw [ht] at hP1
  obtain ⟨hP, hD⟩ := va_join (wr := [(tr, .inr (2, [.ref v, .ref wr, .int 0, .int 0, .int 0])), (wr, .inl (cZ, 64, .inl (fun _ => 0)))]) (w1 := [(tb, .inr (1, [.ref hs, .ref ns, .int 0])), (hs, .inl (cZ, 64, .inl (fun _ => 0))), (ns, .inl (cI, 64, .inl (fun _ => 0)))]) hP hD [1, 2, 3, 5, 6, 7] [0, 4] rfl rfl (by decide) (by decide) hk1 hFc hP1 hD1
  generalize H1 = H at hP hS ⊢
  have hP : va_P (dC, dI) vwC [(tr, .inr (2, [.ref v, .ref wr, .int 0, .int 0, .int 0])), (wr, .inl (cZ, 64, .inl (fun _ => 0))), (tb, .inr (1, [.ref hs, .ref ns, .int 0])), (hs, .inl (cZ, 64, .inl (fun _ => 0))), (ns, .inl (cI, 64, .inl (fun _ => 0)))] H := hP
  have hD : va_D A [(tr, .inr (2, [.ref v, .ref wr, .int 0, .int 0, .int 0])), (wr, .inl (cZ, 64, .inl (fun _ => 0))), (tb, .inr (1, [.ref hs, .ref ns, .int 0])), (hs, .inl (cZ, 64, .inl (fun _ => 0))), (ns, .inl (cI, 64, .inl (fun _ => 0)))] := hD
  refine lv_iconst (v := 0) hx hb dR_start_8 (by decide) ?_
  refine lv_istore_n hx hb dR_start_9 rfl hl (by decide) rfl (fun ls hl => ?_)
  have hl : lv_has ls 4 [(3, .int 0), (0, .ref tr), (1, .ref tb), (2, .int 0)] := hl
  refine tk_forW (nL := 4) (D := (dC, dI)) (cl := vwC) (A := A) (H0 := s.heap) (σ := (Nat → Int32)) (G := fun ls H locs => W p l e _ s m _ below meth c H locs _ _ _ (F0 m 10 ls [])) (fun i => [(3, .int (nI i)), (0, .ref tr), (1, .ref tb), (2, .int 0)]) (fun z => [(tr, .inr (2, [.ref v, .ref wr, .int 0, .int 0, .int 0])), (wr, .inl (cZ, 64, .inl z)), (tb, .inr (1, [.ref hs, .ref ns, .int 0])), (hs, .inl (cZ, 64, .inl (fun _ => 0))), (ns, .inl (cI, 64, .inl (fun _ => 0)))]) 64 ?_ ?_ (fun _ => 0) ls H locs hl hP hD hS
  · intro z ls H locs hl hP hD hS
    have hl : lv_has ls 4 [(3, .int (nI 64)), (0, .ref tr), (1, .ref tb), (2, .int 0)] := hl
    have hP : va_P (dC, dI) vwC [(tr, .inr (2, [.ref v, .ref wr, .int 0, .int 0, .int 0])), (wr, .inl (cZ, 64, .inl z)), (tb, .inr (1, [.ref hs, .ref ns, .int 0])), (hs, .inl (cZ, 64, .inl (fun _ => 0))), (ns, .inl (cI, 64, .inl (fun _ => 0)))] H := hP
    have hD : va_D A [(tr, .inr (2, [.ref v, .ref wr, .int 0, .int 0, .int 0])), (wr, .inl (cZ, 64, .inl z)), (tb, .inr (1, [.ref hs, .ref ns, .int 0])), (hs, .inl (cZ, 64, .inl (fun _ => 0))), (ns, .inl (cI, 64, .inl (fun _ => 0)))] := hD
    refine lv_iload_n hx hb dR_start_10 rfl (lv_at hl 0 rfl) ?_
    refine lv_bipush (v := 64) hx hb dR_start_11 (by decide) ?_
    refine lv_icmp_ge (tgt := 29) hx hb dR_start_13 (by decide) (fun _ => ?_) (fun h9 => absurd (by decide +kernel) h9)
    refine lv_aload_n hx hb dR_start_29 rfl (lv_at hl 1 rfl) ?_
    refine lv_iconst (v := 0) hx hb dR_start_30 (by decide) ?_
    refine va_put (D := (dC, dI)) (ci := 2) (v := .int 0) (ty := .int) (C := "LoggedStore$Transaction") (T := uR) (N := 5) hx hb hw inR tyR tyR_ok nmR hown hK hP hD hS 0 rfl rfl 2 (by decide) (hw _ w117) (fun _ h9 => h9) rfl (by decide +kernel) rfl rfl (Nat.le_of_ble_eq_true rfl) dR_start_31 (fun H locs hP hD hS => ?_)
    have hP : va_P (dC, dI) vwC [(tr, .inr (2, [.ref v, .ref wr, .int 0, .int 0, .int 0])), (wr, .inl (cZ, 64, .inl z)), (tb, .inr (1, [.ref hs, .ref ns, .int 0])), (hs, .inl (cZ, 64, .inl (fun _ => 0))), (ns, .inl (cI, 64, .inl (fun _ => 0)))] H := hP
    have hD : va_D A [(tr, .inr (2, [.ref v, .ref wr, .int 0, .int 0, .int 0])), (wr, .inl (cZ, 64, .inl z)), (tb, .inr (1, [.ref hs, .ref ns, .int 0])), (hs, .inl (cZ, 64, .inl (fun _ => 0))), (ns, .inl (cI, 64, .inl (fun _ => 0)))] := hD
    refine lv_aload_n hx hb dR_start_34 rfl (lv_at hl 1 rfl) ?_
    refine lv_iload_n hx hb dR_start_35 rfl (lv_at hl 3 rfl) ?_
    refine va_put (D := (dC, dI)) (ci := 2) (v := .int 0) (ty := .int) (C := "LoggedStore$Transaction") (T := uR) (N := 5) hx hb hw inR tyR tyR_ok nmR hown hK hP hD hS 0 rfl rfl 3 (by decide) (hw _ w119) (fun _ h9 => h9) rfl (by decide +kernel) rfl rfl (Nat.le_of_ble_eq_true rfl) dR_start_36 (fun H locs hP hD hS => ?_)
    have hP : va_P (dC, dI) vwC [(tr, .inr (2, [.ref v, .ref wr, .int 0, .int 0, .int 0])), (wr, .inl (cZ, 64, .inl z)), (tb, .inr (1, [.ref hs, .ref ns, .int 0])), (hs, .inl (cZ, 64, .inl (fun _ => 0))), (ns, .inl (cI, 64, .inl (fun _ => 0)))] H := hP
    have hD : va_D A [(tr, .inr (2, [.ref v, .ref wr, .int 0, .int 0, .int 0])), (wr, .inl (cZ, 64, .inl z)), (tb, .inr (1, [.ref hs, .ref ns, .int 0])), (hs, .inl (cZ, 64, .inl (fun _ => 0))), (ns, .inl (cI, 64, .inl (fun _ => 0)))] := hD
    refine lv_aload_n hx hb dR_start_39 rfl (lv_at hl 1 rfl) ?_
    refine lv_iconst (v := 1) hx hb dR_start_40 (by decide) ?_
    refine va_put (D := (dC, dI)) (ci := 2) (v := .int 1) (ty := .boolean) (C := "LoggedStore$Transaction") (T := uR) (N := 5) hx hb hw inR tyR tyR_ok nmR hown hK hP hD hS 0 rfl rfl 4 (by decide) (hw _ w121) (fun _ h9 => h9) rfl (by decide +kernel) rfl rfl (Nat.le_of_ble_eq_true rfl) dR_start_41 (fun H locs hP hD hS => ?_)
    have hP : va_P (dC, dI) vwC [(tr, .inr (2, [.ref v, .ref wr, .int 0, .int 0, .int 1])), (wr, .inl (cZ, 64, .inl z)), (tb, .inr (1, [.ref hs, .ref ns, .int 0])), (hs, .inl (cZ, 64, .inl (fun _ => 0))), (ns, .inl (cI, 64, .inl (fun _ => 0)))] H := hP
    have hD : va_D A [(tr, .inr (2, [.ref v, .ref wr, .int 0, .int 0, .int 1])), (wr, .inl (cZ, 64, .inl z)), (tb, .inr (1, [.ref hs, .ref ns, .int 0])), (hs, .inl (cZ, 64, .inl (fun _ => 0))), (ns, .inl (cI, 64, .inl (fun _ => 0)))] := hD
    refine W.widen (k := 0) (n := 0) (by decide) (by decide) ?_
    exact W.vret hx hb hr (fun t ht hW => ⟨⟨fun _ => 0, rfl, trivial, trivial⟩, hS.F ht⟩) hS.2.2 dR_start_44
  · intro i hi z ls H locs hl hP hD hS ih
    have hl : lv_has ls 4 [(3, .int (nI i)), (0, .ref tr), (1, .ref tb), (2, .int 0)] := hl
    have hP : va_P (dC, dI) vwC [(tr, .inr (2, [.ref v, .ref wr, .int 0, .int 0, .int 0])), (wr, .inl (cZ, 64, .inl z)), (tb, .inr (1, [.ref hs, .ref ns, .int 0])), (hs, .inl (cZ, 64, .inl (fun _ => 0))), (ns, .inl (cI, 64, .inl (fun _ => 0)))] H := hP
    have hD : va_D A [(tr, .inr (2, [.ref v, .ref wr, .int 0, .int 0, .int 0])), (wr, .inl (cZ, 64, .inl z)), (tb, .inr (1, [.ref hs, .ref ns, .int 0])), (hs, .inl (cZ, 64, .inl (fun _ => 0))), (ns, .inl (cI, 64, .inl (fun _ => 0)))] := hD
    refine lv_iload_n hx hb dR_start_10 rfl (lv_at hl 0 rfl) ?_
    refine lv_bipush (v := 64) hx hb dR_start_11 (by decide) ?_
    refine lv_icmp_ge (tgt := 29) hx hb dR_start_13 (by decide) (fun h9 => absurd h9 (nI_ge hi (by decide))) (fun _ => ?_)
    refine lv_aload_n hx hb dR_start_16 rfl (lv_at hl 1 rfl) ?_
    refine va_get (D := (dC, dI)) (ci := 2) (v := .ref wr) (C := "LoggedStore$Transaction") (T := uR) (N := 5) hx hb hw inR hown hK hP 0 rfl rfl 1 (by decide) (hw _ w115) (fun _ h9 => h9) rfl dR_start_17 ?_
    refine lv_iload_n hx hb dR_start_20 rfl (lv_at hl 0 rfl) ?_
    refine lv_iconst (v := 0) hx hb dR_start_21 (by decide) ?_
    refine va_zast hx hb hK hP hD hS 1 1 rfl rfl (vp_in_nI hi (by decide)) dR_start_22 (fun H locs hP hD hS => ?_)
    have hP : va_P (dC, dI) vwC [(tr, .inr (2, [.ref v, .ref wr, .int 0, .int 0, .int 0])), (wr, .inl (cZ, 64, .inl (upd z (nI i : Int32).toNatClampNeg (vp_nar .boolean 0)))), (tb, .inr (1, [.ref hs, .ref ns, .int 0])), (hs, .inl (cZ, 64, .inl (fun _ => 0))), (ns, .inl (cI, 64, .inl (fun _ => 0)))] H := hP
    have hD : va_D A [(tr, .inr (2, [.ref v, .ref wr, .int 0, .int 0, .int 0])), (wr, .inl (cZ, 64, .inl (upd z (nI i : Int32).toNatClampNeg (vp_nar .boolean 0)))), (tb, .inr (1, [.ref hs, .ref ns, .int 0])), (hs, .inl (cZ, 64, .inl (fun _ => 0))), (ns, .inl (cI, 64, .inl (fun _ => 0)))] := hD
    refine lv_iinc (k := 0) (v := nI (i + 1)) hx hb dR_start_23 hl rfl (nI_1 i) (by decide) rfl (fun ls hl => ?_)
    have hl : lv_has ls 4 [(3, .int (nI (i + 1))), (0, .ref tr), (1, .ref tb), (2, .int 0)] := hl
    refine lv_goto (tgt := 10) hx hb dR_start_26 (by decide) ?_
    exact ih (upd z (nI i : Int32).toNatClampNeg (vp_nar .boolean 0)) ls H locs hl hP hD hS

set_option maxHeartbeats 4000000 in
set_option maxRecDepth 100000 in
theorem c_limitWrites (l : Launch) (dC : Nat → ClassId) (dI : Nat → Nat → Nat) (cI cZ cJ cT : ClassId) (d w : Nat) (n9 w9 : Int32) (sz : Nat) : Met l yD_limitWrites (Cond.code yD_limitWrites cD_limitWrites 3 none :: wsA) ({ frames := 1, cells := 0, slots := 0, locals := 16 }) (va_Pc [.ref d, .int n9, .int w9] (fun U => U.heap.size = sz ∧ va_P (dC, dI) vwC [(d, .inr (0, [.ref w, .int (-1), .int 0, .int 0]))] U.heap ∧ KK dC dI cI cZ cJ cT U ∧ va_D (fun _ => True) [(d, .inr (0, [.ref w, .int (-1), .int 0, .int 0]))])) (va_Qv (S := Nat → Nat) (fun _ => True) (fun _ _ => True) (va_A [(d, .inr (0, [.ref w, .int (-1), .int 0, .int 0]))] sz)) 0 0 (va_A [(d, .inr (0, [.ref w, .int (-1), .int 0, .int 0]))] sz) := by
  refine Met.ofW (cc := cD_limitWrites) (maxL := 3) (ret := none) (by decide) rfl ?_
  intro p e s m args below meth c s₁ B hml hv
  obtain ⟨rfl, hsz, hP, hKK, hD0⟩ := hv
  have hK := hKK.1
  have hx := B.exec
  have hb := B.bytes
  have hr := B.returns
  have hw : ∀ w ∈ wsA, w.before _ s = true := fun w h => atoms_spec (ws := (Cond.code yD_limitWrites cD_limitWrites 3 none :: wsA)) B.pre w (List.mem_cons_of_mem _ h)
  have hown : s.vm.findClass "LoggedStore$Disk" = some m.cls := findClass_of_methodNamed B.named
  have hlocks := B.notSynchronized
  subst hsz
  have hD := hD0.self (sz := s.heap.size)
  generalize hAe : va_A [(d, .inr (0, [.ref w, .int (-1), .int 0, .int 0]))] s.heap.size = A at hD ⊢
  have hA : ∀ q : Nat, s.heap.size ≤ q → A q := fun q h => by rw [← hAe]; exact Or.inr h
  have hS : va_S A s.heap s.heap [] := va_S.rf
  have hl := lv_entry ([.ref d, .int n9, .int w9]) (n := 3) (Nat.le_of_ble_eq_true rfl)
  rw [lg_entry_eq]
  generalize (lg_sl ([.ref d, .int n9, .int w9]) ++ List.replicate (3 - (lg_sl ([.ref d, .int n9, .int w9])).length) Slot.unset).toArray = ls at hl ⊢
  have hl : lv_has ls 3 [(0, .ref d), (1, .int n9), (2, .int w9)] := hl
  refine lv_aload_n hx hb dD_limitWrites_0 rfl (lv_at hl 0 rfl) ?_
  refine lv_iload_n hx hb dD_limitWrites_1 rfl (lv_at hl 1 rfl) ?_
  refine lv_if_ge (tgt := 9) hx hb dD_limitWrites_2 (by decide) (fun h7 => ?_) (fun h7 => ?_)
  · refine lv_iload_n hx hb dD_limitWrites_9 rfl (lv_at hl 1 rfl) ?_
    refine va_put (D := (dC, dI)) (ci := 0) (v := .int n9) (ty := .int) (C := "LoggedStore$Disk") (T := uD) (N := 4) hx hb hw inD tyD tyD_ok nmD hown hK hP hD hS 0 rfl rfl 1 (by decide) (hw _ w70) (fun _ h9 => h9) rfl (by decide +kernel) rfl rfl (Nat.le_of_ble_eq_true rfl) dD_limitWrites_10 (fun H locs hP hD hS => ?_)
    have hP : va_P (dC, dI) vwC [(d, .inr (0, [.ref w, .int n9, .int 0, .int 0]))] H := hP
    have hD : va_D A [(d, .inr (0, [.ref w, .int n9, .int 0, .int 0]))] := hD
    refine lv_aload_n hx hb dD_limitWrites_13 rfl (lv_at hl 0 rfl) ?_
    refine lv_iconst (v := 0) hx hb dD_limitWrites_14 (by decide) ?_
    refine lv_iconst (v := 3) hx hb dD_limitWrites_15 (by decide) ?_
    refine lv_iload_n hx hb dD_limitWrites_16 rfl (lv_at hl 2 rfl) ?_
    refine va_mmin hx hb (hml.trans hl.1.symm) hown (hw _ w187) (hw _ w188) (hw _ w44) (hw _ w189) (Nat.le_of_ble_eq_true rfl) (Nat.le_of_ble_eq_true rfl) (Nat.le_of_ble_eq_true rfl) (Nat.le_of_ble_eq_true rfl) dD_limitWrites_17 ?_
    refine va_mmax hx hb (hml.trans hl.1.symm) hown (hw _ w190) (hw _ w191) (hw _ w44) (hw _ w192) (Nat.le_of_ble_eq_true rfl) (Nat.le_of_ble_eq_true rfl) (Nat.le_of_ble_eq_true rfl) (Nat.le_of_ble_eq_true rfl) dD_limitWrites_20 ?_
    refine va_put (D := (dC, dI)) (ci := 0) (v := .int (if 0 < (if w9 < 3 then w9 else 3) then (if w9 < 3 then w9 else 3) else 0)) (ty := .int) (C := "LoggedStore$Disk") (T := uD) (N := 4) hx hb hw inD tyD tyD_ok nmD hown hK hP hD hS 0 rfl rfl 2 (by decide) (hw _ w71) (fun _ h9 => h9) rfl (by decide +kernel) rfl rfl (Nat.le_of_ble_eq_true rfl) dD_limitWrites_23 (fun H locs hP hD hS => ?_)
    have hP : va_P (dC, dI) vwC [(d, .inr (0, [.ref w, .int n9, .int (if 0 < (if w9 < 3 then w9 else 3) then (if w9 < 3 then w9 else 3) else 0), .int 0]))] H := hP
    have hD : va_D A [(d, .inr (0, [.ref w, .int n9, .int (if 0 < (if w9 < 3 then w9 else 3) then (if w9 < 3 then w9 else 3) else 0), .int 0]))] := hD
    refine W.widen (k := 0) (n := 0) (by decide) (by decide) ?_
    exact W.vret hx hb hr (fun t ht hW => ⟨⟨fun _ => 0, rfl, trivial, trivial⟩, hS.F ht⟩) hS.2.2 dD_limitWrites_26
  · refine lv_iconst (v := (-1)) hx hb dD_limitWrites_5 (by decide) ?_
    refine lv_goto (tgt := 10) hx hb dD_limitWrites_6 (by decide) ?_
    refine va_put (D := (dC, dI)) (ci := 0) (v := .int (-1)) (ty := .int) (C := "LoggedStore$Disk") (T := uD) (N := 4) hx hb hw inD tyD tyD_ok nmD hown hK hP hD hS 0 rfl rfl 1 (by decide) (hw _ w70) (fun _ h9 => h9) rfl (by decide +kernel) rfl rfl (Nat.le_of_ble_eq_true rfl) dD_limitWrites_10 (fun H locs hP hD hS => ?_)
    have hP : va_P (dC, dI) vwC [(d, .inr (0, [.ref w, .int (-1), .int 0, .int 0]))] H := hP
    have hD : va_D A [(d, .inr (0, [.ref w, .int (-1), .int 0, .int 0]))] := hD
    refine lv_aload_n hx hb dD_limitWrites_13 rfl (lv_at hl 0 rfl) ?_
    refine lv_iconst (v := 0) hx hb dD_limitWrites_14 (by decide) ?_
    refine lv_iconst (v := 3) hx hb dD_limitWrites_15 (by decide) ?_
    refine lv_iload_n hx hb dD_limitWrites_16 rfl (lv_at hl 2 rfl) ?_
    refine va_mmin hx hb (hml.trans hl.1.symm) hown (hw _ w187) (hw _ w188) (hw _ w44) (hw _ w189) (Nat.le_of_ble_eq_true rfl) (Nat.le_of_ble_eq_true rfl) (Nat.le_of_ble_eq_true rfl) (Nat.le_of_ble_eq_true rfl) dD_limitWrites_17 ?_
    refine va_mmax hx hb (hml.trans hl.1.symm) hown (hw _ w190) (hw _ w191) (hw _ w44) (hw _ w192) (Nat.le_of_ble_eq_true rfl) (Nat.le_of_ble_eq_true rfl) (Nat.le_of_ble_eq_true rfl) (Nat.le_of_ble_eq_true rfl) dD_limitWrites_20 ?_
    refine va_put (D := (dC, dI)) (ci := 0) (v := .int (if 0 < (if w9 < 3 then w9 else 3) then (if w9 < 3 then w9 else 3) else 0)) (ty := .int) (C := "LoggedStore$Disk") (T := uD) (N := 4) hx hb hw inD tyD tyD_ok nmD hown hK hP hD hS 0 rfl rfl 2 (by decide) (hw _ w71) (fun _ h9 => h9) rfl (by decide +kernel) rfl rfl (Nat.le_of_ble_eq_true rfl) dD_limitWrites_23 (fun H locs hP hD hS => ?_)
    have hP : va_P (dC, dI) vwC [(d, .inr (0, [.ref w, .int (-1), .int (if 0 < (if w9 < 3 then w9 else 3) then (if w9 < 3 then w9 else 3) else 0), .int 0]))] H := hP
    have hD : va_D A [(d, .inr (0, [.ref w, .int (-1), .int (if 0 < (if w9 < 3 then w9 else 3) then (if w9 < 3 then w9 else 3) else 0), .int 0]))] := hD
    refine W.widen (k := 0) (n := 0) (by decide) (by decide) ?_
    exact W.vret hx hb hr (fun t ht hW => ⟨⟨fun _ => 0, rfl, trivial, trivial⟩, hS.F ht⟩) hS.2.2 dD_limitWrites_26

set_option maxHeartbeats 4000000 in
set_option maxRecDepth 100000 in
theorem c_arm (l : Launch) (dC : Nat → ClassId) (dI : Nat → Nat → Nat) (cI cZ cJ cT : ClassId) (x d w tb wa ts : Nat) (n9 w9 : Int32) (sz : Nat) : Met l yS_arm (Cond.code yS_arm cS_arm 3 none :: wsA) ({ frames := 2, cells := 0, slots := 0, locals := 38 }) (va_Pc [.ref x, .int n9, .int w9] (fun U => U.heap.size = sz ∧ va_P (dC, dI) vwC [(x, .inr (3, [.ref d, .ref tb, .ref wa, .ref ts, .int 0, .int 1, .int 0, .int 22])), (d, .inr (0, [.ref w, .int (-1), .int 0, .int 0]))] U.heap ∧ KK dC dI cI cZ cJ cT U ∧ va_D (fun _ => True) [(x, .inr (3, [.ref d, .ref tb, .ref wa, .ref ts, .int 0, .int 1, .int 0, .int 22])), (d, .inr (0, [.ref w, .int (-1), .int 0, .int 0]))])) (va_Qv (S := Nat → Nat) (fun _ => True) (fun _ _ => True) (va_A [(x, .inr (3, [.ref d, .ref tb, .ref wa, .ref ts, .int 0, .int 1, .int 0, .int 22])), (d, .inr (0, [.ref w, .int (-1), .int 0, .int 0]))] sz)) 0 0 (va_A [(x, .inr (3, [.ref d, .ref tb, .ref wa, .ref ts, .int 0, .int 1, .int 0, .int 22])), (d, .inr (0, [.ref w, .int (-1), .int 0, .int 0]))] sz) := by
  refine Met.ofW (cc := cS_arm) (maxL := 3) (ret := none) (by decide) rfl ?_
  intro p e s m args below meth c s₁ B hml hv
  obtain ⟨rfl, hsz, hP, hKK, hD0⟩ := hv
  have hK := hKK.1
  have hx := B.exec
  have hb := B.bytes
  have hr := B.returns
  have hw : ∀ w ∈ wsA, w.before _ s = true := fun w h => atoms_spec (ws := (Cond.code yS_arm cS_arm 3 none :: wsA)) B.pre w (List.mem_cons_of_mem _ h)
  have hown : s.vm.findClass "LoggedStore" = some m.cls := findClass_of_methodNamed B.named
  have hlocks := B.notSynchronized
  subst hsz
  have hD := hD0.self (sz := s.heap.size)
  generalize hAe : va_A [(x, .inr (3, [.ref d, .ref tb, .ref wa, .ref ts, .int 0, .int 1, .int 0, .int 22])), (d, .inr (0, [.ref w, .int (-1), .int 0, .int 0]))] s.heap.size = A at hD ⊢
  have hA : ∀ q : Nat, s.heap.size ≤ q → A q := fun q h => by rw [← hAe]; exact Or.inr h
  have hS : va_S A s.heap s.heap [] := va_S.rf
  have hl := lv_entry ([.ref x, .int n9, .int w9]) (n := 3) (Nat.le_of_ble_eq_true rfl)
  rw [lg_entry_eq]
  generalize (lg_sl ([.ref x, .int n9, .int w9]) ++ List.replicate (3 - (lg_sl ([.ref x, .int n9, .int w9])).length) Slot.unset).toArray = ls at hl ⊢
  have hl : lv_has ls 3 [(0, .ref x), (1, .int n9), (2, .int w9)] := hl
  refine lv_aload_n hx hb dS_arm_0 rfl (lv_at hl 0 rfl) ?_
  refine va_get (D := (dC, dI)) (ci := 3) (v := .ref d) (C := "LoggedStore") (T := uS) (N := 8) hx hb hw inS hown hK hP 0 rfl rfl 0 (by decide) (hw _ w154) (fun _ h9 => h9) rfl dS_arm_1 ?_
  refine lv_iload_n hx hb dS_arm_4 rfl (lv_at hl 1 rfl) ?_
  refine lv_iload_n hx hb dS_arm_5 rfl (lv_at hl 2 rfl) ?_
  have hPc := hP.sub (ws' := [(d, .inr (0, [.ref w, .int (-1), .int 0, .int 0]))]) [1] rfl
  have hDc := hD.sub (ws' := [(d, .inr (0, [.ref w, .int (-1), .int 0, .int 0]))]) [1] (by decide) rfl
  have hFc := va_free (wc := [(d, .inr (0, [.ref w, .int (-1), .int 0, .int 0]))]) hD hS hA [1] rfl
  refine va_callv (va_runV (C := "LoggedStore$Disk") (b := d) (As := [.int n9, .int w9]) (rest := []) ⟨hx, hb, hml, hown, hw⟩ (c_limitWrites l dC dI cI cZ cJ cT d w n9 w9 s.heap.size) ⟨callB_of 2 hw (gA0 w186) rfl rfl rfl (hw _ w41) (hw _ w183) (by decide +kernel) ⟨Nat.le_of_ble_eq_true rfl, Nat.le_of_ble_eq_true rfl⟩, (hw _ w184), (hw _ w185)⟩ ⟨kb_Q, va_recv (ci := 0) (q0 := 1) hK hP rfl rfl, fun U hU hW => ⟨rfl, by rw [hU], by rw [hU]; exact hPc, hKK.moved hW, hDc.weaken (fun _ _ _ _ => trivial)⟩⟩ rfl rfl hl.1 rfl (lv_room (Nat.le_of_ble_eq_true rfl)) dS_arm_6 ⟨Nat.le_of_ble_eq_true rfl, Nat.le_of_ble_eq_true rfl⟩) hS (fun q _ h => hFc q h) hFc (fun u2 t H1 locs ht hvm he9 hB hz1 hk1 hS => ?_)
  obtain ⟨hP, hD⟩ := va_join (wr := [(x, .inr (3, [.ref d, .ref tb, .ref wa, .ref ts, .int 0, .int 1, .int 0, .int 22]))]) (w1 := []) hP hD [1] [0] rfl rfl (by decide) (by decide) hk1 hFc tk_P0 tk_D0
  generalize H1 = H at hP hS ⊢
  have hP : va_P (dC, dI) vwC [(x, .inr (3, [.ref d, .ref tb, .ref wa, .ref ts, .int 0, .int 1, .int 0, .int 22]))] H := hP
  have hD : va_D A [(x, .inr (3, [.ref d, .ref tb, .ref wa, .ref ts, .int 0, .int 1, .int 0, .int 22]))] := hD
  refine W.widen (k := 0) (n := 0) (by decide) (by decide) ?_
  exact W.vret hx hb hr (fun t ht hW => ⟨⟨fun _ => 0, rfl, trivial, trivial⟩, hS.F ht⟩) hS.2.2 dS_arm_9
end

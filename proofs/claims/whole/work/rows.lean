section
-- ===== PART A: goes FIRST, ahead of the names: the tables' words, and 'selects' of the private methods out of them =====
/-- a private method of a class that the tables say can be made, by its rows of tables_1 -/
def lw_okq (q : MethodName × Nat) : Prop := (q.1.cls ≠ "java/lang/invoke/MethodHandle" ∧ q.1.cls ≠ "java/lang/invoke/VarHandle") ∧ Cond.instantiable q.1.cls q.2 ∈ tables_1 ∧ Cond.privateMethod q.1 ∈ tables_1 ∧ Cond.instanceMethod q.1 ∈ tables_1
theorem lw_p0 : lw_okq (⟨"NameGuard", "putBytes", "(I)V"⟩, 15) := ⟨⟨by decide +kernel, by decide +kernel⟩, List.mem_of_getElem? (i := 18) (by decide +kernel), List.mem_of_getElem? (i := 243) (by decide +kernel), List.mem_of_getElem? (i := 244) (by decide +kernel)⟩
theorem lw_p1 : lw_okq (⟨"NameGuard$PieceTable", "placeOf", "(II)I"⟩, 11) := ⟨⟨by decide +kernel, by decide +kernel⟩, List.mem_of_getElem? (i := 64) (by decide +kernel), List.mem_of_getElem? (i := 290) (by decide +kernel), List.mem_of_getElem? (i := 291) (by decide +kernel)⟩
theorem lw_p2 : lw_okq (⟨"NameGuard$PieceTable", "addPiece", "(I)V"⟩, 11) := ⟨⟨by decide +kernel, by decide +kernel⟩, List.mem_of_getElem? (i := 64) (by decide +kernel), List.mem_of_getElem? (i := 309) (by decide +kernel), List.mem_of_getElem? (i := 310) (by decide +kernel)⟩
theorem lw_p3 : lw_okq (⟨"NameGuard$PieceTable", "writeSteps", "()V"⟩, 11) := ⟨⟨by decide +kernel, by decide +kernel⟩, List.mem_of_getElem? (i := 64) (by decide +kernel), List.mem_of_getElem? (i := 321) (by decide +kernel), List.mem_of_getElem? (i := 322) (by decide +kernel)⟩
theorem lw_p4 : lw_okq (⟨"NameGuard$PieceTable", "goOver", "(I)V"⟩, 11) := ⟨⟨by decide +kernel, by decide +kernel⟩, List.mem_of_getElem? (i := 64) (by decide +kernel), List.mem_of_getElem? (i := 333) (by decide +kernel), List.mem_of_getElem? (i := 334) (by decide +kernel)⟩
theorem lw_p5 : lw_okq (⟨"NameGuard", "judgeTape", "(I)V"⟩, 15) := ⟨⟨by decide +kernel, by decide +kernel⟩, List.mem_of_getElem? (i := 18) (by decide +kernel), List.mem_of_getElem? (i := 358) (by decide +kernel), List.mem_of_getElem? (i := 359) (by decide +kernel)⟩
theorem lw_p6 : lw_okq (⟨"NameGuard", "setFault", "(II)V"⟩, 15) := ⟨⟨by decide +kernel, by decide +kernel⟩, List.mem_of_getElem? (i := 18) (by decide +kernel), List.mem_of_getElem? (i := 362) (by decide +kernel), List.mem_of_getElem? (i := 363) (by decide +kernel)⟩
theorem lw_p7 : lw_okq (⟨"NameGuard$Text", "turnFrom", "(I)V"⟩, 8) := ⟨⟨by decide +kernel, by decide +kernel⟩, List.mem_of_getElem? (i := 367) (by decide +kernel), List.mem_of_getElem? (i := 422) (by decide +kernel), List.mem_of_getElem? (i := 423) (by decide +kernel)⟩
theorem lw_p8 : lw_okq (⟨"NameGuard", "isMixed", "(LNameGuard$Text;)Z"⟩, 15) := ⟨⟨by decide +kernel, by decide +kernel⟩, List.mem_of_getElem? (i := 18) (by decide +kernel), List.mem_of_getElem? (i := 439) (by decide +kernel), List.mem_of_getElem? (i := 440) (by decide +kernel)⟩
theorem lw_p9 : lw_okq (⟨"NameGuard", "registerAt", "(I)LNameGuard$Register;"⟩, 15) := ⟨⟨by decide +kernel, by decide +kernel⟩, List.mem_of_getElem? (i := 18) (by decide +kernel), List.mem_of_getElem? (i := 472) (by decide +kernel), List.mem_of_getElem? (i := 473) (by decide +kernel)⟩
theorem lw_p10 : lw_okq (⟨"NameGuard", "verdict", "(II)I"⟩, 15) := ⟨⟨by decide +kernel, by decide +kernel⟩, List.mem_of_getElem? (i := 18) (by decide +kernel), List.mem_of_getElem? (i := 480) (by decide +kernel), List.mem_of_getElem? (i := 481) (by decide +kernel)⟩
theorem lw_p11 : lw_okq (⟨"NameGuard", "isHeld", "(LNameGuard$Text;I)Z"⟩, 15) := ⟨⟨by decide +kernel, by decide +kernel⟩, List.mem_of_getElem? (i := 18) (by decide +kernel), List.mem_of_getElem? (i := 484) (by decide +kernel), List.mem_of_getElem? (i := 485) (by decide +kernel)⟩
theorem lw_p12 : lw_okq (⟨"NameGuard", "standingAt", "(I)LNameGuard$Entry;"⟩, 15) := ⟨⟨by decide +kernel, by decide +kernel⟩, List.mem_of_getElem? (i := 18) (by decide +kernel), List.mem_of_getElem? (i := 488) (by decide +kernel), List.mem_of_getElem? (i := 489) (by decide +kernel)⟩
theorem lw_p13 : lw_okq (⟨"NameGuard", "entryAt", "(I)LNameGuard$Entry;"⟩, 15) := ⟨⟨by decide +kernel, by decide +kernel⟩, List.mem_of_getElem? (i := 18) (by decide +kernel), List.mem_of_getElem? (i := 492) (by decide +kernel), List.mem_of_getElem? (i := 493) (by decide +kernel)⟩
theorem lw_p14 : lw_okq (⟨"NameGuard", "leastToOthers", "(LNameGuard$Text;III)I"⟩, 15) := ⟨⟨by decide +kernel, by decide +kernel⟩, List.mem_of_getElem? (i := 18) (by decide +kernel), List.mem_of_getElem? (i := 501) (by decide +kernel), List.mem_of_getElem? (i := 502) (by decide +kernel)⟩
theorem lw_p15 : lw_okq (⟨"NameGuard", "costBetween", "(LNameGuard$Text;LNameGuard$Text;I)I"⟩, 15) := ⟨⟨by decide +kernel, by decide +kernel⟩, List.mem_of_getElem? (i := 18) (by decide +kernel), List.mem_of_getElem? (i := 506) (by decide +kernel), List.mem_of_getElem? (i := 507) (by decide +kernel)⟩
def lw_privs_1 : List (MethodName × Nat) := [(⟨"NameGuard", "putBytes", "(I)V"⟩, 15), (⟨"NameGuard$PieceTable", "placeOf", "(II)I"⟩, 11), (⟨"NameGuard$PieceTable", "addPiece", "(I)V"⟩, 11), (⟨"NameGuard$PieceTable", "writeSteps", "()V"⟩, 11), (⟨"NameGuard$PieceTable", "goOver", "(I)V"⟩, 11), (⟨"NameGuard", "judgeTape", "(I)V"⟩, 15), (⟨"NameGuard", "setFault", "(II)V"⟩, 15), (⟨"NameGuard$Text", "turnFrom", "(I)V"⟩, 8), (⟨"NameGuard", "isMixed", "(LNameGuard$Text;)Z"⟩, 15), (⟨"NameGuard", "registerAt", "(I)LNameGuard$Register;"⟩, 15), (⟨"NameGuard", "verdict", "(II)I"⟩, 15), (⟨"NameGuard", "isHeld", "(LNameGuard$Text;I)Z"⟩, 15), (⟨"NameGuard", "standingAt", "(I)LNameGuard$Entry;"⟩, 15), (⟨"NameGuard", "entryAt", "(I)LNameGuard$Entry;"⟩, 15), (⟨"NameGuard", "leastToOthers", "(LNameGuard$Text;III)I"⟩, 15), (⟨"NameGuard", "costBetween", "(LNameGuard$Text;LNameGuard$Text;I)I"⟩, 15)]
theorem lw_r1 : ∀ q ∈ lw_privs_1, lw_okq q := List.forall_mem_cons.mpr ⟨lw_p0, List.forall_mem_cons.mpr ⟨lw_p1, List.forall_mem_cons.mpr ⟨lw_p2, List.forall_mem_cons.mpr ⟨lw_p3, List.forall_mem_cons.mpr ⟨lw_p4, List.forall_mem_cons.mpr ⟨lw_p5, List.forall_mem_cons.mpr ⟨lw_p6, List.forall_mem_cons.mpr ⟨lw_p7, List.forall_mem_cons.mpr ⟨lw_p8, List.forall_mem_cons.mpr ⟨lw_p9, List.forall_mem_cons.mpr ⟨lw_p10, List.forall_mem_cons.mpr ⟨lw_p11, List.forall_mem_cons.mpr ⟨lw_p12, List.forall_mem_cons.mpr ⟨lw_p13, List.forall_mem_cons.mpr ⟨lw_p14, List.forall_mem_cons.mpr ⟨lw_p15, fun _ h => absurd h List.not_mem_nil⟩⟩⟩⟩⟩⟩⟩⟩⟩⟩⟩⟩⟩⟩⟩⟩
theorem lw_p16 : lw_okq (⟨"NameGuard$Measure", "fillRow", "(LNameGuard$Text;ILNameGuard$Text;)I"⟩, 2) := ⟨⟨by decide +kernel, by decide +kernel⟩, List.mem_of_getElem? (i := 128) (by decide +kernel), List.mem_of_getElem? (i := 525) (by decide +kernel), List.mem_of_getElem? (i := 526) (by decide +kernel)⟩
theorem lw_p17 : lw_okq (⟨"NameGuard$Measure", "costBy", "(ILNameGuard$Text;ILNameGuard$Text;I)I"⟩, 2) := ⟨⟨by decide +kernel, by decide +kernel⟩, List.mem_of_getElem? (i := 128) (by decide +kernel), List.mem_of_getElem? (i := 531) (by decide +kernel), List.mem_of_getElem? (i := 532) (by decide +kernel)⟩
theorem lw_p18 : lw_okq (⟨"NameGuard$Measure", "firstShape", "(LNameGuard$Text;ILNameGuard$Text;I)I"⟩, 2) := ⟨⟨by decide +kernel, by decide +kernel⟩, List.mem_of_getElem? (i := 128) (by decide +kernel), List.mem_of_getElem? (i := 612) (by decide +kernel), List.mem_of_getElem? (i := 613) (by decide +kernel)⟩
theorem lw_p19 : lw_okq (⟨"NameGuard", "addPairsOf", "(ILNameGuard$Entry;I)V"⟩, 15) := ⟨⟨by decide +kernel, by decide +kernel⟩, List.mem_of_getElem? (i := 18) (by decide +kernel), List.mem_of_getElem? (i := 633) (by decide +kernel), List.mem_of_getElem? (i := 634) (by decide +kernel)⟩
theorem lw_p20 : lw_okq (⟨"NameGuard", "countStanding", "()I"⟩, 15) := ⟨⟨by decide +kernel, by decide +kernel⟩, List.mem_of_getElem? (i := 18) (by decide +kernel), List.mem_of_getElem? (i := 653) (by decide +kernel), List.mem_of_getElem? (i := 654) (by decide +kernel)⟩
theorem lw_p21 : lw_okq (⟨"NameGuard", "countOfRegister", "(I)I"⟩, 15) := ⟨⟨by decide +kernel, by decide +kernel⟩, List.mem_of_getElem? (i := 18) (by decide +kernel), List.mem_of_getElem? (i := 662) (by decide +kernel), List.mem_of_getElem? (i := 663) (by decide +kernel)⟩
theorem lw_p22 : lw_okq (⟨"NameGuardModel", "makeNodes", "()V"⟩, 42) := ⟨⟨by decide +kernel, by decide +kernel⟩, List.mem_of_getElem? (i := 666) (by decide +kernel), List.mem_of_getElem? (i := 672) (by decide +kernel), List.mem_of_getElem? (i := 673) (by decide +kernel)⟩
theorem lw_p23 : lw_okq (⟨"NameGuardModel", "node", "(I)I"⟩, 42) := ⟨⟨by decide +kernel, by decide +kernel⟩, List.mem_of_getElem? (i := 666) (by decide +kernel), List.mem_of_getElem? (i := 677) (by decide +kernel), List.mem_of_getElem? (i := 678) (by decide +kernel)⟩
theorem lw_p24 : lw_okq (⟨"NameGuardModel", "nodeOf", "(I)I"⟩, 42) := ⟨⟨by decide +kernel, by decide +kernel⟩, List.mem_of_getElem? (i := 666) (by decide +kernel), List.mem_of_getElem? (i := 681) (by decide +kernel), List.mem_of_getElem? (i := 682) (by decide +kernel)⟩
theorem lw_p25 : lw_okq (⟨"NameGuardModel", "find", "(II)I"⟩, 42) := ⟨⟨by decide +kernel, by decide +kernel⟩, List.mem_of_getElem? (i := 666) (by decide +kernel), List.mem_of_getElem? (i := 843) (by decide +kernel), List.mem_of_getElem? (i := 844) (by decide +kernel)⟩
theorem lw_p26 : lw_okq (⟨"NameGuardModel", "chainOf", "(II)I"⟩, 42) := ⟨⟨by decide +kernel, by decide +kernel⟩, List.mem_of_getElem? (i := 666) (by decide +kernel), List.mem_of_getElem? (i := 851) (by decide +kernel), List.mem_of_getElem? (i := 852) (by decide +kernel)⟩
theorem lw_p27 : lw_okq (⟨"NameGuardModel", "readName", "(I)Z"⟩, 42) := ⟨⟨by decide +kernel, by decide +kernel⟩, List.mem_of_getElem? (i := 666) (by decide +kernel), List.mem_of_getElem? (i := 863) (by decide +kernel), List.mem_of_getElem? (i := 864) (by decide +kernel)⟩
theorem lw_p28 : lw_okq (⟨"NameGuardModel", "wrong", "(II)Z"⟩, 42) := ⟨⟨by decide +kernel, by decide +kernel⟩, List.mem_of_getElem? (i := 666) (by decide +kernel), List.mem_of_getElem? (i := 867) (by decide +kernel), List.mem_of_getElem? (i := 868) (by decide +kernel)⟩
theorem lw_p29 : lw_okq (⟨"NameGuardModel", "see", "(I[I)I"⟩, 42) := ⟨⟨by decide +kernel, by decide +kernel⟩, List.mem_of_getElem? (i := 666) (by decide +kernel), List.mem_of_getElem? (i := 871) (by decide +kernel), List.mem_of_getElem? (i := 872) (by decide +kernel)⟩
theorem lw_p30 : lw_okq (⟨"NameGuardModel", "scripts", "()I"⟩, 42) := ⟨⟨by decide +kernel, by decide +kernel⟩, List.mem_of_getElem? (i := 666) (by decide +kernel), List.mem_of_getElem? (i := 886) (by decide +kernel), List.mem_of_getElem? (i := 887) (by decide +kernel)⟩
theorem lw_p31 : lw_okq (⟨"NameGuardModel", "isMixed", "()Z"⟩, 42) := ⟨⟨by decide +kernel, by decide +kernel⟩, List.mem_of_getElem? (i := 666) (by decide +kernel), List.mem_of_getElem? (i := 890) (by decide +kernel), List.mem_of_getElem? (i := 891) (by decide +kernel)⟩
def lw_privs_2 : List (MethodName × Nat) := [(⟨"NameGuard$Measure", "fillRow", "(LNameGuard$Text;ILNameGuard$Text;)I"⟩, 2), (⟨"NameGuard$Measure", "costBy", "(ILNameGuard$Text;ILNameGuard$Text;I)I"⟩, 2), (⟨"NameGuard$Measure", "firstShape", "(LNameGuard$Text;ILNameGuard$Text;I)I"⟩, 2), (⟨"NameGuard", "addPairsOf", "(ILNameGuard$Entry;I)V"⟩, 15), (⟨"NameGuard", "countStanding", "()I"⟩, 15), (⟨"NameGuard", "countOfRegister", "(I)I"⟩, 15), (⟨"NameGuardModel", "makeNodes", "()V"⟩, 42), (⟨"NameGuardModel", "node", "(I)I"⟩, 42), (⟨"NameGuardModel", "nodeOf", "(I)I"⟩, 42), (⟨"NameGuardModel", "find", "(II)I"⟩, 42), (⟨"NameGuardModel", "chainOf", "(II)I"⟩, 42), (⟨"NameGuardModel", "readName", "(I)Z"⟩, 42), (⟨"NameGuardModel", "wrong", "(II)Z"⟩, 42), (⟨"NameGuardModel", "see", "(I[I)I"⟩, 42), (⟨"NameGuardModel", "scripts", "()I"⟩, 42), (⟨"NameGuardModel", "isMixed", "()Z"⟩, 42)]
theorem lw_r2 : ∀ q ∈ lw_privs_2, lw_okq q := List.forall_mem_cons.mpr ⟨lw_p16, List.forall_mem_cons.mpr ⟨lw_p17, List.forall_mem_cons.mpr ⟨lw_p18, List.forall_mem_cons.mpr ⟨lw_p19, List.forall_mem_cons.mpr ⟨lw_p20, List.forall_mem_cons.mpr ⟨lw_p21, List.forall_mem_cons.mpr ⟨lw_p22, List.forall_mem_cons.mpr ⟨lw_p23, List.forall_mem_cons.mpr ⟨lw_p24, List.forall_mem_cons.mpr ⟨lw_p25, List.forall_mem_cons.mpr ⟨lw_p26, List.forall_mem_cons.mpr ⟨lw_p27, List.forall_mem_cons.mpr ⟨lw_p28, List.forall_mem_cons.mpr ⟨lw_p29, List.forall_mem_cons.mpr ⟨lw_p30, List.forall_mem_cons.mpr ⟨lw_p31, fun _ h => absurd h List.not_mem_nil⟩⟩⟩⟩⟩⟩⟩⟩⟩⟩⟩⟩⟩⟩⟩⟩
theorem lw_p32 : lw_okq (⟨"NameGuardModel", "has", "(I)Z"⟩, 42) := ⟨⟨by decide +kernel, by decide +kernel⟩, List.mem_of_getElem? (i := 666) (by decide +kernel), List.mem_of_getElem? (i := 894) (by decide +kernel), List.mem_of_getElem? (i := 895) (by decide +kernel)⟩
theorem lw_p33 : lw_okq (⟨"NameGuardModel", "isIn", "(II)Z"⟩, 42) := ⟨⟨by decide +kernel, by decide +kernel⟩, List.mem_of_getElem? (i := 666) (by decide +kernel), List.mem_of_getElem? (i := 909) (by decide +kernel), List.mem_of_getElem? (i := 910) (by decide +kernel)⟩
theorem lw_p34 : lw_okq (⟨"NameGuardModel", "isSame", "(II)Z"⟩, 42) := ⟨⟨by decide +kernel, by decide +kernel⟩, List.mem_of_getElem? (i := 666) (by decide +kernel), List.mem_of_getElem? (i := 913) (by decide +kernel), List.mem_of_getElem? (i := 914) (by decide +kernel)⟩
theorem lw_p35 : lw_okq (⟨"NameGuardModel", "reckon", "(II)I"⟩, 42) := ⟨⟨by decide +kernel, by decide +kernel⟩, List.mem_of_getElem? (i := 666) (by decide +kernel), List.mem_of_getElem? (i := 917) (by decide +kernel), List.mem_of_getElem? (i := 918) (by decide +kernel)⟩
theorem lw_p36 : lw_okq (⟨"NameGuardModel", "isEntry", "(I)Z"⟩, 42) := ⟨⟨by decide +kernel, by decide +kernel⟩, List.mem_of_getElem? (i := 666) (by decide +kernel), List.mem_of_getElem? (i := 933) (by decide +kernel), List.mem_of_getElem? (i := 934) (by decide +kernel)⟩
def lw_privs_3 : List (MethodName × Nat) := [(⟨"NameGuardModel", "has", "(I)Z"⟩, 42), (⟨"NameGuardModel", "isIn", "(II)Z"⟩, 42), (⟨"NameGuardModel", "isSame", "(II)Z"⟩, 42), (⟨"NameGuardModel", "reckon", "(II)I"⟩, 42), (⟨"NameGuardModel", "isEntry", "(I)Z"⟩, 42)]
theorem lw_r3 : ∀ q ∈ lw_privs_3, lw_okq q := List.forall_mem_cons.mpr ⟨lw_p32, List.forall_mem_cons.mpr ⟨lw_p33, List.forall_mem_cons.mpr ⟨lw_p34, List.forall_mem_cons.mpr ⟨lw_p35, List.forall_mem_cons.mpr ⟨lw_p36, fun _ h => absurd h List.not_mem_nil⟩⟩⟩⟩⟩
def lw_privs : List (MethodName × Nat) := lw_privs_1 ++ (lw_privs_2 ++ (lw_privs_3))
def lw_tbl : List Cond := k2_sels lw_privs ++ tables_1
theorem lw_privs_ok : ∀ q ∈ lw_privs, lw_okq q := by
  show ∀ q ∈ lw_privs_1 ++ (lw_privs_2 ++ (lw_privs_3)), lw_okq q
  exact List.forall_mem_append.mpr ⟨lw_r1, List.forall_mem_append.mpr ⟨lw_r2, lw_r3⟩⟩
end
section
def RX0 : String := "NameGuard$Entry"
def TX0 : u_T := fun k => match k with
  | 0 => ("NameGuard$Entry", "register", "I", true)
  | 1 => ("NameGuard$Entry", "owner", "I", true)
  | 2 => ("NameGuard$Entry", "text", "LNameGuard$Text;", true)
  | _ => ("NameGuard$Entry", "stands", "Z", false)
def tyX0 : Nat → FieldType := fun k => match k with
  | 0 => .int
  | 1 => .int
  | 2 => .object "NameGuard$Text"
  | _ => .boolean
abbrev wsX00 : List Cond := u_ws RX0 TX0 4
theorem nmX0 : ∀ a, a < 4 → ∀ b, b < 4 → a ≠ b → (TX0 a).2.1 ≠ (TX0 b).2.1 := by decide +kernel
theorem tyX0_ok : ∀ k, k < 4 → parseFieldDescriptor (TX0 k).2.2.1 = some (tyX0 k) := by decide +kernel
abbrev cX0_init : ByteArray := prog_2_method_1_code
def yX0_init : MethodName := ⟨RX0, "<init>", "(IILNameGuard$Text;)V"⟩
def RX1 : String := "NameGuard$Measure"
def TX1 : u_T := fun k => match k with
  | 0 => ("NameGuard$Measure", "pieces", "LNameGuard$PieceTable;", true)
  | _ => ("NameGuard$Measure", "rest", "[I", true)
def tyX1 : Nat → FieldType := fun k => match k with
  | 0 => .object "NameGuard$PieceTable"
  | _ => .array .int
abbrev wsX10 : List Cond := u_ws RX1 TX1 2
theorem nmX1 : ∀ a, a < 2 → ∀ b, b < 2 → a ≠ b → (TX1 a).2.1 ≠ (TX1 b).2.1 := by decide +kernel
theorem tyX1_ok : ∀ k, k < 2 → parseFieldDescriptor (TX1 k).2.2.1 = some (tyX1 k) := by decide +kernel
abbrev cX1_init : ByteArray := prog_3_method_1_code
def yX1_init : MethodName := ⟨RX1, "<init>", "(LNameGuard$PieceTable;)V"⟩
abbrev cX1_leastWithin : ByteArray := prog_3_method_2_code
def yX1_leastWithin : MethodName := ⟨RX1, "leastWithin", "(LNameGuard$Text;LNameGuard$Text;I)I"⟩
abbrev cX1_fillRow : ByteArray := prog_3_method_3_code
def yX1_fillRow : MethodName := ⟨RX1, "fillRow", "(LNameGuard$Text;ILNameGuard$Text;)I"⟩
abbrev cX1_costBy : ByteArray := prog_3_method_4_code
def yX1_costBy : MethodName := ⟨RX1, "costBy", "(ILNameGuard$Text;ILNameGuard$Text;I)I"⟩
abbrev cX1_writeWay : ByteArray := prog_3_method_5_code
def yX1_writeWay : MethodName := ⟨RX1, "writeWay", "(LNameGuard$Text;LNameGuard$Text;LNameGuard$Way;)V"⟩
abbrev cX1_firstShape : ByteArray := prog_3_method_6_code
def yX1_firstShape : MethodName := ⟨RX1, "firstShape", "(LNameGuard$Text;ILNameGuard$Text;I)I"⟩
def RX2 : String := "NameGuard$NearList"
def TX2 : u_T := fun k => match k with
  | 0 => ("NameGuard$NearList", "numbers", "[I", true)
  | 1 => ("NameGuard$NearList", "costs", "[I", true)
  | _ => ("NameGuard$NearList", "size", "I", false)
def tyX2 : Nat → FieldType := fun k => match k with
  | 0 => .array .int
  | 1 => .array .int
  | _ => .int
abbrev wsX20 : List Cond := u_ws RX2 TX2 3
theorem nmX2 : ∀ a, a < 3 → ∀ b, b < 3 → a ≠ b → (TX2 a).2.1 ≠ (TX2 b).2.1 := by decide +kernel
theorem tyX2_ok : ∀ k, k < 3 → parseFieldDescriptor (TX2 k).2.2.1 = some (tyX2 k) := by decide +kernel
abbrev cX2_init : ByteArray := prog_4_method_1_code
def yX2_init : MethodName := ⟨RX2, "<init>", "()V"⟩
abbrev cX2_insert : ByteArray := prog_4_method_2_code
def yX2_insert : MethodName := ⟨RX2, "insert", "(II)V"⟩
abbrev cX2_tell : ByteArray := prog_4_method_3_code
def yX2_tell : MethodName := ⟨RX2, "tell", "(II)I"⟩
def RX3 : String := "NameGuard$PairList"
def TX3 : u_T := fun k => match k with
  | 0 => ("NameGuard$PairList", "packed", "[I", true)
  | _ => ("NameGuard$PairList", "total", "I", false)
def tyX3 : Nat → FieldType := fun k => match k with
  | 0 => .array .int
  | _ => .int
abbrev wsX30 : List Cond := u_ws RX3 TX3 2
theorem nmX3 : ∀ a, a < 2 → ∀ b, b < 2 → a ≠ b → (TX3 a).2.1 ≠ (TX3 b).2.1 := by decide +kernel
theorem tyX3_ok : ∀ k, k < 2 → parseFieldDescriptor (TX3 k).2.2.1 = some (tyX3 k) := by decide +kernel
abbrev cX3_init : ByteArray := prog_5_method_1_code
def yX3_init : MethodName := ⟨RX3, "<init>", "()V"⟩
abbrev cX3_add : ByteArray := prog_5_method_2_code
def yX3_add : MethodName := ⟨RX3, "add", "(III)V"⟩
abbrev cX3_tell : ByteArray := prog_5_method_3_code
def yX3_tell : MethodName := ⟨RX3, "tell", "(II)I"⟩
def RX4 : String := "NameGuard$PieceTable"
def TX4 : u_T := fun k => match k with
  | 0 => ("NameGuard$PieceTable", "ones", "[I", true)
  | 1 => ("NameGuard$PieceTable", "others", "[I", true)
  | 2 => ("NameGuard$PieceTable", "costs", "[I", true)
  | 3 => ("NameGuard$PieceTable", "confusions", "I", false)
  | 4 => ("NameGuard$PieceTable", "stamp", "I", false)
  | 5 => ("NameGuard$PieceTable", "closedStamp", "I", false)
  | 6 => ("NameGuard$PieceTable", "codes", "[I", true)
  | 7 => ("NameGuard$PieceTable", "codeCount", "I", false)
  | 8 => ("NameGuard$PieceTable", "latest", "[I", true)
  | 9 => ("NameGuard$PieceTable", "before", "[I", true)
  | _ => ("NameGuard$PieceTable", "least", "[I", false)
def tyX4 : Nat → FieldType := fun k => match k with
  | 0 => .array .int
  | 1 => .array .int
  | 2 => .array .int
  | 3 => .int
  | 4 => .int
  | 5 => .int
  | 6 => .array .int
  | 7 => .int
  | 8 => .array .int
  | 9 => .array .int
  | _ => .array .int
abbrev wsX40 : List Cond := u_ws RX4 TX4 11
theorem nmX4 : ∀ a, a < 11 → ∀ b, b < 11 → a ≠ b → (TX4 a).2.1 ≠ (TX4 b).2.1 := by decide +kernel
theorem tyX4_ok : ∀ k, k < 11 → parseFieldDescriptor (TX4 k).2.2.1 = some (tyX4 k) := by decide +kernel
abbrev cX4_init : ByteArray := prog_6_method_1_code
def yX4_init : MethodName := ⟨RX4, "<init>", "()V"⟩
abbrev cX4_tell : ByteArray := prog_6_method_2_code
def yX4_tell : MethodName := ⟨RX4, "tell", "(III)I"⟩
abbrev cX4_forget : ByteArray := prog_6_method_3_code
def yX4_forget : MethodName := ⟨RX4, "forget", "(II)I"⟩
abbrev cX4_placeOf : ByteArray := prog_6_method_4_code
def yX4_placeOf : MethodName := ⟨RX4, "placeOf", "(II)I"⟩
abbrev cX4_countPieces : ByteArray := prog_6_method_5_code
def yX4_countPieces : MethodName := ⟨RX4, "countPieces", "()I"⟩
abbrev cX4_closeChains : ByteArray := prog_6_method_6_code
def yX4_closeChains : MethodName := ⟨RX4, "closeChains", "()V"⟩
abbrev cX4_addPiece : ByteArray := prog_6_method_7_code
def yX4_addPiece : MethodName := ⟨RX4, "addPiece", "(I)V"⟩
abbrev cX4_indexOf : ByteArray := prog_6_method_8_code
def yX4_indexOf : MethodName := ⟨RX4, "indexOf", "(I)I"⟩
abbrev cX4_leastBetween : ByteArray := prog_6_method_9_code
def yX4_leastBetween : MethodName := ⟨RX4, "leastBetween", "(II)I"⟩
abbrev cX4_leadingSign : ByteArray := prog_6_method_10_code
def yX4_leadingSign : MethodName := ⟨RX4, "leadingSign", "(I)I"⟩
abbrev cX4_writeSteps : ByteArray := prog_6_method_11_code
def yX4_writeSteps : MethodName := ⟨RX4, "writeSteps", "()V"⟩
abbrev cX4_goOver : ByteArray := prog_6_method_12_code
def yX4_goOver : MethodName := ⟨RX4, "goOver", "(I)V"⟩
def RX5 : String := "NameGuard$Register"
def TX5 : u_T := fun k => match k with
  | 0 => ("NameGuard$Register", "refuses", "I", false)
  | 1 => ("NameGuard$Register", "warns", "I", false)
  | _ => ("NameGuard$Register", "strict", "Z", false)
def tyX5 : Nat → FieldType := fun k => match k with
  | 0 => .int
  | 1 => .int
  | _ => .boolean
abbrev wsX50 : List Cond := u_ws RX5 TX5 3
theorem nmX5 : ∀ a, a < 3 → ∀ b, b < 3 → a ≠ b → (TX5 a).2.1 ≠ (TX5 b).2.1 := by decide +kernel
theorem tyX5_ok : ∀ k, k < 3 → parseFieldDescriptor (TX5 k).2.2.1 = some (tyX5 k) := by decide +kernel
abbrev cX5_init : ByteArray := prog_7_method_1_code
def yX5_init : MethodName := ⟨RX5, "<init>", "()V"⟩
def RX6 : String := "NameGuard$ScriptSets"
def TX6 : u_T := fun k => match k with
  | 0 => ("NameGuard$ScriptSets", "bits", "[I", true)
  | _ => ("NameGuard$ScriptSets", "size", "I", false)
def tyX6 : Nat → FieldType := fun k => match k with
  | 0 => .array .int
  | _ => .int
abbrev wsX60 : List Cond := u_ws RX6 TX6 2
theorem nmX6 : ∀ a, a < 2 → ∀ b, b < 2 → a ≠ b → (TX6 a).2.1 ≠ (TX6 b).2.1 := by decide +kernel
theorem tyX6_ok : ∀ k, k < 2 → parseFieldDescriptor (TX6 k).2.2.1 = some (tyX6 k) := by decide +kernel
abbrev cX6_init : ByteArray := prog_8_method_1_code
def yX6_init : MethodName := ⟨RX6, "<init>", "()V"⟩
abbrev cX6_add : ByteArray := prog_8_method_2_code
def yX6_add : MethodName := ⟨RX6, "add", "(I)I"⟩
abbrev cX6_holdTogether : ByteArray := prog_8_method_3_code
def yX6_holdTogether : MethodName := ⟨RX6, "holdTogether", "(I)Z"⟩
def RX7 : String := "NameGuard$SignTable"
def TX7 : u_T := fun k => match k with
  | 0 => ("NameGuard$SignTable", "scripts", "[I", true)
  | 1 => ("NameGuard$SignTable", "hows", "[I", true)
  | _ => ("NameGuard$SignTable", "stamp", "I", false)
def tyX7 : Nat → FieldType := fun k => match k with
  | 0 => .array .int
  | 1 => .array .int
  | _ => .int
abbrev wsX70 : List Cond := u_ws RX7 TX7 3
theorem nmX7 : ∀ a, a < 3 → ∀ b, b < 3 → a ≠ b → (TX7 a).2.1 ≠ (TX7 b).2.1 := by decide +kernel
theorem tyX7_ok : ∀ k, k < 3 → parseFieldDescriptor (TX7 k).2.2.1 = some (tyX7 k) := by decide +kernel
abbrev cX7_init : ByteArray := prog_9_method_1_code
def yX7_init : MethodName := ⟨RX7, "<init>", "()V"⟩
abbrev cX7_scriptOf : ByteArray := prog_9_method_2_code
def yX7_scriptOf : MethodName := ⟨RX7, "scriptOf", "(I)I"⟩
abbrev cX7_howOf : ByteArray := prog_9_method_3_code
def yX7_howOf : MethodName := ⟨RX7, "howOf", "(I)I"⟩
abbrev cX7_changeScript : ByteArray := prog_9_method_4_code
def yX7_changeScript : MethodName := ⟨RX7, "changeScript", "(II)I"⟩
abbrev cX7_changeHow : ByteArray := prog_9_method_5_code
def yX7_changeHow : MethodName := ⟨RX7, "changeHow", "(II)I"⟩
def RX8 : String := "NameGuard$Text"
def TX8 : u_T := fun k => match k with
  | 0 => ("NameGuard$Text", "told", "[I", true)
  | 1 => ("NameGuard$Text", "length", "I", true)
  | 2 => ("NameGuard$Text", "seenSigns", "[I", true)
  | 3 => ("NameGuard$Text", "seenCount", "I", false)
  | 4 => ("NameGuard$Text", "signStamp", "I", false)
  | 5 => ("NameGuard$Text", "single", "[I", true)
  | 6 => ("NameGuard$Text", "pair", "[I", true)
  | _ => ("NameGuard$Text", "pieceStamp", "I", false)
def tyX8 : Nat → FieldType := fun k => match k with
  | 0 => .array .int
  | 1 => .int
  | 2 => .array .int
  | 3 => .int
  | 4 => .int
  | 5 => .array .int
  | 6 => .array .int
  | _ => .int
abbrev wsX80 : List Cond := u_ws RX8 TX8 8
theorem nmX8 : ∀ a, a < 8 → ∀ b, b < 8 → a ≠ b → (TX8 a).2.1 ≠ (TX8 b).2.1 := by decide +kernel
theorem tyX8_ok : ∀ k, k < 8 → parseFieldDescriptor (TX8 k).2.2.1 = some (tyX8 k) := by decide +kernel
abbrev cX8_init : ByteArray := prog_10_method_1_code
def yX8_init : MethodName := ⟨RX8, "<init>", "([II)V"⟩
abbrev cX8_toldAt : ByteArray := prog_10_method_2_code
def yX8_toldAt : MethodName := ⟨RX8, "toldAt", "(I)I"⟩
abbrev cX8_seenAt : ByteArray := prog_10_method_3_code
def yX8_seenAt : MethodName := ⟨RX8, "seenAt", "(I)I"⟩
abbrev cX8_look : ByteArray := prog_10_method_4_code
def yX8_look : MethodName := ⟨RX8, "look", "(LNameGuard$SignTable;)V"⟩
abbrev cX8_turnFrom : ByteArray := prog_10_method_5_code
def yX8_turnFrom : MethodName := ⟨RX8, "turnFrom", "(I)V"⟩
abbrev cX8_findPieces : ByteArray := prog_10_method_6_code
def yX8_findPieces : MethodName := ⟨RX8, "findPieces", "(LNameGuard$PieceTable;)V"⟩
abbrev cX8_pieceAt : ByteArray := prog_10_method_7_code
def yX8_pieceAt : MethodName := ⟨RX8, "pieceAt", "(II)I"⟩
abbrev cX8_pieceIndexAt : ByteArray := prog_10_method_8_code
def yX8_pieceIndexAt : MethodName := ⟨RX8, "pieceIndexAt", "(II)I"⟩
abbrev cX8_isSeenAs : ByteArray := prog_10_method_9_code
def yX8_isSeenAs : MethodName := ⟨RX8, "isSeenAs", "(LNameGuard$Text;)Z"⟩
abbrev cX8_scriptBits : ByteArray := prog_10_method_10_code
def yX8_scriptBits : MethodName := ⟨RX8, "scriptBits", "(LNameGuard$SignTable;)I"⟩
abbrev cX8_has : ByteArray := prog_10_method_11_code
def yX8_has : MethodName := ⟨RX8, "has", "(ILNameGuard$SignTable;)Z"⟩
abbrev cX8_isPadded : ByteArray := prog_10_method_12_code
def yX8_isPadded : MethodName := ⟨RX8, "isPadded", "(LNameGuard$SignTable;)Z"⟩
def RX9 : String := "NameGuard$Way"
def TX9 : u_T := fun k => match k with
  | 0 => ("NameGuard$Way", "mine", "[I", true)
  | 1 => ("NameGuard$Way", "others", "[I", true)
  | 2 => ("NameGuard$Way", "costs", "[I", true)
  | _ => ("NameGuard$Way", "size", "I", false)
def tyX9 : Nat → FieldType := fun k => match k with
  | 0 => .array .int
  | 1 => .array .int
  | 2 => .array .int
  | _ => .int
abbrev wsX90 : List Cond := u_ws RX9 TX9 4
theorem nmX9 : ∀ a, a < 4 → ∀ b, b < 4 → a ≠ b → (TX9 a).2.1 ≠ (TX9 b).2.1 := by decide +kernel
theorem tyX9_ok : ∀ k, k < 4 → parseFieldDescriptor (TX9 k).2.2.1 = some (tyX9 k) := by decide +kernel
abbrev cX9_init : ByteArray := prog_11_method_1_code
def yX9_init : MethodName := ⟨RX9, "<init>", "()V"⟩
abbrev cX9_add : ByteArray := prog_11_method_2_code
def yX9_add : MethodName := ⟨RX9, "add", "(III)V"⟩
abbrev cX9_tell : ByteArray := prog_11_method_3_code
def yX9_tell : MethodName := ⟨RX9, "tell", "(II)I"⟩
def RX10 : String := "NameGuard"
def TX10 : u_T := fun k => match k with
  | 0 => ("NameGuard", "tape", "[I", true)
  | 1 => ("NameGuard", "tapeLength", "I", false)
  | 2 => ("NameGuard", "signs", "LNameGuard$SignTable;", true)
  | 3 => ("NameGuard", "sets", "LNameGuard$ScriptSets;", true)
  | 4 => ("NameGuard", "pieces", "LNameGuard$PieceTable;", true)
  | 5 => ("NameGuard", "theName", "LNameGuard$Text;", false)
  | 6 => ("NameGuard", "faultKind", "I", false)
  | 7 => ("NameGuard", "faultPlace", "I", false)
  | 8 => ("NameGuard", "registers", "[LNameGuard$Register;", true)
  | 9 => ("NameGuard", "entries", "[LNameGuard$Entry;", true)
  | 10 => ("NameGuard", "entryCount", "I", false)
  | 11 => ("NameGuard", "measure", "LNameGuard$Measure;", true)
  | 12 => ("NameGuard", "nearList", "LNameGuard$NearList;", true)
  | 13 => ("NameGuard", "toldWay", "LNameGuard$Way;", true)
  | _ => ("NameGuard", "pairs", "LNameGuard$PairList;", true)
def tyX10 : Nat → FieldType := fun k => match k with
  | 0 => .array .int
  | 1 => .int
  | 2 => .object "NameGuard$SignTable"
  | 3 => .object "NameGuard$ScriptSets"
  | 4 => .object "NameGuard$PieceTable"
  | 5 => .object "NameGuard$Text"
  | 6 => .int
  | 7 => .int
  | 8 => .array (.object "NameGuard$Register")
  | 9 => .array (.object "NameGuard$Entry")
  | 10 => .int
  | 11 => .object "NameGuard$Measure"
  | 12 => .object "NameGuard$NearList"
  | 13 => .object "NameGuard$Way"
  | _ => .object "NameGuard$PairList"
abbrev wsX100 : List Cond := u_ws RX10 TX10 15
theorem nmX10 : ∀ a, a < 15 → ∀ b, b < 15 → a ≠ b → (TX10 a).2.1 ≠ (TX10 b).2.1 := by decide +kernel
theorem tyX10_ok : ∀ k, k < 15 → parseFieldDescriptor (TX10 k).2.2.1 = some (tyX10 k) := by decide +kernel
abbrev cX10_init : ByteArray := prog_1_method_1_code
def yX10_init : MethodName := ⟨RX10, "<init>", "()V"⟩
abbrev cX10_feed : ByteArray := prog_1_method_2_code
def yX10_feed : MethodName := ⟨RX10, "feed", "(IIIII)I"⟩
abbrev cX10_putBytes : ByteArray := prog_1_method_3_code
def yX10_putBytes : MethodName := ⟨RX10, "putBytes", "(I)V"⟩
abbrev cX10_end : ByteArray := prog_1_method_4_code
def yX10_end : MethodName := ⟨RX10, "end", "(I)I"⟩
abbrev cX10_script : ByteArray := prog_1_method_5_code
def yX10_script : MethodName := ⟨RX10, "script", "(II)I"⟩
abbrev cX10_seen : ByteArray := prog_1_method_6_code
def yX10_seen : MethodName := ⟨RX10, "seen", "(II)I"⟩
abbrev cX10_confuse : ByteArray := prog_1_method_7_code
def yX10_confuse : MethodName := ⟨RX10, "confuse", "(III)I"⟩
abbrev cX10_chain : ByteArray := prog_1_method_8_code
def yX10_chain : MethodName := ⟨RX10, "chain", "(II)I"⟩
abbrev cX10_allow : ByteArray := prog_1_method_9_code
def yX10_allow : MethodName := ⟨RX10, "allow", "(I)I"⟩
abbrev cX10_isSet : ByteArray := prog_1_method_10_code
def yX10_isSet : MethodName := ⟨RX10, "isSet", "(I)Z"⟩
abbrev cX10_isSign : ByteArray := prog_1_method_11_code
def yX10_isSign : MethodName := ⟨RX10, "isSign", "(I)Z"⟩
abbrev cX10_isPiece : ByteArray := prog_1_method_12_code
def yX10_isPiece : MethodName := ⟨RX10, "isPiece", "(I)Z"⟩
abbrev cX10_name : ByteArray := prog_1_method_13_code
def yX10_name : MethodName := ⟨RX10, "name", "()I"⟩
abbrev cX10_judgeTape : ByteArray := prog_1_method_14_code
def yX10_judgeTape : MethodName := ⟨RX10, "judgeTape", "(I)V"⟩
abbrev cX10_setFault : ByteArray := prog_1_method_15_code
def yX10_setFault : MethodName := ⟨RX10, "setFault", "(II)V"⟩
abbrev cX10_fault : ByteArray := prog_1_method_16_code
def yX10_fault : MethodName := ⟨RX10, "fault", "(I)I"⟩
abbrev cX10_about : ByteArray := prog_1_method_17_code
def yX10_about : MethodName := ⟨RX10, "about", "(I)I"⟩
abbrev cX10_isMixed : ByteArray := prog_1_method_18_code
def yX10_isMixed : MethodName := ⟨RX10, "isMixed", "(LNameGuard$Text;)Z"⟩
abbrev cX10_bit : ByteArray := prog_1_method_19_code
def yX10_bit : MethodName := ⟨RX10, "bit", "(Z)I"⟩
abbrev cX10_rule : ByteArray := prog_1_method_20_code
def yX10_rule : MethodName := ⟨RX10, "rule", "(IIIZ)I"⟩
abbrev cX10_ask : ByteArray := prog_1_method_21_code
def yX10_ask : MethodName := ⟨RX10, "ask", "(II)I"⟩
abbrev cX10_verdict : ByteArray := prog_1_method_22_code
def yX10_verdict : MethodName := ⟨RX10, "verdict", "(II)I"⟩
abbrev cX10_isHeld : ByteArray := prog_1_method_23_code
def yX10_isHeld : MethodName := ⟨RX10, "isHeld", "(LNameGuard$Text;I)Z"⟩
abbrev cX10_leastToOthers : ByteArray := prog_1_method_24_code
def yX10_leastToOthers : MethodName := ⟨RX10, "leastToOthers", "(LNameGuard$Text;III)I"⟩
abbrev cX10_enter : ByteArray := prog_1_method_25_code
def yX10_enter : MethodName := ⟨RX10, "enter", "(II)I"⟩
abbrev cX10_strike : ByteArray := prog_1_method_26_code
def yX10_strike : MethodName := ⟨RX10, "strike", "(I)I"⟩
abbrev cX10_entry : ByteArray := prog_1_method_27_code
def yX10_entry : MethodName := ⟨RX10, "entry", "(II)I"⟩
abbrev cX10_far : ByteArray := prog_1_method_28_code
def yX10_far : MethodName := ⟨RX10, "far", "(I)I"⟩
abbrev cX10_near : ByteArray := prog_1_method_29_code
def yX10_near : MethodName := ⟨RX10, "near", "(II)I"⟩
abbrev cX10_nearest : ByteArray := prog_1_method_30_code
def yX10_nearest : MethodName := ⟨RX10, "nearest", "(II)I"⟩
abbrev cX10_ways : ByteArray := prog_1_method_31_code
def yX10_ways : MethodName := ⟨RX10, "ways", "(I)I"⟩
abbrev cX10_way : ByteArray := prog_1_method_32_code
def yX10_way : MethodName := ⟨RX10, "way", "(II)I"⟩
abbrev cX10_likes : ByteArray := prog_1_method_33_code
def yX10_likes : MethodName := ⟨RX10, "likes", "(I)I"⟩
abbrev cX10_addPairsOf : ByteArray := prog_1_method_34_code
def yX10_addPairsOf : MethodName := ⟨RX10, "addPairsOf", "(ILNameGuard$Entry;I)V"⟩
abbrev cX10_like : ByteArray := prog_1_method_35_code
def yX10_like : MethodName := ⟨RX10, "like", "(II)I"⟩
abbrev cX10_count : ByteArray := prog_1_method_36_code
def yX10_count : MethodName := ⟨RX10, "count", "(I)I"⟩
abbrev cX10_countStanding : ByteArray := prog_1_method_37_code
def yX10_countStanding : MethodName := ⟨RX10, "countStanding", "()I"⟩
abbrev cX10_countOfRegister : ByteArray := prog_1_method_38_code
def yX10_countOfRegister : MethodName := ⟨RX10, "countOfRegister", "(I)I"⟩
abbrev cX10_registerAt : ByteArray := prog_1_method_39_code
def yX10_registerAt : MethodName := ⟨RX10, "registerAt", "(I)LNameGuard$Register;"⟩
abbrev cX10_entryAt : ByteArray := prog_1_method_40_code
def yX10_entryAt : MethodName := ⟨RX10, "entryAt", "(I)LNameGuard$Entry;"⟩
abbrev cX10_standingAt : ByteArray := prog_1_method_41_code
def yX10_standingAt : MethodName := ⟨RX10, "standingAt", "(I)LNameGuard$Entry;"⟩
abbrev cX10_costBetween : ByteArray := prog_1_method_42_code
def yX10_costBetween : MethodName := ⟨RX10, "costBetween", "(LNameGuard$Text;LNameGuard$Text;I)I"⟩
def RX11 : String := "NameGuardModel"
def TX11 : u_T := fun k => match k with
  | 0 => ("NameGuardModel", "script", "[I", true)
  | 1 => ("NameGuardModel", "how", "[I", true)
  | 2 => ("NameGuardModel", "tape", "[B", true)
  | 3 => ("NameGuardModel", "taped", "I", false)
  | 4 => ("NameGuardModel", "confusions", "I", false)
  | 5 => ("NameGuardModel", "cFirst", "[I", true)
  | 6 => ("NameGuardModel", "cSecond", "[I", true)
  | 7 => ("NameGuardModel", "cCost", "[I", true)
  | 8 => ("NameGuardModel", "nodes", "I", false)
  | 9 => ("NameGuardModel", "one", "[I", true)
  | 10 => ("NameGuardModel", "two", "[I", true)
  | 11 => ("NameGuardModel", "cost", "[I", true)
  | 12 => ("NameGuardModel", "sets", "I", false)
  | 13 => ("NameGuardModel", "set", "[I", true)
  | 14 => ("NameGuardModel", "text", "[B", true)
  | 15 => ("NameGuardModel", "size", "[I", true)
  | 16 => ("NameGuardModel", "hasName", "Z", false)
  | 17 => ("NameGuardModel", "faultKind", "I", false)
  | 18 => ("NameGuardModel", "faultPlace", "I", false)
  | 19 => ("NameGuardModel", "x", "[I", true)
  | 20 => ("NameGuardModel", "y", "[I", true)
  | 21 => ("NameGuardModel", "left", "[I", true)
  | 22 => ("NameGuardModel", "xs", "I", false)
  | 23 => ("NameGuardModel", "ys", "I", false)
  | 24 => ("NameGuardModel", "refuses", "[I", true)
  | 25 => ("NameGuardModel", "warns", "[I", true)
  | 26 => ("NameGuardModel", "strict", "[Z", true)
  | 27 => ("NameGuardModel", "entries", "I", false)
  | 28 => ("NameGuardModel", "eRegister", "[I", true)
  | 29 => ("NameGuardModel", "eOwner", "[I", true)
  | 30 => ("NameGuardModel", "eStands", "[Z", true)
  | 31 => ("NameGuardModel", "nEntry", "[I", true)
  | 32 => ("NameGuardModel", "nFar", "[I", true)
  | 33 => ("NameGuardModel", "nears", "I", false)
  | 34 => ("NameGuardModel", "wFirst", "[I", true)
  | 35 => ("NameGuardModel", "wSecond", "[I", true)
  | 36 => ("NameGuardModel", "wCost", "[I", true)
  | 37 => ("NameGuardModel", "wayMany", "I", false)
  | 38 => ("NameGuardModel", "lFirst", "[I", true)
  | 39 => ("NameGuardModel", "lSecond", "[I", true)
  | 40 => ("NameGuardModel", "lFar", "[I", true)
  | _ => ("NameGuardModel", "likeMany", "I", false)
def tyX11 : Nat → FieldType := fun k => match k with
  | 0 => .array .int
  | 1 => .array .int
  | 2 => .array .byte
  | 3 => .int
  | 4 => .int
  | 5 => .array .int
  | 6 => .array .int
  | 7 => .array .int
  | 8 => .int
  | 9 => .array .int
  | 10 => .array .int
  | 11 => .array .int
  | 12 => .int
  | 13 => .array .int
  | 14 => .array .byte
  | 15 => .array .int
  | 16 => .boolean
  | 17 => .int
  | 18 => .int
  | 19 => .array .int
  | 20 => .array .int
  | 21 => .array .int
  | 22 => .int
  | 23 => .int
  | 24 => .array .int
  | 25 => .array .int
  | 26 => .array .boolean
  | 27 => .int
  | 28 => .array .int
  | 29 => .array .int
  | 30 => .array .boolean
  | 31 => .array .int
  | 32 => .array .int
  | 33 => .int
  | 34 => .array .int
  | 35 => .array .int
  | 36 => .array .int
  | 37 => .int
  | 38 => .array .int
  | 39 => .array .int
  | 40 => .array .int
  | _ => .int
abbrev wsX110 : List Cond := u_ws RX11 TX11 42
theorem nmX11 : ∀ a, a < 42 → ∀ b, b < 42 → a ≠ b → (TX11 a).2.1 ≠ (TX11 b).2.1 := by decide +kernel
theorem tyX11_ok : ∀ k, k < 42 → parseFieldDescriptor (TX11 k).2.2.1 = some (tyX11 k) := by decide +kernel
abbrev cX11_init : ByteArray := prog_13_method_1_code
def yX11_init : MethodName := ⟨RX11, "<init>", "()V"⟩
abbrev cX11_in : ByteArray := prog_13_method_2_code
def yX11_in : MethodName := ⟨RX11, "in", "(III)Z"⟩
abbrev cX11_isSign : ByteArray := prog_13_method_3_code
def yX11_isSign : MethodName := ⟨RX11, "isSign", "(I)Z"⟩
abbrev cX11_feed : ByteArray := prog_13_method_4_code
def yX11_feed : MethodName := ⟨RX11, "feed", "(IIIII)I"⟩
abbrev cX11_end : ByteArray := prog_13_method_5_code
def yX11_end : MethodName := ⟨RX11, "end", "(I)I"⟩
abbrev cX11_script : ByteArray := prog_13_method_6_code
def yX11_script : MethodName := ⟨RX11, "script", "(II)I"⟩
abbrev cX11_seen : ByteArray := prog_13_method_7_code
def yX11_seen : MethodName := ⟨RX11, "seen", "(II)I"⟩
abbrev cX11_isPiece : ByteArray := prog_13_method_8_code
def yX11_isPiece : MethodName := ⟨RX11, "isPiece", "(I)Z"⟩
abbrev cX11_find : ByteArray := prog_13_method_9_code
def yX11_find : MethodName := ⟨RX11, "find", "(II)I"⟩
abbrev cX11_confuse : ByteArray := prog_13_method_10_code
def yX11_confuse : MethodName := ⟨RX11, "confuse", "(III)I"⟩
abbrev cX11_nodeOf : ByteArray := prog_13_method_11_code
def yX11_nodeOf : MethodName := ⟨RX11, "nodeOf", "(I)I"⟩
abbrev cX11_node : ByteArray := prog_13_method_12_code
def yX11_node : MethodName := ⟨RX11, "node", "(I)I"⟩
abbrev cX11_makeNodes : ByteArray := prog_13_method_13_code
def yX11_makeNodes : MethodName := ⟨RX11, "makeNodes", "()V"⟩
abbrev cX11_chainOf : ByteArray := prog_13_method_14_code
def yX11_chainOf : MethodName := ⟨RX11, "chainOf", "(II)I"⟩
abbrev cX11_chain : ByteArray := prog_13_method_15_code
def yX11_chain : MethodName := ⟨RX11, "chain", "(II)I"⟩
abbrev cX11_allow : ByteArray := prog_13_method_16_code
def yX11_allow : MethodName := ⟨RX11, "allow", "(I)I"⟩
abbrev cX11_see : ByteArray := prog_13_method_17_code
def yX11_see : MethodName := ⟨RX11, "see", "(I[I)I"⟩
abbrev cX11_turn : ByteArray := prog_13_method_18_code
def yX11_turn : MethodName := ⟨RX11, "turn", "([III)V"⟩
abbrev cX11_wrong : ByteArray := prog_13_method_19_code
def yX11_wrong : MethodName := ⟨RX11, "wrong", "(II)Z"⟩
abbrev cX11_readName : ByteArray := prog_13_method_20_code
def yX11_readName : MethodName := ⟨RX11, "readName", "(I)Z"⟩
abbrev cX11_name : ByteArray := prog_13_method_21_code
def yX11_name : MethodName := ⟨RX11, "name", "()I"⟩
abbrev cX11_fault : ByteArray := prog_13_method_22_code
def yX11_fault : MethodName := ⟨RX11, "fault", "(I)I"⟩
abbrev cX11_scripts : ByteArray := prog_13_method_23_code
def yX11_scripts : MethodName := ⟨RX11, "scripts", "()I"⟩
abbrev cX11_isMixed : ByteArray := prog_13_method_24_code
def yX11_isMixed : MethodName := ⟨RX11, "isMixed", "()Z"⟩
abbrev cX11_has : ByteArray := prog_13_method_25_code
def yX11_has : MethodName := ⟨RX11, "has", "(I)Z"⟩
abbrev cX11_about : ByteArray := prog_13_method_26_code
def yX11_about : MethodName := ⟨RX11, "about", "(I)I"⟩
abbrev cX11_piece : ByteArray := prog_13_method_27_code
def yX11_piece : MethodName := ⟨RX11, "piece", "([III)I"⟩
abbrev cX11_reckon : ByteArray := prog_13_method_28_code
def yX11_reckon : MethodName := ⟨RX11, "reckon", "(II)I"⟩
abbrev cX11_isSame : ByteArray := prog_13_method_29_code
def yX11_isSame : MethodName := ⟨RX11, "isSame", "(II)Z"⟩
abbrev cX11_isRegister : ByteArray := prog_13_method_30_code
def yX11_isRegister : MethodName := ⟨RX11, "isRegister", "(I)Z"⟩
abbrev cX11_rule : ByteArray := prog_13_method_31_code
def yX11_rule : MethodName := ⟨RX11, "rule", "(IIIZ)I"⟩
abbrev cX11_isIn : ByteArray := prog_13_method_32_code
def yX11_isIn : MethodName := ⟨RX11, "isIn", "(II)Z"⟩
abbrev cX11_ask : ByteArray := prog_13_method_33_code
def yX11_ask : MethodName := ⟨RX11, "ask", "(II)I"⟩
abbrev cX11_enter : ByteArray := prog_13_method_34_code
def yX11_enter : MethodName := ⟨RX11, "enter", "(II)I"⟩
abbrev cX11_isEntry : ByteArray := prog_13_method_35_code
def yX11_isEntry : MethodName := ⟨RX11, "isEntry", "(I)Z"⟩
abbrev cX11_strike : ByteArray := prog_13_method_36_code
def yX11_strike : MethodName := ⟨RX11, "strike", "(I)I"⟩
abbrev cX11_entry : ByteArray := prog_13_method_37_code
def yX11_entry : MethodName := ⟨RX11, "entry", "(II)I"⟩
abbrev cX11_far : ByteArray := prog_13_method_38_code
def yX11_far : MethodName := ⟨RX11, "far", "(I)I"⟩
abbrev cX11_near : ByteArray := prog_13_method_39_code
def yX11_near : MethodName := ⟨RX11, "near", "(II)I"⟩
abbrev cX11_nearest : ByteArray := prog_13_method_40_code
def yX11_nearest : MethodName := ⟨RX11, "nearest", "(II)I"⟩
abbrev cX11_ways : ByteArray := prog_13_method_41_code
def yX11_ways : MethodName := ⟨RX11, "ways", "(I)I"⟩
abbrev cX11_way : ByteArray := prog_13_method_42_code
def yX11_way : MethodName := ⟨RX11, "way", "(II)I"⟩
abbrev cX11_likes : ByteArray := prog_13_method_43_code
def yX11_likes : MethodName := ⟨RX11, "likes", "(I)I"⟩
abbrev cX11_like : ByteArray := prog_13_method_44_code
def yX11_like : MethodName := ⟨RX11, "like", "(II)I"⟩
abbrev cX11_count : ByteArray := prog_13_method_45_code
def yX11_count : MethodName := ⟨RX11, "count", "(I)I"⟩
def RJx8e188 : String := "java/lang/Cloneable"
def TJx8e188 : u_T := fun k => match k with
  | _ => ("", "", "", false)
def tyJx8e188 : Nat → FieldType := fun k => match k with
  | _ => .int
abbrev wsJx8e1880 : List Cond := u_ws RJx8e188 TJx8e188 0
theorem nmJx8e188 : ∀ a, a < 0 → ∀ b, b < 0 → a ≠ b → (TJx8e188 a).2.1 ≠ (TJx8e188 b).2.1 := by decide +kernel
theorem tyJx8e188_ok : ∀ k, k < 0 → parseFieldDescriptor (TJx8e188 k).2.2.1 = some (tyJx8e188 k) := by decide +kernel
def RJ6 : String := "java/lang/Integer"
def TJ6 : u_T := fun k => match k with
  | _ => ("", "", "", false)
def tyJ6 : Nat → FieldType := fun k => match k with
  | _ => .int
abbrev wsJ60 : List Cond := u_ws RJ6 TJ6 0
theorem nmJ6 : ∀ a, a < 0 → ∀ b, b < 0 → a ≠ b → (TJ6 a).2.1 ≠ (TJ6 b).2.1 := by decide +kernel
theorem tyJ6_ok : ∀ k, k < 0 → parseFieldDescriptor (TJ6 k).2.2.1 = some (tyJ6 k) := by decide +kernel
abbrev cJ6_bitCount_0f7a4 : ByteArray := prog_15_method_49_code
def yJ6_bitCount_0f7a4 : MethodName := ⟨RJ6, "bitCount", "(I)I"⟩
def RJ9 : String := "java/lang/Math"
def TJ9 : u_T := fun k => match k with
  | _ => ("", "", "", false)
def tyJ9 : Nat → FieldType := fun k => match k with
  | _ => .int
abbrev wsJ90 : List Cond := u_ws RJ9 TJ9 0
theorem nmJ9 : ∀ a, a < 0 → ∀ b, b < 0 → a ≠ b → (TJ9 a).2.1 ≠ (TJ9 b).2.1 := by decide +kernel
theorem tyJ9_ok : ∀ k, k < 0 → parseFieldDescriptor (TJ9 k).2.2.1 = some (tyJ9 k) := by decide +kernel
abbrev cJ9_max_7cf53 : ByteArray := prog_16_method_65_code
def yJ9_max_7cf53 : MethodName := ⟨RJ9, "max", "(II)I"⟩
abbrev cJ9_min_7cf53 : ByteArray := prog_16_method_69_code
def yJ9_min_7cf53 : MethodName := ⟨RJ9, "min", "(II)I"⟩
def RJ10 : String := "java/lang/System"
def TJ10 : u_T := fun k => match k with
  | _ => ("", "", "", false)
def tyJ10 : Nat → FieldType := fun k => match k with
  | _ => .int
abbrev wsJ100 : List Cond := u_ws RJ10 TJ10 0
theorem nmJ10 : ∀ a, a < 0 → ∀ b, b < 0 → a ≠ b → (TJ10 a).2.1 ≠ (TJ10 b).2.1 := by decide +kernel
theorem tyJ10_ok : ∀ k, k < 0 → parseFieldDescriptor (TJ10 k).2.2.1 = some (tyJ10 k) := by decide +kernel
def RJ7 : String := "java/util/Arrays"
def TJ7 : u_T := fun k => match k with
  | _ => ("", "", "", false)
def tyJ7 : Nat → FieldType := fun k => match k with
  | _ => .int
abbrev wsJ70 : List Cond := u_ws RJ7 TJ7 0
theorem nmJ7 : ∀ a, a < 0 → ∀ b, b < 0 → a ≠ b → (TJ7 a).2.1 ≠ (TJ7 b).2.1 := by decide +kernel
theorem tyJ7_ok : ∀ k, k < 0 → parseFieldDescriptor (TJ7 k).2.2.1 = some (tyJ7 k) := by decide +kernel
abbrev cJ7_rangeCheck_23922 : ByteArray := prog_18_method_30_code
def yJ7_rangeCheck_23922 : MethodName := ⟨RJ7, "rangeCheck", "(III)V"⟩
abbrev cJ7_fill_53178 : ByteArray := prog_18_method_103_code
def yJ7_fill_53178 : MethodName := ⟨RJ7, "fill", "([II)V"⟩
abbrev cJ7_fill_fda19 : ByteArray := prog_18_method_104_code
def yJ7_fill_fda19 : MethodName := ⟨RJ7, "fill", "([IIII)V"⟩
abbrev cJ7_copyOf_59c91 : ByteArray := prog_18_method_123_code
def yJ7_copyOf_59c91 : MethodName := ⟨RJ7, "copyOf", "([II)[I"⟩
def RL : String := "NameGuardLaw"
abbrev cL_law : ByteArray := code
def yL_law : MethodName := ⟨RL, "law", "([I)Z"⟩
abbrev vwCl : List vw_C := [(RX0, TX0, 4), (RX1, TX1, 2), (RX2, TX2, 3), (RX3, TX3, 2), (RX4, TX4, 11), (RX5, TX5, 3), (RX6, TX6, 2), (RX7, TX7, 3), (RX8, TX8, 8), (RX9, TX9, 4), (RX10, TX10, 15), (RX11, TX11, 42)]
end
section
theorem dX0_init_0 : decode cX0_init 0 = .ok (.aload_n 0, 1) := by decide +kernel
theorem dX0_init_1 : decode cX0_init 1 = .ok (.invokespecial 1, 3) := by decide +kernel
theorem dX0_init_4 : decode cX0_init 4 = .ok (.aload_n 0, 1) := by decide +kernel
theorem dX0_init_5 : decode cX0_init 5 = .ok (.iload_n 1, 1) := by decide +kernel
theorem dX0_init_6 : decode cX0_init 6 = .ok (.putfield 7, 3) := by decide +kernel
theorem dX0_init_9 : decode cX0_init 9 = .ok (.aload_n 0, 1) := by decide +kernel
theorem dX0_init_10 : decode cX0_init 10 = .ok (.iload_n 2, 1) := by decide +kernel
theorem dX0_init_11 : decode cX0_init 11 = .ok (.putfield 13, 3) := by decide +kernel
theorem dX0_init_14 : decode cX0_init 14 = .ok (.aload_n 0, 1) := by decide +kernel
theorem dX0_init_15 : decode cX0_init 15 = .ok (.aload_n 3, 1) := by decide +kernel
theorem dX0_init_16 : decode cX0_init 16 = .ok (.putfield 16, 3) := by decide +kernel
theorem dX0_init_19 : decode cX0_init 19 = .ok (.aload_n 0, 1) := by decide +kernel
theorem dX0_init_20 : decode cX0_init 20 = .ok (.iconst 1, 1) := by decide +kernel
theorem dX0_init_21 : decode cX0_init 21 = .ok (.putfield 20, 3) := by decide +kernel
theorem dX0_init_24 : decode cX0_init 24 = .ok (.return_, 1) := by decide +kernel
theorem dX1_init_0 : decode cX1_init 0 = .ok (.aload_n 0, 1) := by decide +kernel
theorem dX1_init_1 : decode cX1_init 1 = .ok (.invokespecial 3, 3) := by decide +kernel
theorem dX1_init_4 : decode cX1_init 4 = .ok (.aload_n 0, 1) := by decide +kernel
theorem dX1_init_5 : decode cX1_init 5 = .ok (.aload_n 1, 1) := by decide +kernel
theorem dX1_init_6 : decode cX1_init 6 = .ok (.putfield 9, 3) := by decide +kernel
theorem dX1_init_9 : decode cX1_init 9 = .ok (.aload_n 0, 1) := by decide +kernel
theorem dX1_init_10 : decode cX1_init 10 = .ok (.sipush 1681, 3) := by decide +kernel
theorem dX1_init_13 : decode cX1_init 13 = .ok (.newarray .int, 2) := by decide +kernel
theorem dX1_init_15 : decode cX1_init 15 = .ok (.putfield 15, 3) := by decide +kernel
theorem dX1_init_18 : decode cX1_init 18 = .ok (.return_, 1) := by decide +kernel
theorem dX1_leastWithin_0 : decode cX1_leastWithin 0 = .ok (.aload_n 1, 1) := by decide +kernel
theorem dX1_leastWithin_1 : decode cX1_leastWithin 1 = .ok (.getfield 19, 3) := by decide +kernel
theorem dX1_leastWithin_4 : decode cX1_leastWithin 4 = .ok (.istore 4, 2) := by decide +kernel
theorem dX1_leastWithin_6 : decode cX1_leastWithin 6 = .ok (.aload_n 2, 1) := by decide +kernel
theorem dX1_leastWithin_7 : decode cX1_leastWithin 7 = .ok (.getfield 19, 3) := by decide +kernel
theorem dX1_leastWithin_10 : decode cX1_leastWithin 10 = .ok (.istore 5, 2) := by decide +kernel
theorem dX1_leastWithin_12 : decode cX1_leastWithin 12 = .ok (.iload 4, 2) := by decide +kernel
theorem dX1_leastWithin_14 : decode cX1_leastWithin 14 = .ok (.iconst 2, 1) := by decide +kernel
theorem dX1_leastWithin_15 : decode cX1_leastWithin 15 = .ok (.iload 5, 2) := by decide +kernel
theorem dX1_leastWithin_17 : decode cX1_leastWithin 17 = .ok (.imul, 1) := by decide +kernel
theorem dX1_leastWithin_18 : decode cX1_leastWithin 18 = .ok (.if_icmp .gt 12, 3) := by decide +kernel
theorem dX1_leastWithin_21 : decode cX1_leastWithin 21 = .ok (.iload 5, 2) := by decide +kernel
theorem dX1_leastWithin_23 : decode cX1_leastWithin 23 = .ok (.iconst 2, 1) := by decide +kernel
theorem dX1_leastWithin_24 : decode cX1_leastWithin 24 = .ok (.iload 4, 2) := by decide +kernel
theorem dX1_leastWithin_26 : decode cX1_leastWithin 26 = .ok (.imul, 1) := by decide +kernel
theorem dX1_leastWithin_27 : decode cX1_leastWithin 27 = .ok (.if_icmp .le 5, 3) := by decide +kernel
theorem dX1_leastWithin_30 : decode cX1_leastWithin 30 = .ok (.iconst (-1), 1) := by decide +kernel
theorem dX1_leastWithin_31 : decode cX1_leastWithin 31 = .ok (.ireturn, 1) := by decide +kernel
theorem dX1_leastWithin_32 : decode cX1_leastWithin 32 = .ok (.aload_n 0, 1) := by decide +kernel
theorem dX1_leastWithin_33 : decode cX1_leastWithin 33 = .ok (.getfield 15, 3) := by decide +kernel
theorem dX1_leastWithin_36 : decode cX1_leastWithin 36 = .ok (.iload 4, 2) := by decide +kernel
theorem dX1_leastWithin_38 : decode cX1_leastWithin 38 = .ok (.bipush 41, 2) := by decide +kernel
theorem dX1_leastWithin_40 : decode cX1_leastWithin 40 = .ok (.imul, 1) := by decide +kernel
theorem dX1_leastWithin_41 : decode cX1_leastWithin 41 = .ok (.iload 4, 2) := by decide +kernel
theorem dX1_leastWithin_43 : decode cX1_leastWithin 43 = .ok (.bipush 41, 2) := by decide +kernel
theorem dX1_leastWithin_45 : decode cX1_leastWithin 45 = .ok (.imul, 1) := by decide +kernel
theorem dX1_leastWithin_46 : decode cX1_leastWithin 46 = .ok (.iload 5, 2) := by decide +kernel
theorem dX1_leastWithin_48 : decode cX1_leastWithin 48 = .ok (.iadd, 1) := by decide +kernel
theorem dX1_leastWithin_49 : decode cX1_leastWithin 49 = .ok (.iconst 1, 1) := by decide +kernel
theorem dX1_leastWithin_50 : decode cX1_leastWithin 50 = .ok (.iadd, 1) := by decide +kernel
theorem dX1_leastWithin_51 : decode cX1_leastWithin 51 = .ok (.ldc 25, 2) := by decide +kernel
theorem dX1_leastWithin_53 : decode cX1_leastWithin 53 = .ok (.invokestatic 26, 3) := by decide +kernel
theorem dX1_leastWithin_56 : decode cX1_leastWithin 56 = .ok (.aload_n 0, 1) := by decide +kernel
theorem dX1_leastWithin_57 : decode cX1_leastWithin 57 = .ok (.getfield 15, 3) := by decide +kernel
theorem dX1_leastWithin_60 : decode cX1_leastWithin 60 = .ok (.iload 4, 2) := by decide +kernel
theorem dX1_leastWithin_62 : decode cX1_leastWithin 62 = .ok (.bipush 41, 2) := by decide +kernel
theorem dX1_leastWithin_64 : decode cX1_leastWithin 64 = .ok (.imul, 1) := by decide +kernel
theorem dX1_leastWithin_65 : decode cX1_leastWithin 65 = .ok (.iload 5, 2) := by decide +kernel
theorem dX1_leastWithin_67 : decode cX1_leastWithin 67 = .ok (.iadd, 1) := by decide +kernel
theorem dX1_leastWithin_68 : decode cX1_leastWithin 68 = .ok (.iconst 0, 1) := by decide +kernel
theorem dX1_leastWithin_69 : decode cX1_leastWithin 69 = .ok (.iastore, 1) := by decide +kernel
theorem dX1_leastWithin_70 : decode cX1_leastWithin 70 = .ok (.iconst 0, 1) := by decide +kernel
theorem dX1_leastWithin_71 : decode cX1_leastWithin 71 = .ok (.istore 6, 2) := by decide +kernel
theorem dX1_leastWithin_73 : decode cX1_leastWithin 73 = .ok (.iload 4, 2) := by decide +kernel
theorem dX1_leastWithin_75 : decode cX1_leastWithin 75 = .ok (.iconst 1, 1) := by decide +kernel
theorem dX1_leastWithin_76 : decode cX1_leastWithin 76 = .ok (.isub, 1) := by decide +kernel
theorem dX1_leastWithin_77 : decode cX1_leastWithin 77 = .ok (.istore 7, 2) := by decide +kernel
theorem dX1_leastWithin_79 : decode cX1_leastWithin 79 = .ok (.iload 7, 2) := by decide +kernel
theorem dX1_leastWithin_81 : decode cX1_leastWithin 81 = .ok (.ifCond .lt 37, 3) := by decide +kernel
theorem dX1_leastWithin_84 : decode cX1_leastWithin 84 = .ok (.aload_n 0, 1) := by decide +kernel
theorem dX1_leastWithin_85 : decode cX1_leastWithin 85 = .ok (.aload_n 1, 1) := by decide +kernel
theorem dX1_leastWithin_86 : decode cX1_leastWithin 86 = .ok (.iload 7, 2) := by decide +kernel
theorem dX1_leastWithin_88 : decode cX1_leastWithin 88 = .ok (.aload_n 2, 1) := by decide +kernel
theorem dX1_leastWithin_89 : decode cX1_leastWithin 89 = .ok (.invokevirtual 32, 3) := by decide +kernel
theorem dX1_leastWithin_92 : decode cX1_leastWithin 92 = .ok (.istore 8, 2) := by decide +kernel
theorem dX1_leastWithin_94 : decode cX1_leastWithin 94 = .ok (.iload 8, 2) := by decide +kernel
theorem dX1_leastWithin_96 : decode cX1_leastWithin 96 = .ok (.iload_n 3, 1) := by decide +kernel
theorem dX1_leastWithin_97 : decode cX1_leastWithin 97 = .ok (.if_icmp .le 11, 3) := by decide +kernel
theorem dX1_leastWithin_100 : decode cX1_leastWithin 100 = .ok (.iload 6, 2) := by decide +kernel
theorem dX1_leastWithin_102 : decode cX1_leastWithin 102 = .ok (.iload_n 3, 1) := by decide +kernel
theorem dX1_leastWithin_103 : decode cX1_leastWithin 103 = .ok (.if_icmp .le 5, 3) := by decide +kernel
theorem dX1_leastWithin_106 : decode cX1_leastWithin 106 = .ok (.iconst (-1), 1) := by decide +kernel
theorem dX1_leastWithin_107 : decode cX1_leastWithin 107 = .ok (.ireturn, 1) := by decide +kernel
theorem dX1_leastWithin_108 : decode cX1_leastWithin 108 = .ok (.iload 8, 2) := by decide +kernel
theorem dX1_leastWithin_110 : decode cX1_leastWithin 110 = .ok (.istore 6, 2) := by decide +kernel
theorem dX1_leastWithin_112 : decode cX1_leastWithin 112 = .ok (.iinc 7 (-1), 3) := by decide +kernel
theorem dX1_leastWithin_115 : decode cX1_leastWithin 115 = .ok (.goto (-36), 3) := by decide +kernel
theorem dX1_leastWithin_118 : decode cX1_leastWithin 118 = .ok (.aload_n 0, 1) := by decide +kernel
theorem dX1_leastWithin_119 : decode cX1_leastWithin 119 = .ok (.getfield 15, 3) := by decide +kernel
theorem dX1_leastWithin_122 : decode cX1_leastWithin 122 = .ok (.iconst 0, 1) := by decide +kernel
theorem dX1_leastWithin_123 : decode cX1_leastWithin 123 = .ok (.iaload, 1) := by decide +kernel
theorem dX1_leastWithin_124 : decode cX1_leastWithin 124 = .ok (.iload_n 3, 1) := by decide +kernel
theorem dX1_leastWithin_125 : decode cX1_leastWithin 125 = .ok (.if_icmp .gt 12, 3) := by decide +kernel
theorem dX1_leastWithin_128 : decode cX1_leastWithin 128 = .ok (.aload_n 0, 1) := by decide +kernel
theorem dX1_leastWithin_129 : decode cX1_leastWithin 129 = .ok (.getfield 15, 3) := by decide +kernel
theorem dX1_leastWithin_132 : decode cX1_leastWithin 132 = .ok (.iconst 0, 1) := by decide +kernel
theorem dX1_leastWithin_133 : decode cX1_leastWithin 133 = .ok (.iaload, 1) := by decide +kernel
theorem dX1_leastWithin_134 : decode cX1_leastWithin 134 = .ok (.goto 4, 3) := by decide +kernel
theorem dX1_leastWithin_137 : decode cX1_leastWithin 137 = .ok (.iconst (-1), 1) := by decide +kernel
theorem dX1_leastWithin_138 : decode cX1_leastWithin 138 = .ok (.ireturn, 1) := by decide +kernel
theorem dX1_fillRow_0 : decode cX1_fillRow 0 = .ok (.aload_n 3, 1) := by decide +kernel
theorem dX1_fillRow_1 : decode cX1_fillRow 1 = .ok (.getfield 19, 3) := by decide +kernel
theorem dX1_fillRow_4 : decode cX1_fillRow 4 = .ok (.istore 4, 2) := by decide +kernel
theorem dX1_fillRow_6 : decode cX1_fillRow 6 = .ok (.aload_n 1, 1) := by decide +kernel
theorem dX1_fillRow_7 : decode cX1_fillRow 7 = .ok (.getfield 19, 3) := by decide +kernel
theorem dX1_fillRow_10 : decode cX1_fillRow 10 = .ok (.iload_n 2, 1) := by decide +kernel
theorem dX1_fillRow_11 : decode cX1_fillRow 11 = .ok (.isub, 1) := by decide +kernel
theorem dX1_fillRow_12 : decode cX1_fillRow 12 = .ok (.istore 5, 2) := by decide +kernel
theorem dX1_fillRow_14 : decode cX1_fillRow 14 = .ok (.iload_n 2, 1) := by decide +kernel
theorem dX1_fillRow_15 : decode cX1_fillRow 15 = .ok (.iconst 1, 1) := by decide +kernel
theorem dX1_fillRow_16 : decode cX1_fillRow 16 = .ok (.iadd, 1) := by decide +kernel
theorem dX1_fillRow_17 : decode cX1_fillRow 17 = .ok (.iconst 2, 1) := by decide +kernel
theorem dX1_fillRow_18 : decode cX1_fillRow 18 = .ok (.idiv, 1) := by decide +kernel
theorem dX1_fillRow_19 : decode cX1_fillRow 19 = .ok (.iload 4, 2) := by decide +kernel
theorem dX1_fillRow_21 : decode cX1_fillRow 21 = .ok (.iconst 2, 1) := by decide +kernel
theorem dX1_fillRow_22 : decode cX1_fillRow 22 = .ok (.iload 5, 2) := by decide +kernel
theorem dX1_fillRow_24 : decode cX1_fillRow 24 = .ok (.imul, 1) := by decide +kernel
theorem dX1_fillRow_25 : decode cX1_fillRow 25 = .ok (.isub, 1) := by decide +kernel
theorem dX1_fillRow_26 : decode cX1_fillRow 26 = .ok (.invokestatic 36, 3) := by decide +kernel
theorem dX1_fillRow_29 : decode cX1_fillRow 29 = .ok (.istore 6, 2) := by decide +kernel
theorem dX1_fillRow_31 : decode cX1_fillRow 31 = .ok (.iconst 2, 1) := by decide +kernel
theorem dX1_fillRow_32 : decode cX1_fillRow 32 = .ok (.iload_n 2, 1) := by decide +kernel
theorem dX1_fillRow_33 : decode cX1_fillRow 33 = .ok (.imul, 1) := by decide +kernel
theorem dX1_fillRow_34 : decode cX1_fillRow 34 = .ok (.iload 4, 2) := by decide +kernel
theorem dX1_fillRow_36 : decode cX1_fillRow 36 = .ok (.iload 5, 2) := by decide +kernel
theorem dX1_fillRow_38 : decode cX1_fillRow 38 = .ok (.iconst 1, 1) := by decide +kernel
theorem dX1_fillRow_39 : decode cX1_fillRow 39 = .ok (.iadd, 1) := by decide +kernel
theorem dX1_fillRow_40 : decode cX1_fillRow 40 = .ok (.iconst 2, 1) := by decide +kernel
theorem dX1_fillRow_41 : decode cX1_fillRow 41 = .ok (.idiv, 1) := by decide +kernel
theorem dX1_fillRow_42 : decode cX1_fillRow 42 = .ok (.isub, 1) := by decide +kernel
theorem dX1_fillRow_43 : decode cX1_fillRow 43 = .ok (.invokestatic 42, 3) := by decide +kernel
theorem dX1_fillRow_46 : decode cX1_fillRow 46 = .ok (.istore 7, 2) := by decide +kernel
theorem dX1_fillRow_48 : decode cX1_fillRow 48 = .ok (.aload_n 0, 1) := by decide +kernel
theorem dX1_fillRow_49 : decode cX1_fillRow 49 = .ok (.getfield 15, 3) := by decide +kernel
theorem dX1_fillRow_52 : decode cX1_fillRow 52 = .ok (.iload_n 2, 1) := by decide +kernel
theorem dX1_fillRow_53 : decode cX1_fillRow 53 = .ok (.bipush 41, 2) := by decide +kernel
theorem dX1_fillRow_55 : decode cX1_fillRow 55 = .ok (.imul, 1) := by decide +kernel
theorem dX1_fillRow_56 : decode cX1_fillRow 56 = .ok (.iload_n 2, 1) := by decide +kernel
theorem dX1_fillRow_57 : decode cX1_fillRow 57 = .ok (.bipush 41, 2) := by decide +kernel
theorem dX1_fillRow_59 : decode cX1_fillRow 59 = .ok (.imul, 1) := by decide +kernel
theorem dX1_fillRow_60 : decode cX1_fillRow 60 = .ok (.iload 4, 2) := by decide +kernel
theorem dX1_fillRow_62 : decode cX1_fillRow 62 = .ok (.iadd, 1) := by decide +kernel
theorem dX1_fillRow_63 : decode cX1_fillRow 63 = .ok (.iconst 1, 1) := by decide +kernel
theorem dX1_fillRow_64 : decode cX1_fillRow 64 = .ok (.iadd, 1) := by decide +kernel
theorem dX1_fillRow_65 : decode cX1_fillRow 65 = .ok (.ldc 25, 2) := by decide +kernel
theorem dX1_fillRow_67 : decode cX1_fillRow 67 = .ok (.invokestatic 26, 3) := by decide +kernel
theorem dX1_fillRow_70 : decode cX1_fillRow 70 = .ok (.ldc 25, 2) := by decide +kernel
theorem dX1_fillRow_72 : decode cX1_fillRow 72 = .ok (.istore 8, 2) := by decide +kernel
theorem dX1_fillRow_74 : decode cX1_fillRow 74 = .ok (.iload 6, 2) := by decide +kernel
theorem dX1_fillRow_76 : decode cX1_fillRow 76 = .ok (.istore 9, 2) := by decide +kernel
theorem dX1_fillRow_78 : decode cX1_fillRow 78 = .ok (.iload 9, 2) := by decide +kernel
theorem dX1_fillRow_80 : decode cX1_fillRow 80 = .ok (.iload 7, 2) := by decide +kernel
theorem dX1_fillRow_82 : decode cX1_fillRow 82 = .ok (.if_icmp .gt 69, 3) := by decide +kernel
theorem dX1_fillRow_85 : decode cX1_fillRow 85 = .ok (.ldc 25, 2) := by decide +kernel
theorem dX1_fillRow_87 : decode cX1_fillRow 87 = .ok (.istore 10, 2) := by decide +kernel
theorem dX1_fillRow_89 : decode cX1_fillRow 89 = .ok (.iconst 0, 1) := by decide +kernel
theorem dX1_fillRow_90 : decode cX1_fillRow 90 = .ok (.istore 11, 2) := by decide +kernel
theorem dX1_fillRow_92 : decode cX1_fillRow 92 = .ok (.iload 11, 2) := by decide +kernel
theorem dX1_fillRow_94 : decode cX1_fillRow 94 = .ok (.iconst 4, 1) := by decide +kernel
theorem dX1_fillRow_95 : decode cX1_fillRow 95 = .ok (.if_icmp .ge 27, 3) := by decide +kernel
theorem dX1_fillRow_98 : decode cX1_fillRow 98 = .ok (.iload 10, 2) := by decide +kernel
theorem dX1_fillRow_100 : decode cX1_fillRow 100 = .ok (.aload_n 0, 1) := by decide +kernel
theorem dX1_fillRow_101 : decode cX1_fillRow 101 = .ok (.iload 11, 2) := by decide +kernel
theorem dX1_fillRow_103 : decode cX1_fillRow 103 = .ok (.aload_n 1, 1) := by decide +kernel
theorem dX1_fillRow_104 : decode cX1_fillRow 104 = .ok (.iload_n 2, 1) := by decide +kernel
theorem dX1_fillRow_105 : decode cX1_fillRow 105 = .ok (.aload_n 3, 1) := by decide +kernel
theorem dX1_fillRow_106 : decode cX1_fillRow 106 = .ok (.iload 9, 2) := by decide +kernel
theorem dX1_fillRow_108 : decode cX1_fillRow 108 = .ok (.invokevirtual 45, 3) := by decide +kernel
theorem dX1_fillRow_111 : decode cX1_fillRow 111 = .ok (.invokestatic 42, 3) := by decide +kernel
theorem dX1_fillRow_114 : decode cX1_fillRow 114 = .ok (.istore 10, 2) := by decide +kernel
theorem dX1_fillRow_116 : decode cX1_fillRow 116 = .ok (.iinc 11 1, 3) := by decide +kernel
theorem dX1_fillRow_119 : decode cX1_fillRow 119 = .ok (.goto (-27), 3) := by decide +kernel
theorem dX1_fillRow_122 : decode cX1_fillRow 122 = .ok (.aload_n 0, 1) := by decide +kernel
theorem dX1_fillRow_123 : decode cX1_fillRow 123 = .ok (.getfield 15, 3) := by decide +kernel
theorem dX1_fillRow_126 : decode cX1_fillRow 126 = .ok (.iload_n 2, 1) := by decide +kernel
theorem dX1_fillRow_127 : decode cX1_fillRow 127 = .ok (.bipush 41, 2) := by decide +kernel
theorem dX1_fillRow_129 : decode cX1_fillRow 129 = .ok (.imul, 1) := by decide +kernel
theorem dX1_fillRow_130 : decode cX1_fillRow 130 = .ok (.iload 9, 2) := by decide +kernel
theorem dX1_fillRow_132 : decode cX1_fillRow 132 = .ok (.iadd, 1) := by decide +kernel
theorem dX1_fillRow_133 : decode cX1_fillRow 133 = .ok (.iload 10, 2) := by decide +kernel
theorem dX1_fillRow_135 : decode cX1_fillRow 135 = .ok (.iastore, 1) := by decide +kernel
theorem dX1_fillRow_136 : decode cX1_fillRow 136 = .ok (.iload 8, 2) := by decide +kernel
theorem dX1_fillRow_138 : decode cX1_fillRow 138 = .ok (.iload 10, 2) := by decide +kernel
theorem dX1_fillRow_140 : decode cX1_fillRow 140 = .ok (.invokestatic 42, 3) := by decide +kernel
theorem dX1_fillRow_143 : decode cX1_fillRow 143 = .ok (.istore 8, 2) := by decide +kernel
theorem dX1_fillRow_145 : decode cX1_fillRow 145 = .ok (.iinc 9 1, 3) := by decide +kernel
theorem dX1_fillRow_148 : decode cX1_fillRow 148 = .ok (.goto (-70), 3) := by decide +kernel
theorem dX1_fillRow_151 : decode cX1_fillRow 151 = .ok (.iload 8, 2) := by decide +kernel
theorem dX1_fillRow_153 : decode cX1_fillRow 153 = .ok (.ireturn, 1) := by decide +kernel
theorem dX1_costBy_0 : decode cX1_costBy 0 = .ok (.getstatic 49, 3) := by decide +kernel
theorem dX1_costBy_3 : decode cX1_costBy 3 = .ok (.iload_n 1, 1) := by decide +kernel
theorem dX1_costBy_4 : decode cX1_costBy 4 = .ok (.iaload, 1) := by decide +kernel
theorem dX1_costBy_5 : decode cX1_costBy 5 = .ok (.istore 6, 2) := by decide +kernel
theorem dX1_costBy_7 : decode cX1_costBy 7 = .ok (.getstatic 52, 3) := by decide +kernel
theorem dX1_costBy_10 : decode cX1_costBy 10 = .ok (.iload_n 1, 1) := by decide +kernel
theorem dX1_costBy_11 : decode cX1_costBy 11 = .ok (.iaload, 1) := by decide +kernel
theorem dX1_costBy_12 : decode cX1_costBy 12 = .ok (.istore 7, 2) := by decide +kernel
theorem dX1_costBy_14 : decode cX1_costBy 14 = .ok (.iload_n 3, 1) := by decide +kernel
theorem dX1_costBy_15 : decode cX1_costBy 15 = .ok (.iload 6, 2) := by decide +kernel
theorem dX1_costBy_17 : decode cX1_costBy 17 = .ok (.iadd, 1) := by decide +kernel
theorem dX1_costBy_18 : decode cX1_costBy 18 = .ok (.aload_n 2, 1) := by decide +kernel
theorem dX1_costBy_19 : decode cX1_costBy 19 = .ok (.getfield 19, 3) := by decide +kernel
theorem dX1_costBy_22 : decode cX1_costBy 22 = .ok (.if_icmp .gt 16, 3) := by decide +kernel
theorem dX1_costBy_25 : decode cX1_costBy 25 = .ok (.iload 5, 2) := by decide +kernel
theorem dX1_costBy_27 : decode cX1_costBy 27 = .ok (.iload 7, 2) := by decide +kernel
theorem dX1_costBy_29 : decode cX1_costBy 29 = .ok (.iadd, 1) := by decide +kernel
theorem dX1_costBy_30 : decode cX1_costBy 30 = .ok (.aload 4, 2) := by decide +kernel
theorem dX1_costBy_32 : decode cX1_costBy 32 = .ok (.getfield 19, 3) := by decide +kernel
theorem dX1_costBy_35 : decode cX1_costBy 35 = .ok (.if_icmp .le 6, 3) := by decide +kernel
theorem dX1_costBy_38 : decode cX1_costBy 38 = .ok (.ldc 25, 2) := by decide +kernel
theorem dX1_costBy_40 : decode cX1_costBy 40 = .ok (.ireturn, 1) := by decide +kernel
theorem dX1_costBy_41 : decode cX1_costBy 41 = .ok (.aload_n 0, 1) := by decide +kernel
theorem dX1_costBy_42 : decode cX1_costBy 42 = .ok (.getfield 15, 3) := by decide +kernel
theorem dX1_costBy_45 : decode cX1_costBy 45 = .ok (.iload_n 3, 1) := by decide +kernel
theorem dX1_costBy_46 : decode cX1_costBy 46 = .ok (.iload 6, 2) := by decide +kernel
theorem dX1_costBy_48 : decode cX1_costBy 48 = .ok (.iadd, 1) := by decide +kernel
theorem dX1_costBy_49 : decode cX1_costBy 49 = .ok (.bipush 41, 2) := by decide +kernel
theorem dX1_costBy_51 : decode cX1_costBy 51 = .ok (.imul, 1) := by decide +kernel
theorem dX1_costBy_52 : decode cX1_costBy 52 = .ok (.iload 5, 2) := by decide +kernel
theorem dX1_costBy_54 : decode cX1_costBy 54 = .ok (.iadd, 1) := by decide +kernel
theorem dX1_costBy_55 : decode cX1_costBy 55 = .ok (.iload 7, 2) := by decide +kernel
theorem dX1_costBy_57 : decode cX1_costBy 57 = .ok (.iadd, 1) := by decide +kernel
theorem dX1_costBy_58 : decode cX1_costBy 58 = .ok (.iaload, 1) := by decide +kernel
theorem dX1_costBy_59 : decode cX1_costBy 59 = .ok (.istore 8, 2) := by decide +kernel
theorem dX1_costBy_61 : decode cX1_costBy 61 = .ok (.iload_n 1, 1) := by decide +kernel
theorem dX1_costBy_62 : decode cX1_costBy 62 = .ok (.ifCond .ne 21, 3) := by decide +kernel
theorem dX1_costBy_65 : decode cX1_costBy 65 = .ok (.aload_n 2, 1) := by decide +kernel
theorem dX1_costBy_66 : decode cX1_costBy 66 = .ok (.iload_n 3, 1) := by decide +kernel
theorem dX1_costBy_67 : decode cX1_costBy 67 = .ok (.invokevirtual 55, 3) := by decide +kernel
theorem dX1_costBy_70 : decode cX1_costBy 70 = .ok (.aload 4, 2) := by decide +kernel
theorem dX1_costBy_72 : decode cX1_costBy 72 = .ok (.iload 5, 2) := by decide +kernel
theorem dX1_costBy_74 : decode cX1_costBy 74 = .ok (.invokevirtual 55, 3) := by decide +kernel
theorem dX1_costBy_77 : decode cX1_costBy 77 = .ok (.if_icmp .ne 6, 3) := by decide +kernel
theorem dX1_costBy_80 : decode cX1_costBy 80 = .ok (.iload 8, 2) := by decide +kernel
theorem dX1_costBy_82 : decode cX1_costBy 82 = .ok (.ireturn, 1) := by decide +kernel
theorem dX1_costBy_83 : decode cX1_costBy 83 = .ok (.aload_n 0, 1) := by decide +kernel
theorem dX1_costBy_84 : decode cX1_costBy 84 = .ok (.getfield 9, 3) := by decide +kernel
theorem dX1_costBy_87 : decode cX1_costBy 87 = .ok (.aload_n 2, 1) := by decide +kernel
theorem dX1_costBy_88 : decode cX1_costBy 88 = .ok (.iload_n 3, 1) := by decide +kernel
theorem dX1_costBy_89 : decode cX1_costBy 89 = .ok (.iload 6, 2) := by decide +kernel
theorem dX1_costBy_91 : decode cX1_costBy 91 = .ok (.invokevirtual 59, 3) := by decide +kernel
theorem dX1_costBy_94 : decode cX1_costBy 94 = .ok (.aload 4, 2) := by decide +kernel
theorem dX1_costBy_96 : decode cX1_costBy 96 = .ok (.iload 5, 2) := by decide +kernel
theorem dX1_costBy_98 : decode cX1_costBy 98 = .ok (.iload 7, 2) := by decide +kernel
theorem dX1_costBy_100 : decode cX1_costBy 100 = .ok (.invokevirtual 59, 3) := by decide +kernel
theorem dX1_costBy_103 : decode cX1_costBy 103 = .ok (.invokevirtual 62, 3) := by decide +kernel
theorem dX1_costBy_106 : decode cX1_costBy 106 = .ok (.iload 8, 2) := by decide +kernel
theorem dX1_costBy_108 : decode cX1_costBy 108 = .ok (.iadd, 1) := by decide +kernel
theorem dX1_costBy_109 : decode cX1_costBy 109 = .ok (.ireturn, 1) := by decide +kernel
theorem dX1_writeWay_0 : decode cX1_writeWay 0 = .ok (.aload_n 3, 1) := by decide +kernel
theorem dX1_writeWay_1 : decode cX1_writeWay 1 = .ok (.iconst 0, 1) := by decide +kernel
theorem dX1_writeWay_2 : decode cX1_writeWay 2 = .ok (.putfield 67, 3) := by decide +kernel
theorem dX1_writeWay_5 : decode cX1_writeWay 5 = .ok (.iconst 0, 1) := by decide +kernel
theorem dX1_writeWay_6 : decode cX1_writeWay 6 = .ok (.istore 4, 2) := by decide +kernel
theorem dX1_writeWay_8 : decode cX1_writeWay 8 = .ok (.iconst 0, 1) := by decide +kernel
theorem dX1_writeWay_9 : decode cX1_writeWay 9 = .ok (.istore 5, 2) := by decide +kernel
theorem dX1_writeWay_11 : decode cX1_writeWay 11 = .ok (.iconst 0, 1) := by decide +kernel
theorem dX1_writeWay_12 : decode cX1_writeWay 12 = .ok (.istore 6, 2) := by decide +kernel
theorem dX1_writeWay_14 : decode cX1_writeWay 14 = .ok (.iload 6, 2) := by decide +kernel
theorem dX1_writeWay_16 : decode cX1_writeWay 16 = .ok (.bipush 40, 2) := by decide +kernel
theorem dX1_writeWay_18 : decode cX1_writeWay 18 = .ok (.if_icmp .ge 126, 3) := by decide +kernel
theorem dX1_writeWay_21 : decode cX1_writeWay 21 = .ok (.iload 4, 2) := by decide +kernel
theorem dX1_writeWay_23 : decode cX1_writeWay 23 = .ok (.aload_n 1, 1) := by decide +kernel
theorem dX1_writeWay_24 : decode cX1_writeWay 24 = .ok (.getfield 19, 3) := by decide +kernel
theorem dX1_writeWay_27 : decode cX1_writeWay 27 = .ok (.if_icmp .ge 117, 3) := by decide +kernel
theorem dX1_writeWay_30 : decode cX1_writeWay 30 = .ok (.iload 5, 2) := by decide +kernel
theorem dX1_writeWay_32 : decode cX1_writeWay 32 = .ok (.aload_n 2, 1) := by decide +kernel
theorem dX1_writeWay_33 : decode cX1_writeWay 33 = .ok (.getfield 19, 3) := by decide +kernel
theorem dX1_writeWay_36 : decode cX1_writeWay 36 = .ok (.if_icmp .ge 108, 3) := by decide +kernel
theorem dX1_writeWay_39 : decode cX1_writeWay 39 = .ok (.aload_n 0, 1) := by decide +kernel
theorem dX1_writeWay_40 : decode cX1_writeWay 40 = .ok (.aload_n 1, 1) := by decide +kernel
theorem dX1_writeWay_41 : decode cX1_writeWay 41 = .ok (.iload 4, 2) := by decide +kernel
theorem dX1_writeWay_43 : decode cX1_writeWay 43 = .ok (.aload_n 2, 1) := by decide +kernel
theorem dX1_writeWay_44 : decode cX1_writeWay 44 = .ok (.iload 5, 2) := by decide +kernel
theorem dX1_writeWay_46 : decode cX1_writeWay 46 = .ok (.invokevirtual 72, 3) := by decide +kernel
theorem dX1_writeWay_49 : decode cX1_writeWay 49 = .ok (.istore 7, 2) := by decide +kernel
theorem dX1_writeWay_51 : decode cX1_writeWay 51 = .ok (.getstatic 49, 3) := by decide +kernel
theorem dX1_writeWay_54 : decode cX1_writeWay 54 = .ok (.iload 7, 2) := by decide +kernel
theorem dX1_writeWay_56 : decode cX1_writeWay 56 = .ok (.iaload, 1) := by decide +kernel
theorem dX1_writeWay_57 : decode cX1_writeWay 57 = .ok (.istore 8, 2) := by decide +kernel
theorem dX1_writeWay_59 : decode cX1_writeWay 59 = .ok (.getstatic 52, 3) := by decide +kernel
theorem dX1_writeWay_62 : decode cX1_writeWay 62 = .ok (.iload 7, 2) := by decide +kernel
theorem dX1_writeWay_64 : decode cX1_writeWay 64 = .ok (.iaload, 1) := by decide +kernel
theorem dX1_writeWay_65 : decode cX1_writeWay 65 = .ok (.istore 9, 2) := by decide +kernel
theorem dX1_writeWay_67 : decode cX1_writeWay 67 = .ok (.aload_n 0, 1) := by decide +kernel
theorem dX1_writeWay_68 : decode cX1_writeWay 68 = .ok (.getfield 15, 3) := by decide +kernel
theorem dX1_writeWay_71 : decode cX1_writeWay 71 = .ok (.iload 4, 2) := by decide +kernel
theorem dX1_writeWay_73 : decode cX1_writeWay 73 = .ok (.bipush 41, 2) := by decide +kernel
theorem dX1_writeWay_75 : decode cX1_writeWay 75 = .ok (.imul, 1) := by decide +kernel
theorem dX1_writeWay_76 : decode cX1_writeWay 76 = .ok (.iload 5, 2) := by decide +kernel
theorem dX1_writeWay_78 : decode cX1_writeWay 78 = .ok (.iadd, 1) := by decide +kernel
theorem dX1_writeWay_79 : decode cX1_writeWay 79 = .ok (.iaload, 1) := by decide +kernel
theorem dX1_writeWay_80 : decode cX1_writeWay 80 = .ok (.aload_n 0, 1) := by decide +kernel
theorem dX1_writeWay_81 : decode cX1_writeWay 81 = .ok (.getfield 15, 3) := by decide +kernel
theorem dX1_writeWay_84 : decode cX1_writeWay 84 = .ok (.iload 4, 2) := by decide +kernel
theorem dX1_writeWay_86 : decode cX1_writeWay 86 = .ok (.iload 8, 2) := by decide +kernel
theorem dX1_writeWay_88 : decode cX1_writeWay 88 = .ok (.iadd, 1) := by decide +kernel
theorem dX1_writeWay_89 : decode cX1_writeWay 89 = .ok (.bipush 41, 2) := by decide +kernel
theorem dX1_writeWay_91 : decode cX1_writeWay 91 = .ok (.imul, 1) := by decide +kernel
theorem dX1_writeWay_92 : decode cX1_writeWay 92 = .ok (.iload 5, 2) := by decide +kernel
theorem dX1_writeWay_94 : decode cX1_writeWay 94 = .ok (.iadd, 1) := by decide +kernel
theorem dX1_writeWay_95 : decode cX1_writeWay 95 = .ok (.iload 9, 2) := by decide +kernel
theorem dX1_writeWay_97 : decode cX1_writeWay 97 = .ok (.iadd, 1) := by decide +kernel
theorem dX1_writeWay_98 : decode cX1_writeWay 98 = .ok (.iaload, 1) := by decide +kernel
theorem dX1_writeWay_99 : decode cX1_writeWay 99 = .ok (.isub, 1) := by decide +kernel
theorem dX1_writeWay_100 : decode cX1_writeWay 100 = .ok (.istore 10, 2) := by decide +kernel
theorem dX1_writeWay_102 : decode cX1_writeWay 102 = .ok (.aload_n 3, 1) := by decide +kernel
theorem dX1_writeWay_103 : decode cX1_writeWay 103 = .ok (.aload_n 1, 1) := by decide +kernel
theorem dX1_writeWay_104 : decode cX1_writeWay 104 = .ok (.iload 4, 2) := by decide +kernel
theorem dX1_writeWay_106 : decode cX1_writeWay 106 = .ok (.iload 8, 2) := by decide +kernel
theorem dX1_writeWay_108 : decode cX1_writeWay 108 = .ok (.invokevirtual 76, 3) := by decide +kernel
theorem dX1_writeWay_111 : decode cX1_writeWay 111 = .ok (.aload_n 2, 1) := by decide +kernel
theorem dX1_writeWay_112 : decode cX1_writeWay 112 = .ok (.iload 5, 2) := by decide +kernel
theorem dX1_writeWay_114 : decode cX1_writeWay 114 = .ok (.iload 9, 2) := by decide +kernel
theorem dX1_writeWay_116 : decode cX1_writeWay 116 = .ok (.invokevirtual 76, 3) := by decide +kernel
theorem dX1_writeWay_119 : decode cX1_writeWay 119 = .ok (.iload 10, 2) := by decide +kernel
theorem dX1_writeWay_121 : decode cX1_writeWay 121 = .ok (.invokevirtual 79, 3) := by decide +kernel
theorem dX1_writeWay_124 : decode cX1_writeWay 124 = .ok (.iload 4, 2) := by decide +kernel
theorem dX1_writeWay_126 : decode cX1_writeWay 126 = .ok (.iload 8, 2) := by decide +kernel
theorem dX1_writeWay_128 : decode cX1_writeWay 128 = .ok (.iadd, 1) := by decide +kernel
theorem dX1_writeWay_129 : decode cX1_writeWay 129 = .ok (.istore 4, 2) := by decide +kernel
theorem dX1_writeWay_131 : decode cX1_writeWay 131 = .ok (.iload 5, 2) := by decide +kernel
theorem dX1_writeWay_133 : decode cX1_writeWay 133 = .ok (.iload 9, 2) := by decide +kernel
theorem dX1_writeWay_135 : decode cX1_writeWay 135 = .ok (.iadd, 1) := by decide +kernel
theorem dX1_writeWay_136 : decode cX1_writeWay 136 = .ok (.istore 5, 2) := by decide +kernel
theorem dX1_writeWay_138 : decode cX1_writeWay 138 = .ok (.iinc 6 1, 3) := by decide +kernel
theorem dX1_writeWay_141 : decode cX1_writeWay 141 = .ok (.goto (-127), 3) := by decide +kernel
theorem dX1_writeWay_144 : decode cX1_writeWay 144 = .ok (.return_, 1) := by decide +kernel
theorem dX1_firstShape_0 : decode cX1_firstShape 0 = .ok (.iconst 0, 1) := by decide +kernel
theorem dX1_firstShape_1 : decode cX1_firstShape 1 = .ok (.istore 5, 2) := by decide +kernel
theorem dX1_firstShape_3 : decode cX1_firstShape 3 = .ok (.iload 5, 2) := by decide +kernel
theorem dX1_firstShape_5 : decode cX1_firstShape 5 = .ok (.iconst 4, 1) := by decide +kernel
theorem dX1_firstShape_6 : decode cX1_firstShape 6 = .ok (.if_icmp .ge 38, 3) := by decide +kernel
theorem dX1_firstShape_9 : decode cX1_firstShape 9 = .ok (.aload_n 0, 1) := by decide +kernel
theorem dX1_firstShape_10 : decode cX1_firstShape 10 = .ok (.iload 5, 2) := by decide +kernel
theorem dX1_firstShape_12 : decode cX1_firstShape 12 = .ok (.aload_n 1, 1) := by decide +kernel
theorem dX1_firstShape_13 : decode cX1_firstShape 13 = .ok (.iload_n 2, 1) := by decide +kernel
theorem dX1_firstShape_14 : decode cX1_firstShape 14 = .ok (.aload_n 3, 1) := by decide +kernel
theorem dX1_firstShape_15 : decode cX1_firstShape 15 = .ok (.iload 4, 2) := by decide +kernel
theorem dX1_firstShape_17 : decode cX1_firstShape 17 = .ok (.invokevirtual 45, 3) := by decide +kernel
theorem dX1_firstShape_20 : decode cX1_firstShape 20 = .ok (.aload_n 0, 1) := by decide +kernel
theorem dX1_firstShape_21 : decode cX1_firstShape 21 = .ok (.getfield 15, 3) := by decide +kernel
theorem dX1_firstShape_24 : decode cX1_firstShape 24 = .ok (.iload_n 2, 1) := by decide +kernel
theorem dX1_firstShape_25 : decode cX1_firstShape 25 = .ok (.bipush 41, 2) := by decide +kernel
theorem dX1_firstShape_27 : decode cX1_firstShape 27 = .ok (.imul, 1) := by decide +kernel
theorem dX1_firstShape_28 : decode cX1_firstShape 28 = .ok (.iload 4, 2) := by decide +kernel
theorem dX1_firstShape_30 : decode cX1_firstShape 30 = .ok (.iadd, 1) := by decide +kernel
theorem dX1_firstShape_31 : decode cX1_firstShape 31 = .ok (.iaload, 1) := by decide +kernel
theorem dX1_firstShape_32 : decode cX1_firstShape 32 = .ok (.if_icmp .ne 6, 3) := by decide +kernel
theorem dX1_firstShape_35 : decode cX1_firstShape 35 = .ok (.iload 5, 2) := by decide +kernel
theorem dX1_firstShape_37 : decode cX1_firstShape 37 = .ok (.ireturn, 1) := by decide +kernel
theorem dX1_firstShape_38 : decode cX1_firstShape 38 = .ok (.iinc 5 1, 3) := by decide +kernel
theorem dX1_firstShape_41 : decode cX1_firstShape 41 = .ok (.goto (-38), 3) := by decide +kernel
theorem dX1_firstShape_44 : decode cX1_firstShape 44 = .ok (.iconst 0, 1) := by decide +kernel
theorem dX1_firstShape_45 : decode cX1_firstShape 45 = .ok (.ireturn, 1) := by decide +kernel
theorem dX2_init_0 : decode cX2_init 0 = .ok (.aload_n 0, 1) := by decide +kernel
theorem dX2_init_1 : decode cX2_init 1 = .ok (.invokespecial 3, 3) := by decide +kernel
theorem dX2_init_4 : decode cX2_init 4 = .ok (.aload_n 0, 1) := by decide +kernel
theorem dX2_init_5 : decode cX2_init 5 = .ok (.sipush 200, 3) := by decide +kernel
theorem dX2_init_8 : decode cX2_init 8 = .ok (.newarray .int, 2) := by decide +kernel
theorem dX2_init_10 : decode cX2_init 10 = .ok (.putfield 9, 3) := by decide +kernel
theorem dX2_init_13 : decode cX2_init 13 = .ok (.aload_n 0, 1) := by decide +kernel
theorem dX2_init_14 : decode cX2_init 14 = .ok (.sipush 200, 3) := by decide +kernel
theorem dX2_init_17 : decode cX2_init 17 = .ok (.newarray .int, 2) := by decide +kernel
theorem dX2_init_19 : decode cX2_init 19 = .ok (.putfield 15, 3) := by decide +kernel
theorem dX2_init_22 : decode cX2_init 22 = .ok (.aload_n 0, 1) := by decide +kernel
theorem dX2_init_23 : decode cX2_init 23 = .ok (.iconst 0, 1) := by decide +kernel
theorem dX2_init_24 : decode cX2_init 24 = .ok (.putfield 18, 3) := by decide +kernel
theorem dX2_init_27 : decode cX2_init 27 = .ok (.return_, 1) := by decide +kernel
theorem dX2_insert_0 : decode cX2_insert 0 = .ok (.aload_n 0, 1) := by decide +kernel
theorem dX2_insert_1 : decode cX2_insert 1 = .ok (.getfield 18, 3) := by decide +kernel
theorem dX2_insert_4 : decode cX2_insert 4 = .ok (.sipush 200, 3) := by decide +kernel
theorem dX2_insert_7 : decode cX2_insert 7 = .ok (.if_icmp .lt 4, 3) := by decide +kernel
theorem dX2_insert_10 : decode cX2_insert 10 = .ok (.return_, 1) := by decide +kernel
theorem dX2_insert_11 : decode cX2_insert 11 = .ok (.aload_n 0, 1) := by decide +kernel
theorem dX2_insert_12 : decode cX2_insert 12 = .ok (.getfield 18, 3) := by decide +kernel
theorem dX2_insert_15 : decode cX2_insert 15 = .ok (.istore_n 3, 1) := by decide +kernel
theorem dX2_insert_16 : decode cX2_insert 16 = .ok (.iload_n 3, 1) := by decide +kernel
theorem dX2_insert_17 : decode cX2_insert 17 = .ok (.ifCond .le 49, 3) := by decide +kernel
theorem dX2_insert_20 : decode cX2_insert 20 = .ok (.aload_n 0, 1) := by decide +kernel
theorem dX2_insert_21 : decode cX2_insert 21 = .ok (.getfield 15, 3) := by decide +kernel
theorem dX2_insert_24 : decode cX2_insert 24 = .ok (.iload_n 3, 1) := by decide +kernel
theorem dX2_insert_25 : decode cX2_insert 25 = .ok (.iconst 1, 1) := by decide +kernel
theorem dX2_insert_26 : decode cX2_insert 26 = .ok (.isub, 1) := by decide +kernel
theorem dX2_insert_27 : decode cX2_insert 27 = .ok (.iaload, 1) := by decide +kernel
theorem dX2_insert_28 : decode cX2_insert 28 = .ok (.iload_n 2, 1) := by decide +kernel
theorem dX2_insert_29 : decode cX2_insert 29 = .ok (.if_icmp .le 37, 3) := by decide +kernel
theorem dX2_insert_32 : decode cX2_insert 32 = .ok (.aload_n 0, 1) := by decide +kernel
theorem dX2_insert_33 : decode cX2_insert 33 = .ok (.getfield 9, 3) := by decide +kernel
theorem dX2_insert_36 : decode cX2_insert 36 = .ok (.iload_n 3, 1) := by decide +kernel
theorem dX2_insert_37 : decode cX2_insert 37 = .ok (.aload_n 0, 1) := by decide +kernel
theorem dX2_insert_38 : decode cX2_insert 38 = .ok (.getfield 9, 3) := by decide +kernel
theorem dX2_insert_41 : decode cX2_insert 41 = .ok (.iload_n 3, 1) := by decide +kernel
theorem dX2_insert_42 : decode cX2_insert 42 = .ok (.iconst 1, 1) := by decide +kernel
theorem dX2_insert_43 : decode cX2_insert 43 = .ok (.isub, 1) := by decide +kernel
theorem dX2_insert_44 : decode cX2_insert 44 = .ok (.iaload, 1) := by decide +kernel
theorem dX2_insert_45 : decode cX2_insert 45 = .ok (.iastore, 1) := by decide +kernel
theorem dX2_insert_46 : decode cX2_insert 46 = .ok (.aload_n 0, 1) := by decide +kernel
theorem dX2_insert_47 : decode cX2_insert 47 = .ok (.getfield 15, 3) := by decide +kernel
theorem dX2_insert_50 : decode cX2_insert 50 = .ok (.iload_n 3, 1) := by decide +kernel
theorem dX2_insert_51 : decode cX2_insert 51 = .ok (.aload_n 0, 1) := by decide +kernel
theorem dX2_insert_52 : decode cX2_insert 52 = .ok (.getfield 15, 3) := by decide +kernel
theorem dX2_insert_55 : decode cX2_insert 55 = .ok (.iload_n 3, 1) := by decide +kernel
theorem dX2_insert_56 : decode cX2_insert 56 = .ok (.iconst 1, 1) := by decide +kernel
theorem dX2_insert_57 : decode cX2_insert 57 = .ok (.isub, 1) := by decide +kernel
theorem dX2_insert_58 : decode cX2_insert 58 = .ok (.iaload, 1) := by decide +kernel
theorem dX2_insert_59 : decode cX2_insert 59 = .ok (.iastore, 1) := by decide +kernel
theorem dX2_insert_60 : decode cX2_insert 60 = .ok (.iinc 3 (-1), 3) := by decide +kernel
theorem dX2_insert_63 : decode cX2_insert 63 = .ok (.goto (-47), 3) := by decide +kernel
theorem dX2_insert_66 : decode cX2_insert 66 = .ok (.aload_n 0, 1) := by decide +kernel
theorem dX2_insert_67 : decode cX2_insert 67 = .ok (.getfield 9, 3) := by decide +kernel
theorem dX2_insert_70 : decode cX2_insert 70 = .ok (.iload_n 3, 1) := by decide +kernel
theorem dX2_insert_71 : decode cX2_insert 71 = .ok (.iload_n 1, 1) := by decide +kernel
theorem dX2_insert_72 : decode cX2_insert 72 = .ok (.iastore, 1) := by decide +kernel
theorem dX2_insert_73 : decode cX2_insert 73 = .ok (.aload_n 0, 1) := by decide +kernel
theorem dX2_insert_74 : decode cX2_insert 74 = .ok (.getfield 15, 3) := by decide +kernel
theorem dX2_insert_77 : decode cX2_insert 77 = .ok (.iload_n 3, 1) := by decide +kernel
theorem dX2_insert_78 : decode cX2_insert 78 = .ok (.iload_n 2, 1) := by decide +kernel
theorem dX2_insert_79 : decode cX2_insert 79 = .ok (.iastore, 1) := by decide +kernel
theorem dX2_insert_80 : decode cX2_insert 80 = .ok (.aload_n 0, 1) := by decide +kernel
theorem dX2_insert_81 : decode cX2_insert 81 = .ok (.dup, 1) := by decide +kernel
theorem dX2_insert_82 : decode cX2_insert 82 = .ok (.getfield 18, 3) := by decide +kernel
theorem dX2_insert_85 : decode cX2_insert 85 = .ok (.iconst 1, 1) := by decide +kernel
theorem dX2_insert_86 : decode cX2_insert 86 = .ok (.iadd, 1) := by decide +kernel
theorem dX2_insert_87 : decode cX2_insert 87 = .ok (.putfield 18, 3) := by decide +kernel
theorem dX2_insert_90 : decode cX2_insert 90 = .ok (.return_, 1) := by decide +kernel
theorem dX2_tell_0 : decode cX2_tell 0 = .ok (.iload_n 1, 1) := by decide +kernel
theorem dX2_tell_1 : decode cX2_tell 1 = .ok (.ifCond .lt 11, 3) := by decide +kernel
theorem dX2_tell_4 : decode cX2_tell 4 = .ok (.iload_n 1, 1) := by decide +kernel
theorem dX2_tell_5 : decode cX2_tell 5 = .ok (.aload_n 0, 1) := by decide +kernel
theorem dX2_tell_6 : decode cX2_tell 6 = .ok (.getfield 18, 3) := by decide +kernel
theorem dX2_tell_9 : decode cX2_tell 9 = .ok (.if_icmp .lt 5, 3) := by decide +kernel
theorem dX2_tell_12 : decode cX2_tell 12 = .ok (.iconst (-1), 1) := by decide +kernel
theorem dX2_tell_13 : decode cX2_tell 13 = .ok (.ireturn, 1) := by decide +kernel
theorem dX2_tell_14 : decode cX2_tell 14 = .ok (.iload_n 2, 1) := by decide +kernel
theorem dX2_tell_15 : decode cX2_tell 15 = .ok (.lookupswitch 39 #[(0, 25), (1, 32)], 25) := by decide +kernel
theorem dX2_tell_40 : decode cX2_tell 40 = .ok (.aload_n 0, 1) := by decide +kernel
theorem dX2_tell_41 : decode cX2_tell 41 = .ok (.getfield 9, 3) := by decide +kernel
theorem dX2_tell_44 : decode cX2_tell 44 = .ok (.iload_n 1, 1) := by decide +kernel
theorem dX2_tell_45 : decode cX2_tell 45 = .ok (.iaload, 1) := by decide +kernel
theorem dX2_tell_46 : decode cX2_tell 46 = .ok (.ireturn, 1) := by decide +kernel
theorem dX2_tell_47 : decode cX2_tell 47 = .ok (.aload_n 0, 1) := by decide +kernel
theorem dX2_tell_48 : decode cX2_tell 48 = .ok (.getfield 15, 3) := by decide +kernel
theorem dX2_tell_51 : decode cX2_tell 51 = .ok (.iload_n 1, 1) := by decide +kernel
theorem dX2_tell_52 : decode cX2_tell 52 = .ok (.iaload, 1) := by decide +kernel
theorem dX2_tell_53 : decode cX2_tell 53 = .ok (.ireturn, 1) := by decide +kernel
theorem dX2_tell_54 : decode cX2_tell 54 = .ok (.iconst (-1), 1) := by decide +kernel
theorem dX2_tell_55 : decode cX2_tell 55 = .ok (.ireturn, 1) := by decide +kernel
theorem dX3_init_0 : decode cX3_init 0 = .ok (.aload_n 0, 1) := by decide +kernel
theorem dX3_init_1 : decode cX3_init 1 = .ok (.invokespecial 3, 3) := by decide +kernel
theorem dX3_init_4 : decode cX3_init 4 = .ok (.aload_n 0, 1) := by decide +kernel
theorem dX3_init_5 : decode cX3_init 5 = .ok (.sipush 1000, 3) := by decide +kernel
theorem dX3_init_8 : decode cX3_init 8 = .ok (.newarray .int, 2) := by decide +kernel
theorem dX3_init_10 : decode cX3_init 10 = .ok (.putfield 9, 3) := by decide +kernel
theorem dX3_init_13 : decode cX3_init 13 = .ok (.aload_n 0, 1) := by decide +kernel
theorem dX3_init_14 : decode cX3_init 14 = .ok (.iconst 0, 1) := by decide +kernel
theorem dX3_init_15 : decode cX3_init 15 = .ok (.putfield 15, 3) := by decide +kernel
theorem dX3_init_18 : decode cX3_init 18 = .ok (.return_, 1) := by decide +kernel
theorem dX3_add_0 : decode cX3_add 0 = .ok (.aload_n 0, 1) := by decide +kernel
theorem dX3_add_1 : decode cX3_add 1 = .ok (.getfield 15, 3) := by decide +kernel
theorem dX3_add_4 : decode cX3_add 4 = .ok (.sipush 1000, 3) := by decide +kernel
theorem dX3_add_7 : decode cX3_add 7 = .ok (.if_icmp .ge 23, 3) := by decide +kernel
theorem dX3_add_10 : decode cX3_add 10 = .ok (.aload_n 0, 1) := by decide +kernel
theorem dX3_add_11 : decode cX3_add 11 = .ok (.getfield 9, 3) := by decide +kernel
theorem dX3_add_14 : decode cX3_add 14 = .ok (.aload_n 0, 1) := by decide +kernel
theorem dX3_add_15 : decode cX3_add 15 = .ok (.getfield 15, 3) := by decide +kernel
theorem dX3_add_18 : decode cX3_add 18 = .ok (.iload_n 1, 1) := by decide +kernel
theorem dX3_add_19 : decode cX3_add 19 = .ok (.bipush 16, 2) := by decide +kernel
theorem dX3_add_21 : decode cX3_add 21 = .ok (.ishl, 1) := by decide +kernel
theorem dX3_add_22 : decode cX3_add 22 = .ok (.iload_n 2, 1) := by decide +kernel
theorem dX3_add_23 : decode cX3_add 23 = .ok (.bipush 8, 2) := by decide +kernel
theorem dX3_add_25 : decode cX3_add 25 = .ok (.ishl, 1) := by decide +kernel
theorem dX3_add_26 : decode cX3_add 26 = .ok (.ior, 1) := by decide +kernel
theorem dX3_add_27 : decode cX3_add 27 = .ok (.iload_n 3, 1) := by decide +kernel
theorem dX3_add_28 : decode cX3_add 28 = .ok (.ior, 1) := by decide +kernel
theorem dX3_add_29 : decode cX3_add 29 = .ok (.iastore, 1) := by decide +kernel
theorem dX3_add_30 : decode cX3_add 30 = .ok (.aload_n 0, 1) := by decide +kernel
theorem dX3_add_31 : decode cX3_add 31 = .ok (.dup, 1) := by decide +kernel
theorem dX3_add_32 : decode cX3_add 32 = .ok (.getfield 15, 3) := by decide +kernel
theorem dX3_add_35 : decode cX3_add 35 = .ok (.iconst 1, 1) := by decide +kernel
theorem dX3_add_36 : decode cX3_add 36 = .ok (.iadd, 1) := by decide +kernel
theorem dX3_add_37 : decode cX3_add 37 = .ok (.putfield 15, 3) := by decide +kernel
theorem dX3_add_40 : decode cX3_add 40 = .ok (.return_, 1) := by decide +kernel
theorem dX3_tell_0 : decode cX3_tell 0 = .ok (.iload_n 1, 1) := by decide +kernel
theorem dX3_tell_1 : decode cX3_tell 1 = .ok (.ifCond .lt 18, 3) := by decide +kernel
theorem dX3_tell_4 : decode cX3_tell 4 = .ok (.iload_n 1, 1) := by decide +kernel
theorem dX3_tell_5 : decode cX3_tell 5 = .ok (.aload_n 0, 1) := by decide +kernel
theorem dX3_tell_6 : decode cX3_tell 6 = .ok (.getfield 15, 3) := by decide +kernel
theorem dX3_tell_9 : decode cX3_tell 9 = .ok (.if_icmp .ge 10, 3) := by decide +kernel
theorem dX3_tell_12 : decode cX3_tell 12 = .ok (.iload_n 1, 1) := by decide +kernel
theorem dX3_tell_13 : decode cX3_tell 13 = .ok (.sipush 1000, 3) := by decide +kernel
theorem dX3_tell_16 : decode cX3_tell 16 = .ok (.if_icmp .lt 5, 3) := by decide +kernel
theorem dX3_tell_19 : decode cX3_tell 19 = .ok (.iconst (-1), 1) := by decide +kernel
theorem dX3_tell_20 : decode cX3_tell 20 = .ok (.ireturn, 1) := by decide +kernel
theorem dX3_tell_21 : decode cX3_tell 21 = .ok (.iload_n 2, 1) := by decide +kernel
theorem dX3_tell_22 : decode cX3_tell 22 = .ok (.tableswitch 61 0 2 #[26, 36, 50], 26) := by decide +kernel
theorem dX3_tell_48 : decode cX3_tell 48 = .ok (.aload_n 0, 1) := by decide +kernel
theorem dX3_tell_49 : decode cX3_tell 49 = .ok (.getfield 9, 3) := by decide +kernel
theorem dX3_tell_52 : decode cX3_tell 52 = .ok (.iload_n 1, 1) := by decide +kernel
theorem dX3_tell_53 : decode cX3_tell 53 = .ok (.iaload, 1) := by decide +kernel
theorem dX3_tell_54 : decode cX3_tell 54 = .ok (.bipush 16, 2) := by decide +kernel
theorem dX3_tell_56 : decode cX3_tell 56 = .ok (.ishr, 1) := by decide +kernel
theorem dX3_tell_57 : decode cX3_tell 57 = .ok (.ireturn, 1) := by decide +kernel
theorem dX3_tell_58 : decode cX3_tell 58 = .ok (.aload_n 0, 1) := by decide +kernel
theorem dX3_tell_59 : decode cX3_tell 59 = .ok (.getfield 9, 3) := by decide +kernel
theorem dX3_tell_62 : decode cX3_tell 62 = .ok (.iload_n 1, 1) := by decide +kernel
theorem dX3_tell_63 : decode cX3_tell 63 = .ok (.iaload, 1) := by decide +kernel
theorem dX3_tell_64 : decode cX3_tell 64 = .ok (.bipush 8, 2) := by decide +kernel
theorem dX3_tell_66 : decode cX3_tell 66 = .ok (.ishr, 1) := by decide +kernel
theorem dX3_tell_67 : decode cX3_tell 67 = .ok (.sipush 255, 3) := by decide +kernel
theorem dX3_tell_70 : decode cX3_tell 70 = .ok (.iand, 1) := by decide +kernel
theorem dX3_tell_71 : decode cX3_tell 71 = .ok (.ireturn, 1) := by decide +kernel
theorem dX3_tell_72 : decode cX3_tell 72 = .ok (.aload_n 0, 1) := by decide +kernel
theorem dX3_tell_73 : decode cX3_tell 73 = .ok (.getfield 9, 3) := by decide +kernel
theorem dX3_tell_76 : decode cX3_tell 76 = .ok (.iload_n 1, 1) := by decide +kernel
theorem dX3_tell_77 : decode cX3_tell 77 = .ok (.iaload, 1) := by decide +kernel
theorem dX3_tell_78 : decode cX3_tell 78 = .ok (.sipush 255, 3) := by decide +kernel
theorem dX3_tell_81 : decode cX3_tell 81 = .ok (.iand, 1) := by decide +kernel
theorem dX3_tell_82 : decode cX3_tell 82 = .ok (.ireturn, 1) := by decide +kernel
theorem dX3_tell_83 : decode cX3_tell 83 = .ok (.iconst (-1), 1) := by decide +kernel
theorem dX3_tell_84 : decode cX3_tell 84 = .ok (.ireturn, 1) := by decide +kernel
theorem dX4_init_0 : decode cX4_init 0 = .ok (.aload_n 0, 1) := by decide +kernel
theorem dX4_init_1 : decode cX4_init 1 = .ok (.invokespecial 3, 3) := by decide +kernel
theorem dX4_init_4 : decode cX4_init 4 = .ok (.aload_n 0, 1) := by decide +kernel
theorem dX4_init_5 : decode cX4_init 5 = .ok (.bipush 60, 2) := by decide +kernel
theorem dX4_init_7 : decode cX4_init 7 = .ok (.newarray .int, 2) := by decide +kernel
theorem dX4_init_9 : decode cX4_init 9 = .ok (.putfield 9, 3) := by decide +kernel
theorem dX4_init_12 : decode cX4_init 12 = .ok (.aload_n 0, 1) := by decide +kernel
theorem dX4_init_13 : decode cX4_init 13 = .ok (.bipush 60, 2) := by decide +kernel
theorem dX4_init_15 : decode cX4_init 15 = .ok (.newarray .int, 2) := by decide +kernel
theorem dX4_init_17 : decode cX4_init 17 = .ok (.putfield 15, 3) := by decide +kernel
theorem dX4_init_20 : decode cX4_init 20 = .ok (.aload_n 0, 1) := by decide +kernel
theorem dX4_init_21 : decode cX4_init 21 = .ok (.bipush 60, 2) := by decide +kernel
theorem dX4_init_23 : decode cX4_init 23 = .ok (.newarray .int, 2) := by decide +kernel
theorem dX4_init_25 : decode cX4_init 25 = .ok (.putfield 18, 3) := by decide +kernel
theorem dX4_init_28 : decode cX4_init 28 = .ok (.aload_n 0, 1) := by decide +kernel
theorem dX4_init_29 : decode cX4_init 29 = .ok (.iconst 0, 1) := by decide +kernel
theorem dX4_init_30 : decode cX4_init 30 = .ok (.putfield 21, 3) := by decide +kernel
theorem dX4_init_33 : decode cX4_init 33 = .ok (.aload_n 0, 1) := by decide +kernel
theorem dX4_init_34 : decode cX4_init 34 = .ok (.iconst 0, 1) := by decide +kernel
theorem dX4_init_35 : decode cX4_init 35 = .ok (.putfield 25, 3) := by decide +kernel
theorem dX4_init_38 : decode cX4_init 38 = .ok (.aload_n 0, 1) := by decide +kernel
theorem dX4_init_39 : decode cX4_init 39 = .ok (.iconst (-1), 1) := by decide +kernel
theorem dX4_init_40 : decode cX4_init 40 = .ok (.putfield 28, 3) := by decide +kernel
theorem dX4_init_43 : decode cX4_init 43 = .ok (.aload_n 0, 1) := by decide +kernel
theorem dX4_init_44 : decode cX4_init 44 = .ok (.bipush 120, 2) := by decide +kernel
theorem dX4_init_46 : decode cX4_init 46 = .ok (.newarray .int, 2) := by decide +kernel
theorem dX4_init_48 : decode cX4_init 48 = .ok (.putfield 31, 3) := by decide +kernel
theorem dX4_init_51 : decode cX4_init 51 = .ok (.aload_n 0, 1) := by decide +kernel
theorem dX4_init_52 : decode cX4_init 52 = .ok (.iconst 0, 1) := by decide +kernel
theorem dX4_init_53 : decode cX4_init 53 = .ok (.putfield 34, 3) := by decide +kernel
theorem dX4_init_56 : decode cX4_init 56 = .ok (.aload_n 0, 1) := by decide +kernel
theorem dX4_init_57 : decode cX4_init 57 = .ok (.bipush 127, 2) := by decide +kernel
theorem dX4_init_59 : decode cX4_init 59 = .ok (.newarray .int, 2) := by decide +kernel
theorem dX4_init_61 : decode cX4_init 61 = .ok (.putfield 37, 3) := by decide +kernel
theorem dX4_init_64 : decode cX4_init 64 = .ok (.aload_n 0, 1) := by decide +kernel
theorem dX4_init_65 : decode cX4_init 65 = .ok (.bipush 120, 2) := by decide +kernel
theorem dX4_init_67 : decode cX4_init 67 = .ok (.newarray .int, 2) := by decide +kernel
theorem dX4_init_69 : decode cX4_init 69 = .ok (.putfield 40, 3) := by decide +kernel
theorem dX4_init_72 : decode cX4_init 72 = .ok (.aload_n 0, 1) := by decide +kernel
theorem dX4_init_73 : decode cX4_init 73 = .ok (.iconst 0, 1) := by decide +kernel
theorem dX4_init_74 : decode cX4_init 74 = .ok (.newarray .int, 2) := by decide +kernel
theorem dX4_init_76 : decode cX4_init 76 = .ok (.putfield 43, 3) := by decide +kernel
theorem dX4_init_79 : decode cX4_init 79 = .ok (.return_, 1) := by decide +kernel
theorem dX4_tell_0 : decode cX4_tell 0 = .ok (.aload_n 0, 1) := by decide +kernel
theorem dX4_tell_1 : decode cX4_tell 1 = .ok (.iload_n 1, 1) := by decide +kernel
theorem dX4_tell_2 : decode cX4_tell 2 = .ok (.iload_n 2, 1) := by decide +kernel
theorem dX4_tell_3 : decode cX4_tell 3 = .ok (.invokevirtual 46, 3) := by decide +kernel
theorem dX4_tell_6 : decode cX4_tell 6 = .ok (.istore 4, 2) := by decide +kernel
theorem dX4_tell_8 : decode cX4_tell 8 = .ok (.iload 4, 2) := by decide +kernel
theorem dX4_tell_10 : decode cX4_tell 10 = .ok (.iconst (-1), 1) := by decide +kernel
theorem dX4_tell_11 : decode cX4_tell 11 = .ok (.if_icmp .eq 33, 3) := by decide +kernel
theorem dX4_tell_14 : decode cX4_tell 14 = .ok (.aload_n 0, 1) := by decide +kernel
theorem dX4_tell_15 : decode cX4_tell 15 = .ok (.getfield 18, 3) := by decide +kernel
theorem dX4_tell_18 : decode cX4_tell 18 = .ok (.iload 4, 2) := by decide +kernel
theorem dX4_tell_20 : decode cX4_tell 20 = .ok (.iaload, 1) := by decide +kernel
theorem dX4_tell_21 : decode cX4_tell 21 = .ok (.istore 5, 2) := by decide +kernel
theorem dX4_tell_23 : decode cX4_tell 23 = .ok (.aload_n 0, 1) := by decide +kernel
theorem dX4_tell_24 : decode cX4_tell 24 = .ok (.getfield 18, 3) := by decide +kernel
theorem dX4_tell_27 : decode cX4_tell 27 = .ok (.iload 4, 2) := by decide +kernel
theorem dX4_tell_29 : decode cX4_tell 29 = .ok (.iload_n 3, 1) := by decide +kernel
theorem dX4_tell_30 : decode cX4_tell 30 = .ok (.iastore, 1) := by decide +kernel
theorem dX4_tell_31 : decode cX4_tell 31 = .ok (.aload_n 0, 1) := by decide +kernel
theorem dX4_tell_32 : decode cX4_tell 32 = .ok (.dup, 1) := by decide +kernel
theorem dX4_tell_33 : decode cX4_tell 33 = .ok (.getfield 25, 3) := by decide +kernel
theorem dX4_tell_36 : decode cX4_tell 36 = .ok (.iconst 1, 1) := by decide +kernel
theorem dX4_tell_37 : decode cX4_tell 37 = .ok (.iadd, 1) := by decide +kernel
theorem dX4_tell_38 : decode cX4_tell 38 = .ok (.putfield 25, 3) := by decide +kernel
theorem dX4_tell_41 : decode cX4_tell 41 = .ok (.iload 5, 2) := by decide +kernel
theorem dX4_tell_43 : decode cX4_tell 43 = .ok (.ireturn, 1) := by decide +kernel
theorem dX4_tell_44 : decode cX4_tell 44 = .ok (.aload_n 0, 1) := by decide +kernel
theorem dX4_tell_45 : decode cX4_tell 45 = .ok (.getfield 21, 3) := by decide +kernel
theorem dX4_tell_48 : decode cX4_tell 48 = .ok (.bipush 60, 2) := by decide +kernel
theorem dX4_tell_50 : decode cX4_tell 50 = .ok (.if_icmp .lt 6, 3) := by decide +kernel
theorem dX4_tell_53 : decode cX4_tell 53 = .ok (.bipush (-3), 2) := by decide +kernel
theorem dX4_tell_55 : decode cX4_tell 55 = .ok (.ireturn, 1) := by decide +kernel
theorem dX4_tell_56 : decode cX4_tell 56 = .ok (.aload_n 0, 1) := by decide +kernel
theorem dX4_tell_57 : decode cX4_tell 57 = .ok (.getfield 9, 3) := by decide +kernel
theorem dX4_tell_60 : decode cX4_tell 60 = .ok (.aload_n 0, 1) := by decide +kernel
theorem dX4_tell_61 : decode cX4_tell 61 = .ok (.getfield 21, 3) := by decide +kernel
theorem dX4_tell_64 : decode cX4_tell 64 = .ok (.iload_n 1, 1) := by decide +kernel
theorem dX4_tell_65 : decode cX4_tell 65 = .ok (.iastore, 1) := by decide +kernel
theorem dX4_tell_66 : decode cX4_tell 66 = .ok (.aload_n 0, 1) := by decide +kernel
theorem dX4_tell_67 : decode cX4_tell 67 = .ok (.getfield 15, 3) := by decide +kernel
theorem dX4_tell_70 : decode cX4_tell 70 = .ok (.aload_n 0, 1) := by decide +kernel
theorem dX4_tell_71 : decode cX4_tell 71 = .ok (.getfield 21, 3) := by decide +kernel
theorem dX4_tell_74 : decode cX4_tell 74 = .ok (.iload_n 2, 1) := by decide +kernel
theorem dX4_tell_75 : decode cX4_tell 75 = .ok (.iastore, 1) := by decide +kernel
theorem dX4_tell_76 : decode cX4_tell 76 = .ok (.aload_n 0, 1) := by decide +kernel
theorem dX4_tell_77 : decode cX4_tell 77 = .ok (.getfield 18, 3) := by decide +kernel
theorem dX4_tell_80 : decode cX4_tell 80 = .ok (.aload_n 0, 1) := by decide +kernel
theorem dX4_tell_81 : decode cX4_tell 81 = .ok (.getfield 21, 3) := by decide +kernel
theorem dX4_tell_84 : decode cX4_tell 84 = .ok (.iload_n 3, 1) := by decide +kernel
theorem dX4_tell_85 : decode cX4_tell 85 = .ok (.iastore, 1) := by decide +kernel
theorem dX4_tell_86 : decode cX4_tell 86 = .ok (.aload_n 0, 1) := by decide +kernel
theorem dX4_tell_87 : decode cX4_tell 87 = .ok (.dup, 1) := by decide +kernel
theorem dX4_tell_88 : decode cX4_tell 88 = .ok (.getfield 21, 3) := by decide +kernel
theorem dX4_tell_91 : decode cX4_tell 91 = .ok (.iconst 1, 1) := by decide +kernel
theorem dX4_tell_92 : decode cX4_tell 92 = .ok (.iadd, 1) := by decide +kernel
theorem dX4_tell_93 : decode cX4_tell 93 = .ok (.putfield 21, 3) := by decide +kernel
theorem dX4_tell_96 : decode cX4_tell 96 = .ok (.aload_n 0, 1) := by decide +kernel
theorem dX4_tell_97 : decode cX4_tell 97 = .ok (.dup, 1) := by decide +kernel
theorem dX4_tell_98 : decode cX4_tell 98 = .ok (.getfield 25, 3) := by decide +kernel
theorem dX4_tell_101 : decode cX4_tell 101 = .ok (.iconst 1, 1) := by decide +kernel
theorem dX4_tell_102 : decode cX4_tell 102 = .ok (.iadd, 1) := by decide +kernel
theorem dX4_tell_103 : decode cX4_tell 103 = .ok (.putfield 25, 3) := by decide +kernel
theorem dX4_tell_106 : decode cX4_tell 106 = .ok (.iconst (-1), 1) := by decide +kernel
theorem dX4_tell_107 : decode cX4_tell 107 = .ok (.ireturn, 1) := by decide +kernel
theorem dX4_forget_0 : decode cX4_forget 0 = .ok (.aload_n 0, 1) := by decide +kernel
theorem dX4_forget_1 : decode cX4_forget 1 = .ok (.iload_n 1, 1) := by decide +kernel
theorem dX4_forget_2 : decode cX4_forget 2 = .ok (.iload_n 2, 1) := by decide +kernel
theorem dX4_forget_3 : decode cX4_forget 3 = .ok (.invokevirtual 46, 3) := by decide +kernel
theorem dX4_forget_6 : decode cX4_forget 6 = .ok (.istore_n 3, 1) := by decide +kernel
theorem dX4_forget_7 : decode cX4_forget 7 = .ok (.iload_n 3, 1) := by decide +kernel
theorem dX4_forget_8 : decode cX4_forget 8 = .ok (.iconst (-1), 1) := by decide +kernel
theorem dX4_forget_9 : decode cX4_forget 9 = .ok (.if_icmp .ne 5, 3) := by decide +kernel
theorem dX4_forget_12 : decode cX4_forget 12 = .ok (.iconst (-1), 1) := by decide +kernel
theorem dX4_forget_13 : decode cX4_forget 13 = .ok (.ireturn, 1) := by decide +kernel
theorem dX4_forget_14 : decode cX4_forget 14 = .ok (.aload_n 0, 1) := by decide +kernel
theorem dX4_forget_15 : decode cX4_forget 15 = .ok (.getfield 18, 3) := by decide +kernel
theorem dX4_forget_18 : decode cX4_forget 18 = .ok (.iload_n 3, 1) := by decide +kernel
theorem dX4_forget_19 : decode cX4_forget 19 = .ok (.iaload, 1) := by decide +kernel
theorem dX4_forget_20 : decode cX4_forget 20 = .ok (.istore 4, 2) := by decide +kernel
theorem dX4_forget_22 : decode cX4_forget 22 = .ok (.aload_n 0, 1) := by decide +kernel
theorem dX4_forget_23 : decode cX4_forget 23 = .ok (.dup, 1) := by decide +kernel
theorem dX4_forget_24 : decode cX4_forget 24 = .ok (.getfield 21, 3) := by decide +kernel
theorem dX4_forget_27 : decode cX4_forget 27 = .ok (.iconst 1, 1) := by decide +kernel
theorem dX4_forget_28 : decode cX4_forget 28 = .ok (.isub, 1) := by decide +kernel
theorem dX4_forget_29 : decode cX4_forget 29 = .ok (.putfield 21, 3) := by decide +kernel
theorem dX4_forget_32 : decode cX4_forget 32 = .ok (.aload_n 0, 1) := by decide +kernel
theorem dX4_forget_33 : decode cX4_forget 33 = .ok (.getfield 9, 3) := by decide +kernel
theorem dX4_forget_36 : decode cX4_forget 36 = .ok (.iload_n 3, 1) := by decide +kernel
theorem dX4_forget_37 : decode cX4_forget 37 = .ok (.aload_n 0, 1) := by decide +kernel
theorem dX4_forget_38 : decode cX4_forget 38 = .ok (.getfield 9, 3) := by decide +kernel
theorem dX4_forget_41 : decode cX4_forget 41 = .ok (.aload_n 0, 1) := by decide +kernel
theorem dX4_forget_42 : decode cX4_forget 42 = .ok (.getfield 21, 3) := by decide +kernel
theorem dX4_forget_45 : decode cX4_forget 45 = .ok (.iaload, 1) := by decide +kernel
theorem dX4_forget_46 : decode cX4_forget 46 = .ok (.iastore, 1) := by decide +kernel
theorem dX4_forget_47 : decode cX4_forget 47 = .ok (.aload_n 0, 1) := by decide +kernel
theorem dX4_forget_48 : decode cX4_forget 48 = .ok (.getfield 15, 3) := by decide +kernel
theorem dX4_forget_51 : decode cX4_forget 51 = .ok (.iload_n 3, 1) := by decide +kernel
theorem dX4_forget_52 : decode cX4_forget 52 = .ok (.aload_n 0, 1) := by decide +kernel
theorem dX4_forget_53 : decode cX4_forget 53 = .ok (.getfield 15, 3) := by decide +kernel
theorem dX4_forget_56 : decode cX4_forget 56 = .ok (.aload_n 0, 1) := by decide +kernel
theorem dX4_forget_57 : decode cX4_forget 57 = .ok (.getfield 21, 3) := by decide +kernel
theorem dX4_forget_60 : decode cX4_forget 60 = .ok (.iaload, 1) := by decide +kernel
theorem dX4_forget_61 : decode cX4_forget 61 = .ok (.iastore, 1) := by decide +kernel
theorem dX4_forget_62 : decode cX4_forget 62 = .ok (.aload_n 0, 1) := by decide +kernel
theorem dX4_forget_63 : decode cX4_forget 63 = .ok (.getfield 18, 3) := by decide +kernel
theorem dX4_forget_66 : decode cX4_forget 66 = .ok (.iload_n 3, 1) := by decide +kernel
theorem dX4_forget_67 : decode cX4_forget 67 = .ok (.aload_n 0, 1) := by decide +kernel
theorem dX4_forget_68 : decode cX4_forget 68 = .ok (.getfield 18, 3) := by decide +kernel
theorem dX4_forget_71 : decode cX4_forget 71 = .ok (.aload_n 0, 1) := by decide +kernel
theorem dX4_forget_72 : decode cX4_forget 72 = .ok (.getfield 21, 3) := by decide +kernel
theorem dX4_forget_75 : decode cX4_forget 75 = .ok (.iaload, 1) := by decide +kernel
theorem dX4_forget_76 : decode cX4_forget 76 = .ok (.iastore, 1) := by decide +kernel
theorem dX4_forget_77 : decode cX4_forget 77 = .ok (.aload_n 0, 1) := by decide +kernel
theorem dX4_forget_78 : decode cX4_forget 78 = .ok (.dup, 1) := by decide +kernel
theorem dX4_forget_79 : decode cX4_forget 79 = .ok (.getfield 25, 3) := by decide +kernel
theorem dX4_forget_82 : decode cX4_forget 82 = .ok (.iconst 1, 1) := by decide +kernel
theorem dX4_forget_83 : decode cX4_forget 83 = .ok (.iadd, 1) := by decide +kernel
theorem dX4_forget_84 : decode cX4_forget 84 = .ok (.putfield 25, 3) := by decide +kernel
theorem dX4_forget_87 : decode cX4_forget 87 = .ok (.iload 4, 2) := by decide +kernel
theorem dX4_forget_89 : decode cX4_forget 89 = .ok (.ireturn, 1) := by decide +kernel
theorem dX4_placeOf_0 : decode cX4_placeOf 0 = .ok (.iconst 0, 1) := by decide +kernel
theorem dX4_placeOf_1 : decode cX4_placeOf 1 = .ok (.istore_n 3, 1) := by decide +kernel
theorem dX4_placeOf_2 : decode cX4_placeOf 2 = .ok (.iload_n 3, 1) := by decide +kernel
theorem dX4_placeOf_3 : decode cX4_placeOf 3 = .ok (.aload_n 0, 1) := by decide +kernel
theorem dX4_placeOf_4 : decode cX4_placeOf 4 = .ok (.getfield 21, 3) := by decide +kernel
theorem dX4_placeOf_7 : decode cX4_placeOf 7 = .ok (.if_icmp .ge 51, 3) := by decide +kernel
theorem dX4_placeOf_10 : decode cX4_placeOf 10 = .ok (.aload_n 0, 1) := by decide +kernel
theorem dX4_placeOf_11 : decode cX4_placeOf 11 = .ok (.getfield 9, 3) := by decide +kernel
theorem dX4_placeOf_14 : decode cX4_placeOf 14 = .ok (.iload_n 3, 1) := by decide +kernel
theorem dX4_placeOf_15 : decode cX4_placeOf 15 = .ok (.iaload, 1) := by decide +kernel
theorem dX4_placeOf_16 : decode cX4_placeOf 16 = .ok (.iload_n 1, 1) := by decide +kernel
theorem dX4_placeOf_17 : decode cX4_placeOf 17 = .ok (.if_icmp .ne 13, 3) := by decide +kernel
theorem dX4_placeOf_20 : decode cX4_placeOf 20 = .ok (.aload_n 0, 1) := by decide +kernel
theorem dX4_placeOf_21 : decode cX4_placeOf 21 = .ok (.getfield 15, 3) := by decide +kernel
theorem dX4_placeOf_24 : decode cX4_placeOf 24 = .ok (.iload_n 3, 1) := by decide +kernel
theorem dX4_placeOf_25 : decode cX4_placeOf 25 = .ok (.iaload, 1) := by decide +kernel
theorem dX4_placeOf_26 : decode cX4_placeOf 26 = .ok (.iload_n 2, 1) := by decide +kernel
theorem dX4_placeOf_27 : decode cX4_placeOf 27 = .ok (.if_icmp .eq 23, 3) := by decide +kernel
theorem dX4_placeOf_30 : decode cX4_placeOf 30 = .ok (.aload_n 0, 1) := by decide +kernel
theorem dX4_placeOf_31 : decode cX4_placeOf 31 = .ok (.getfield 9, 3) := by decide +kernel
theorem dX4_placeOf_34 : decode cX4_placeOf 34 = .ok (.iload_n 3, 1) := by decide +kernel
theorem dX4_placeOf_35 : decode cX4_placeOf 35 = .ok (.iaload, 1) := by decide +kernel
theorem dX4_placeOf_36 : decode cX4_placeOf 36 = .ok (.iload_n 2, 1) := by decide +kernel
theorem dX4_placeOf_37 : decode cX4_placeOf 37 = .ok (.if_icmp .ne 15, 3) := by decide +kernel
theorem dX4_placeOf_40 : decode cX4_placeOf 40 = .ok (.aload_n 0, 1) := by decide +kernel
theorem dX4_placeOf_41 : decode cX4_placeOf 41 = .ok (.getfield 15, 3) := by decide +kernel
theorem dX4_placeOf_44 : decode cX4_placeOf 44 = .ok (.iload_n 3, 1) := by decide +kernel
theorem dX4_placeOf_45 : decode cX4_placeOf 45 = .ok (.iaload, 1) := by decide +kernel
theorem dX4_placeOf_46 : decode cX4_placeOf 46 = .ok (.iload_n 1, 1) := by decide +kernel
theorem dX4_placeOf_47 : decode cX4_placeOf 47 = .ok (.if_icmp .ne 5, 3) := by decide +kernel
theorem dX4_placeOf_50 : decode cX4_placeOf 50 = .ok (.iload_n 3, 1) := by decide +kernel
theorem dX4_placeOf_51 : decode cX4_placeOf 51 = .ok (.ireturn, 1) := by decide +kernel
theorem dX4_placeOf_52 : decode cX4_placeOf 52 = .ok (.iinc 3 1, 3) := by decide +kernel
theorem dX4_placeOf_55 : decode cX4_placeOf 55 = .ok (.goto (-53), 3) := by decide +kernel
theorem dX4_placeOf_58 : decode cX4_placeOf 58 = .ok (.iconst (-1), 1) := by decide +kernel
theorem dX4_placeOf_59 : decode cX4_placeOf 59 = .ok (.ireturn, 1) := by decide +kernel
theorem dX4_countPieces_0 : decode cX4_countPieces 0 = .ok (.aload_n 0, 1) := by decide +kernel
theorem dX4_countPieces_1 : decode cX4_countPieces 1 = .ok (.invokevirtual 50, 3) := by decide +kernel
theorem dX4_countPieces_4 : decode cX4_countPieces 4 = .ok (.aload_n 0, 1) := by decide +kernel
theorem dX4_countPieces_5 : decode cX4_countPieces 5 = .ok (.getfield 34, 3) := by decide +kernel
theorem dX4_countPieces_8 : decode cX4_countPieces 8 = .ok (.ireturn, 1) := by decide +kernel
theorem dX4_closeChains_0 : decode cX4_closeChains 0 = .ok (.aload_n 0, 1) := by decide +kernel
theorem dX4_closeChains_1 : decode cX4_closeChains 1 = .ok (.getfield 28, 3) := by decide +kernel
theorem dX4_closeChains_4 : decode cX4_closeChains 4 = .ok (.aload_n 0, 1) := by decide +kernel
theorem dX4_closeChains_5 : decode cX4_closeChains 5 = .ok (.getfield 25, 3) := by decide +kernel
theorem dX4_closeChains_8 : decode cX4_closeChains 8 = .ok (.if_icmp .ne 4, 3) := by decide +kernel
theorem dX4_closeChains_11 : decode cX4_closeChains 11 = .ok (.return_, 1) := by decide +kernel
theorem dX4_closeChains_12 : decode cX4_closeChains 12 = .ok (.aload_n 0, 1) := by decide +kernel
theorem dX4_closeChains_13 : decode cX4_closeChains 13 = .ok (.aload_n 0, 1) := by decide +kernel
theorem dX4_closeChains_14 : decode cX4_closeChains 14 = .ok (.getfield 25, 3) := by decide +kernel
theorem dX4_closeChains_17 : decode cX4_closeChains 17 = .ok (.putfield 28, 3) := by decide +kernel
theorem dX4_closeChains_20 : decode cX4_closeChains 20 = .ok (.aload_n 0, 1) := by decide +kernel
theorem dX4_closeChains_21 : decode cX4_closeChains 21 = .ok (.iconst 0, 1) := by decide +kernel
theorem dX4_closeChains_22 : decode cX4_closeChains 22 = .ok (.putfield 34, 3) := by decide +kernel
theorem dX4_closeChains_25 : decode cX4_closeChains 25 = .ok (.aload_n 0, 1) := by decide +kernel
theorem dX4_closeChains_26 : decode cX4_closeChains 26 = .ok (.getfield 37, 3) := by decide +kernel
theorem dX4_closeChains_29 : decode cX4_closeChains 29 = .ok (.iconst (-1), 1) := by decide +kernel
theorem dX4_closeChains_30 : decode cX4_closeChains 30 = .ok (.invokestatic 53, 3) := by decide +kernel
theorem dX4_closeChains_33 : decode cX4_closeChains 33 = .ok (.iconst 0, 1) := by decide +kernel
theorem dX4_closeChains_34 : decode cX4_closeChains 34 = .ok (.istore_n 1, 1) := by decide +kernel
theorem dX4_closeChains_35 : decode cX4_closeChains 35 = .ok (.iload_n 1, 1) := by decide +kernel
theorem dX4_closeChains_36 : decode cX4_closeChains 36 = .ok (.aload_n 0, 1) := by decide +kernel
theorem dX4_closeChains_37 : decode cX4_closeChains 37 = .ok (.getfield 21, 3) := by decide +kernel
theorem dX4_closeChains_40 : decode cX4_closeChains 40 = .ok (.if_icmp .ge 29, 3) := by decide +kernel
theorem dX4_closeChains_43 : decode cX4_closeChains 43 = .ok (.aload_n 0, 1) := by decide +kernel
theorem dX4_closeChains_44 : decode cX4_closeChains 44 = .ok (.aload_n 0, 1) := by decide +kernel
theorem dX4_closeChains_45 : decode cX4_closeChains 45 = .ok (.getfield 9, 3) := by decide +kernel
theorem dX4_closeChains_48 : decode cX4_closeChains 48 = .ok (.iload_n 1, 1) := by decide +kernel
theorem dX4_closeChains_49 : decode cX4_closeChains 49 = .ok (.iaload, 1) := by decide +kernel
theorem dX4_closeChains_50 : decode cX4_closeChains 50 = .ok (.invokevirtual 59, 3) := by decide +kernel
theorem dX4_closeChains_53 : decode cX4_closeChains 53 = .ok (.aload_n 0, 1) := by decide +kernel
theorem dX4_closeChains_54 : decode cX4_closeChains 54 = .ok (.aload_n 0, 1) := by decide +kernel
theorem dX4_closeChains_55 : decode cX4_closeChains 55 = .ok (.getfield 15, 3) := by decide +kernel
theorem dX4_closeChains_58 : decode cX4_closeChains 58 = .ok (.iload_n 1, 1) := by decide +kernel
theorem dX4_closeChains_59 : decode cX4_closeChains 59 = .ok (.iaload, 1) := by decide +kernel
theorem dX4_closeChains_60 : decode cX4_closeChains 60 = .ok (.invokevirtual 59, 3) := by decide +kernel
theorem dX4_closeChains_63 : decode cX4_closeChains 63 = .ok (.iinc 1 1, 3) := by decide +kernel
theorem dX4_closeChains_66 : decode cX4_closeChains 66 = .ok (.goto (-31), 3) := by decide +kernel
theorem dX4_closeChains_69 : decode cX4_closeChains 69 = .ok (.aload_n 0, 1) := by decide +kernel
theorem dX4_closeChains_70 : decode cX4_closeChains 70 = .ok (.invokevirtual 63, 3) := by decide +kernel
theorem dX4_closeChains_73 : decode cX4_closeChains 73 = .ok (.iconst 0, 1) := by decide +kernel
theorem dX4_closeChains_74 : decode cX4_closeChains 74 = .ok (.istore_n 1, 1) := by decide +kernel
theorem dX4_closeChains_75 : decode cX4_closeChains 75 = .ok (.iload_n 1, 1) := by decide +kernel
theorem dX4_closeChains_76 : decode cX4_closeChains 76 = .ok (.aload_n 0, 1) := by decide +kernel
theorem dX4_closeChains_77 : decode cX4_closeChains 77 = .ok (.getfield 34, 3) := by decide +kernel
theorem dX4_closeChains_80 : decode cX4_closeChains 80 = .ok (.if_icmp .ge 14, 3) := by decide +kernel
theorem dX4_closeChains_83 : decode cX4_closeChains 83 = .ok (.aload_n 0, 1) := by decide +kernel
theorem dX4_closeChains_84 : decode cX4_closeChains 84 = .ok (.iload_n 1, 1) := by decide +kernel
theorem dX4_closeChains_85 : decode cX4_closeChains 85 = .ok (.invokevirtual 66, 3) := by decide +kernel
theorem dX4_closeChains_88 : decode cX4_closeChains 88 = .ok (.iinc 1 1, 3) := by decide +kernel
theorem dX4_closeChains_91 : decode cX4_closeChains 91 = .ok (.goto (-16), 3) := by decide +kernel
theorem dX4_closeChains_94 : decode cX4_closeChains 94 = .ok (.return_, 1) := by decide +kernel
theorem dX4_addPiece_0 : decode cX4_addPiece 0 = .ok (.iload_n 1, 1) := by decide +kernel
theorem dX4_addPiece_1 : decode cX4_addPiece 1 = .ok (.invokestatic 69, 3) := by decide +kernel
theorem dX4_addPiece_4 : decode cX4_addPiece 4 = .ok (.istore_n 2, 1) := by decide +kernel
theorem dX4_addPiece_5 : decode cX4_addPiece 5 = .ok (.iload_n 2, 1) := by decide +kernel
theorem dX4_addPiece_6 : decode cX4_addPiece 6 = .ok (.invokestatic 73, 3) := by decide +kernel
theorem dX4_addPiece_9 : decode cX4_addPiece 9 = .ok (.ifCond .eq 21, 3) := by decide +kernel
theorem dX4_addPiece_12 : decode cX4_addPiece 12 = .ok (.aload_n 0, 1) := by decide +kernel
theorem dX4_addPiece_13 : decode cX4_addPiece 13 = .ok (.getfield 34, 3) := by decide +kernel
theorem dX4_addPiece_16 : decode cX4_addPiece 16 = .ok (.bipush 120, 2) := by decide +kernel
theorem dX4_addPiece_18 : decode cX4_addPiece 18 = .ok (.if_icmp .ge 12, 3) := by decide +kernel
theorem dX4_addPiece_21 : decode cX4_addPiece 21 = .ok (.aload_n 0, 1) := by decide +kernel
theorem dX4_addPiece_22 : decode cX4_addPiece 22 = .ok (.iload_n 1, 1) := by decide +kernel
theorem dX4_addPiece_23 : decode cX4_addPiece 23 = .ok (.invokevirtual 77, 3) := by decide +kernel
theorem dX4_addPiece_26 : decode cX4_addPiece 26 = .ok (.iconst (-1), 1) := by decide +kernel
theorem dX4_addPiece_27 : decode cX4_addPiece 27 = .ok (.if_icmp .eq 4, 3) := by decide +kernel
theorem dX4_addPiece_30 : decode cX4_addPiece 30 = .ok (.return_, 1) := by decide +kernel
theorem dX4_addPiece_31 : decode cX4_addPiece 31 = .ok (.aload_n 0, 1) := by decide +kernel
theorem dX4_addPiece_32 : decode cX4_addPiece 32 = .ok (.getfield 31, 3) := by decide +kernel
theorem dX4_addPiece_35 : decode cX4_addPiece 35 = .ok (.aload_n 0, 1) := by decide +kernel
theorem dX4_addPiece_36 : decode cX4_addPiece 36 = .ok (.getfield 34, 3) := by decide +kernel
theorem dX4_addPiece_39 : decode cX4_addPiece 39 = .ok (.iload_n 1, 1) := by decide +kernel
theorem dX4_addPiece_40 : decode cX4_addPiece 40 = .ok (.iastore, 1) := by decide +kernel
theorem dX4_addPiece_41 : decode cX4_addPiece 41 = .ok (.aload_n 0, 1) := by decide +kernel
theorem dX4_addPiece_42 : decode cX4_addPiece 42 = .ok (.getfield 40, 3) := by decide +kernel
theorem dX4_addPiece_45 : decode cX4_addPiece 45 = .ok (.aload_n 0, 1) := by decide +kernel
theorem dX4_addPiece_46 : decode cX4_addPiece 46 = .ok (.getfield 34, 3) := by decide +kernel
theorem dX4_addPiece_49 : decode cX4_addPiece 49 = .ok (.aload_n 0, 1) := by decide +kernel
theorem dX4_addPiece_50 : decode cX4_addPiece 50 = .ok (.getfield 37, 3) := by decide +kernel
theorem dX4_addPiece_53 : decode cX4_addPiece 53 = .ok (.iload_n 2, 1) := by decide +kernel
theorem dX4_addPiece_54 : decode cX4_addPiece 54 = .ok (.iaload, 1) := by decide +kernel
theorem dX4_addPiece_55 : decode cX4_addPiece 55 = .ok (.iastore, 1) := by decide +kernel
theorem dX4_addPiece_56 : decode cX4_addPiece 56 = .ok (.aload_n 0, 1) := by decide +kernel
theorem dX4_addPiece_57 : decode cX4_addPiece 57 = .ok (.getfield 37, 3) := by decide +kernel
theorem dX4_addPiece_60 : decode cX4_addPiece 60 = .ok (.iload_n 2, 1) := by decide +kernel
theorem dX4_addPiece_61 : decode cX4_addPiece 61 = .ok (.aload_n 0, 1) := by decide +kernel
theorem dX4_addPiece_62 : decode cX4_addPiece 62 = .ok (.getfield 34, 3) := by decide +kernel
theorem dX4_addPiece_65 : decode cX4_addPiece 65 = .ok (.iastore, 1) := by decide +kernel
theorem dX4_addPiece_66 : decode cX4_addPiece 66 = .ok (.aload_n 0, 1) := by decide +kernel
theorem dX4_addPiece_67 : decode cX4_addPiece 67 = .ok (.dup, 1) := by decide +kernel
theorem dX4_addPiece_68 : decode cX4_addPiece 68 = .ok (.getfield 34, 3) := by decide +kernel
theorem dX4_addPiece_71 : decode cX4_addPiece 71 = .ok (.iconst 1, 1) := by decide +kernel
theorem dX4_addPiece_72 : decode cX4_addPiece 72 = .ok (.iadd, 1) := by decide +kernel
theorem dX4_addPiece_73 : decode cX4_addPiece 73 = .ok (.putfield 34, 3) := by decide +kernel
theorem dX4_addPiece_76 : decode cX4_addPiece 76 = .ok (.return_, 1) := by decide +kernel
theorem dX4_indexOf_0 : decode cX4_indexOf 0 = .ok (.iload_n 1, 1) := by decide +kernel
theorem dX4_indexOf_1 : decode cX4_indexOf 1 = .ok (.invokestatic 69, 3) := by decide +kernel
theorem dX4_indexOf_4 : decode cX4_indexOf 4 = .ok (.istore_n 2, 1) := by decide +kernel
theorem dX4_indexOf_5 : decode cX4_indexOf 5 = .ok (.iload_n 2, 1) := by decide +kernel
theorem dX4_indexOf_6 : decode cX4_indexOf 6 = .ok (.invokestatic 73, 3) := by decide +kernel
theorem dX4_indexOf_9 : decode cX4_indexOf 9 = .ok (.ifCond .eq 12, 3) := by decide +kernel
theorem dX4_indexOf_12 : decode cX4_indexOf 12 = .ok (.aload_n 0, 1) := by decide +kernel
theorem dX4_indexOf_13 : decode cX4_indexOf 13 = .ok (.getfield 37, 3) := by decide +kernel
theorem dX4_indexOf_16 : decode cX4_indexOf 16 = .ok (.iload_n 2, 1) := by decide +kernel
theorem dX4_indexOf_17 : decode cX4_indexOf 17 = .ok (.iaload, 1) := by decide +kernel
theorem dX4_indexOf_18 : decode cX4_indexOf 18 = .ok (.goto 4, 3) := by decide +kernel
theorem dX4_indexOf_21 : decode cX4_indexOf 21 = .ok (.iconst (-1), 1) := by decide +kernel
theorem dX4_indexOf_22 : decode cX4_indexOf 22 = .ok (.istore_n 3, 1) := by decide +kernel
theorem dX4_indexOf_23 : decode cX4_indexOf 23 = .ok (.iconst 0, 1) := by decide +kernel
theorem dX4_indexOf_24 : decode cX4_indexOf 24 = .ok (.istore 4, 2) := by decide +kernel
theorem dX4_indexOf_26 : decode cX4_indexOf 26 = .ok (.iload 4, 2) := by decide +kernel
theorem dX4_indexOf_28 : decode cX4_indexOf 28 = .ok (.aload_n 0, 1) := by decide +kernel
theorem dX4_indexOf_29 : decode cX4_indexOf 29 = .ok (.getfield 34, 3) := by decide +kernel
theorem dX4_indexOf_32 : decode cX4_indexOf 32 = .ok (.if_icmp .ge 40, 3) := by decide +kernel
theorem dX4_indexOf_35 : decode cX4_indexOf 35 = .ok (.iload_n 3, 1) := by decide +kernel
theorem dX4_indexOf_36 : decode cX4_indexOf 36 = .ok (.ifCond .lt 36, 3) := by decide +kernel
theorem dX4_indexOf_39 : decode cX4_indexOf 39 = .ok (.iload_n 3, 1) := by decide +kernel
theorem dX4_indexOf_40 : decode cX4_indexOf 40 = .ok (.aload_n 0, 1) := by decide +kernel
theorem dX4_indexOf_41 : decode cX4_indexOf 41 = .ok (.getfield 34, 3) := by decide +kernel
theorem dX4_indexOf_44 : decode cX4_indexOf 44 = .ok (.if_icmp .ge 28, 3) := by decide +kernel
theorem dX4_indexOf_47 : decode cX4_indexOf 47 = .ok (.aload_n 0, 1) := by decide +kernel
theorem dX4_indexOf_48 : decode cX4_indexOf 48 = .ok (.getfield 31, 3) := by decide +kernel
theorem dX4_indexOf_51 : decode cX4_indexOf 51 = .ok (.iload_n 3, 1) := by decide +kernel
theorem dX4_indexOf_52 : decode cX4_indexOf 52 = .ok (.iaload, 1) := by decide +kernel
theorem dX4_indexOf_53 : decode cX4_indexOf 53 = .ok (.iload_n 1, 1) := by decide +kernel
theorem dX4_indexOf_54 : decode cX4_indexOf 54 = .ok (.if_icmp .ne 5, 3) := by decide +kernel
theorem dX4_indexOf_57 : decode cX4_indexOf 57 = .ok (.iload_n 3, 1) := by decide +kernel
theorem dX4_indexOf_58 : decode cX4_indexOf 58 = .ok (.ireturn, 1) := by decide +kernel
theorem dX4_indexOf_59 : decode cX4_indexOf 59 = .ok (.aload_n 0, 1) := by decide +kernel
theorem dX4_indexOf_60 : decode cX4_indexOf 60 = .ok (.getfield 40, 3) := by decide +kernel
theorem dX4_indexOf_63 : decode cX4_indexOf 63 = .ok (.iload_n 3, 1) := by decide +kernel
theorem dX4_indexOf_64 : decode cX4_indexOf 64 = .ok (.iaload, 1) := by decide +kernel
theorem dX4_indexOf_65 : decode cX4_indexOf 65 = .ok (.istore_n 3, 1) := by decide +kernel
theorem dX4_indexOf_66 : decode cX4_indexOf 66 = .ok (.iinc 4 1, 3) := by decide +kernel
theorem dX4_indexOf_69 : decode cX4_indexOf 69 = .ok (.goto (-43), 3) := by decide +kernel
theorem dX4_indexOf_72 : decode cX4_indexOf 72 = .ok (.iconst (-1), 1) := by decide +kernel
theorem dX4_indexOf_73 : decode cX4_indexOf 73 = .ok (.ireturn, 1) := by decide +kernel
theorem dX4_leastBetween_0 : decode cX4_leastBetween 0 = .ok (.iload_n 1, 1) := by decide +kernel
theorem dX4_leastBetween_1 : decode cX4_leastBetween 1 = .ok (.ifCond .lt 23, 3) := by decide +kernel
theorem dX4_leastBetween_4 : decode cX4_leastBetween 4 = .ok (.iload_n 2, 1) := by decide +kernel
theorem dX4_leastBetween_5 : decode cX4_leastBetween 5 = .ok (.ifCond .lt 19, 3) := by decide +kernel
theorem dX4_leastBetween_8 : decode cX4_leastBetween 8 = .ok (.iload_n 1, 1) := by decide +kernel
theorem dX4_leastBetween_9 : decode cX4_leastBetween 9 = .ok (.aload_n 0, 1) := by decide +kernel
theorem dX4_leastBetween_10 : decode cX4_leastBetween 10 = .ok (.getfield 34, 3) := by decide +kernel
theorem dX4_leastBetween_13 : decode cX4_leastBetween 13 = .ok (.if_icmp .ge 11, 3) := by decide +kernel
theorem dX4_leastBetween_16 : decode cX4_leastBetween 16 = .ok (.iload_n 2, 1) := by decide +kernel
theorem dX4_leastBetween_17 : decode cX4_leastBetween 17 = .ok (.aload_n 0, 1) := by decide +kernel
theorem dX4_leastBetween_18 : decode cX4_leastBetween 18 = .ok (.getfield 34, 3) := by decide +kernel
theorem dX4_leastBetween_21 : decode cX4_leastBetween 21 = .ok (.if_icmp .lt 6, 3) := by decide +kernel
theorem dX4_leastBetween_24 : decode cX4_leastBetween 24 = .ok (.ldc 80, 2) := by decide +kernel
theorem dX4_leastBetween_26 : decode cX4_leastBetween 26 = .ok (.ireturn, 1) := by decide +kernel
theorem dX4_leastBetween_27 : decode cX4_leastBetween 27 = .ok (.aload_n 0, 1) := by decide +kernel
theorem dX4_leastBetween_28 : decode cX4_leastBetween 28 = .ok (.getfield 43, 3) := by decide +kernel
theorem dX4_leastBetween_31 : decode cX4_leastBetween 31 = .ok (.iload_n 1, 1) := by decide +kernel
theorem dX4_leastBetween_32 : decode cX4_leastBetween 32 = .ok (.aload_n 0, 1) := by decide +kernel
theorem dX4_leastBetween_33 : decode cX4_leastBetween 33 = .ok (.getfield 34, 3) := by decide +kernel
theorem dX4_leastBetween_36 : decode cX4_leastBetween 36 = .ok (.imul, 1) := by decide +kernel
theorem dX4_leastBetween_37 : decode cX4_leastBetween 37 = .ok (.iload_n 2, 1) := by decide +kernel
theorem dX4_leastBetween_38 : decode cX4_leastBetween 38 = .ok (.iadd, 1) := by decide +kernel
theorem dX4_leastBetween_39 : decode cX4_leastBetween 39 = .ok (.iaload, 1) := by decide +kernel
theorem dX4_leastBetween_40 : decode cX4_leastBetween 40 = .ok (.ireturn, 1) := by decide +kernel
theorem dX4_leadingSign_0 : decode cX4_leadingSign 0 = .ok (.iload_n 0, 1) := by decide +kernel
theorem dX4_leadingSign_1 : decode cX4_leadingSign 1 = .ok (.sipush 255, 3) := by decide +kernel
theorem dX4_leadingSign_4 : decode cX4_leadingSign 4 = .ok (.if_icmp .le 10, 3) := by decide +kernel
theorem dX4_leadingSign_7 : decode cX4_leadingSign 7 = .ok (.iload_n 0, 1) := by decide +kernel
theorem dX4_leadingSign_8 : decode cX4_leadingSign 8 = .ok (.bipush 8, 2) := by decide +kernel
theorem dX4_leadingSign_10 : decode cX4_leadingSign 10 = .ok (.ishr, 1) := by decide +kernel
theorem dX4_leadingSign_11 : decode cX4_leadingSign 11 = .ok (.goto 4, 3) := by decide +kernel
theorem dX4_leadingSign_14 : decode cX4_leadingSign 14 = .ok (.iload_n 0, 1) := by decide +kernel
theorem dX4_leadingSign_15 : decode cX4_leadingSign 15 = .ok (.ireturn, 1) := by decide +kernel
theorem dX4_writeSteps_0 : decode cX4_writeSteps 0 = .ok (.aload_n 0, 1) := by decide +kernel
theorem dX4_writeSteps_1 : decode cX4_writeSteps 1 = .ok (.getfield 34, 3) := by decide +kernel
theorem dX4_writeSteps_4 : decode cX4_writeSteps 4 = .ok (.istore_n 1, 1) := by decide +kernel
theorem dX4_writeSteps_5 : decode cX4_writeSteps 5 = .ok (.aload_n 0, 1) := by decide +kernel
theorem dX4_writeSteps_6 : decode cX4_writeSteps 6 = .ok (.getfield 43, 3) := by decide +kernel
theorem dX4_writeSteps_9 : decode cX4_writeSteps 9 = .ok (.arraylength, 1) := by decide +kernel
theorem dX4_writeSteps_10 : decode cX4_writeSteps 10 = .ok (.iload_n 1, 1) := by decide +kernel
theorem dX4_writeSteps_11 : decode cX4_writeSteps 11 = .ok (.iload_n 1, 1) := by decide +kernel
theorem dX4_writeSteps_12 : decode cX4_writeSteps 12 = .ok (.imul, 1) := by decide +kernel
theorem dX4_writeSteps_13 : decode cX4_writeSteps 13 = .ok (.if_icmp .ge 28, 3) := by decide +kernel
theorem dX4_writeSteps_16 : decode cX4_writeSteps 16 = .ok (.aload_n 0, 1) := by decide +kernel
theorem dX4_writeSteps_17 : decode cX4_writeSteps 17 = .ok (.iload_n 1, 1) := by decide +kernel
theorem dX4_writeSteps_18 : decode cX4_writeSteps 18 = .ok (.iload_n 1, 1) := by decide +kernel
theorem dX4_writeSteps_19 : decode cX4_writeSteps 19 = .ok (.imul, 1) := by decide +kernel
theorem dX4_writeSteps_20 : decode cX4_writeSteps 20 = .ok (.iconst 2, 1) := by decide +kernel
theorem dX4_writeSteps_21 : decode cX4_writeSteps 21 = .ok (.aload_n 0, 1) := by decide +kernel
theorem dX4_writeSteps_22 : decode cX4_writeSteps 22 = .ok (.getfield 43, 3) := by decide +kernel
theorem dX4_writeSteps_25 : decode cX4_writeSteps 25 = .ok (.arraylength, 1) := by decide +kernel
theorem dX4_writeSteps_26 : decode cX4_writeSteps 26 = .ok (.imul, 1) := by decide +kernel
theorem dX4_writeSteps_27 : decode cX4_writeSteps 27 = .ok (.sipush 14400, 3) := by decide +kernel
theorem dX4_writeSteps_30 : decode cX4_writeSteps 30 = .ok (.invokestatic 81, 3) := by decide +kernel
theorem dX4_writeSteps_33 : decode cX4_writeSteps 33 = .ok (.invokestatic 86, 3) := by decide +kernel
theorem dX4_writeSteps_36 : decode cX4_writeSteps 36 = .ok (.newarray .int, 2) := by decide +kernel
theorem dX4_writeSteps_38 : decode cX4_writeSteps 38 = .ok (.putfield 43, 3) := by decide +kernel
theorem dX4_writeSteps_41 : decode cX4_writeSteps 41 = .ok (.aload_n 0, 1) := by decide +kernel
theorem dX4_writeSteps_42 : decode cX4_writeSteps 42 = .ok (.getfield 43, 3) := by decide +kernel
theorem dX4_writeSteps_45 : decode cX4_writeSteps 45 = .ok (.iconst 0, 1) := by decide +kernel
theorem dX4_writeSteps_46 : decode cX4_writeSteps 46 = .ok (.iload_n 1, 1) := by decide +kernel
theorem dX4_writeSteps_47 : decode cX4_writeSteps 47 = .ok (.iload_n 1, 1) := by decide +kernel
theorem dX4_writeSteps_48 : decode cX4_writeSteps 48 = .ok (.imul, 1) := by decide +kernel
theorem dX4_writeSteps_49 : decode cX4_writeSteps 49 = .ok (.ldc 80, 2) := by decide +kernel
theorem dX4_writeSteps_51 : decode cX4_writeSteps 51 = .ok (.invokestatic 89, 3) := by decide +kernel
theorem dX4_writeSteps_54 : decode cX4_writeSteps 54 = .ok (.iconst 0, 1) := by decide +kernel
theorem dX4_writeSteps_55 : decode cX4_writeSteps 55 = .ok (.istore_n 2, 1) := by decide +kernel
theorem dX4_writeSteps_56 : decode cX4_writeSteps 56 = .ok (.iload_n 2, 1) := by decide +kernel
theorem dX4_writeSteps_57 : decode cX4_writeSteps 57 = .ok (.iload_n 1, 1) := by decide +kernel
theorem dX4_writeSteps_58 : decode cX4_writeSteps 58 = .ok (.if_icmp .ge 20, 3) := by decide +kernel
theorem dX4_writeSteps_61 : decode cX4_writeSteps 61 = .ok (.aload_n 0, 1) := by decide +kernel
theorem dX4_writeSteps_62 : decode cX4_writeSteps 62 = .ok (.getfield 43, 3) := by decide +kernel
theorem dX4_writeSteps_65 : decode cX4_writeSteps 65 = .ok (.iload_n 2, 1) := by decide +kernel
theorem dX4_writeSteps_66 : decode cX4_writeSteps 66 = .ok (.iload_n 1, 1) := by decide +kernel
theorem dX4_writeSteps_67 : decode cX4_writeSteps 67 = .ok (.imul, 1) := by decide +kernel
theorem dX4_writeSteps_68 : decode cX4_writeSteps 68 = .ok (.iload_n 2, 1) := by decide +kernel
theorem dX4_writeSteps_69 : decode cX4_writeSteps 69 = .ok (.iadd, 1) := by decide +kernel
theorem dX4_writeSteps_70 : decode cX4_writeSteps 70 = .ok (.iconst 0, 1) := by decide +kernel
theorem dX4_writeSteps_71 : decode cX4_writeSteps 71 = .ok (.iastore, 1) := by decide +kernel
theorem dX4_writeSteps_72 : decode cX4_writeSteps 72 = .ok (.iinc 2 1, 3) := by decide +kernel
theorem dX4_writeSteps_75 : decode cX4_writeSteps 75 = .ok (.goto (-19), 3) := by decide +kernel
theorem dX4_writeSteps_78 : decode cX4_writeSteps 78 = .ok (.iconst 0, 1) := by decide +kernel
theorem dX4_writeSteps_79 : decode cX4_writeSteps 79 = .ok (.istore_n 2, 1) := by decide +kernel
theorem dX4_writeSteps_80 : decode cX4_writeSteps 80 = .ok (.iload_n 2, 1) := by decide +kernel
theorem dX4_writeSteps_81 : decode cX4_writeSteps 81 = .ok (.aload_n 0, 1) := by decide +kernel
theorem dX4_writeSteps_82 : decode cX4_writeSteps 82 = .ok (.getfield 21, 3) := by decide +kernel
theorem dX4_writeSteps_85 : decode cX4_writeSteps 85 = .ok (.if_icmp .ge 77, 3) := by decide +kernel
theorem dX4_writeSteps_88 : decode cX4_writeSteps 88 = .ok (.aload_n 0, 1) := by decide +kernel
theorem dX4_writeSteps_89 : decode cX4_writeSteps 89 = .ok (.aload_n 0, 1) := by decide +kernel
theorem dX4_writeSteps_90 : decode cX4_writeSteps 90 = .ok (.getfield 9, 3) := by decide +kernel
theorem dX4_writeSteps_93 : decode cX4_writeSteps 93 = .ok (.iload_n 2, 1) := by decide +kernel
theorem dX4_writeSteps_94 : decode cX4_writeSteps 94 = .ok (.iaload, 1) := by decide +kernel
theorem dX4_writeSteps_95 : decode cX4_writeSteps 95 = .ok (.invokevirtual 77, 3) := by decide +kernel
theorem dX4_writeSteps_98 : decode cX4_writeSteps 98 = .ok (.istore_n 3, 1) := by decide +kernel
theorem dX4_writeSteps_99 : decode cX4_writeSteps 99 = .ok (.aload_n 0, 1) := by decide +kernel
theorem dX4_writeSteps_100 : decode cX4_writeSteps 100 = .ok (.aload_n 0, 1) := by decide +kernel
theorem dX4_writeSteps_101 : decode cX4_writeSteps 101 = .ok (.getfield 15, 3) := by decide +kernel
theorem dX4_writeSteps_104 : decode cX4_writeSteps 104 = .ok (.iload_n 2, 1) := by decide +kernel
theorem dX4_writeSteps_105 : decode cX4_writeSteps 105 = .ok (.iaload, 1) := by decide +kernel
theorem dX4_writeSteps_106 : decode cX4_writeSteps 106 = .ok (.invokevirtual 77, 3) := by decide +kernel
theorem dX4_writeSteps_109 : decode cX4_writeSteps 109 = .ok (.istore 4, 2) := by decide +kernel
theorem dX4_writeSteps_111 : decode cX4_writeSteps 111 = .ok (.iload_n 3, 1) := by decide +kernel
theorem dX4_writeSteps_112 : decode cX4_writeSteps 112 = .ok (.iconst (-1), 1) := by decide +kernel
theorem dX4_writeSteps_113 : decode cX4_writeSteps 113 = .ok (.if_icmp .eq 43, 3) := by decide +kernel
theorem dX4_writeSteps_116 : decode cX4_writeSteps 116 = .ok (.iload 4, 2) := by decide +kernel
theorem dX4_writeSteps_118 : decode cX4_writeSteps 118 = .ok (.iconst (-1), 1) := by decide +kernel
theorem dX4_writeSteps_119 : decode cX4_writeSteps 119 = .ok (.if_icmp .eq 37, 3) := by decide +kernel
theorem dX4_writeSteps_122 : decode cX4_writeSteps 122 = .ok (.aload_n 0, 1) := by decide +kernel
theorem dX4_writeSteps_123 : decode cX4_writeSteps 123 = .ok (.getfield 43, 3) := by decide +kernel
theorem dX4_writeSteps_126 : decode cX4_writeSteps 126 = .ok (.iload_n 3, 1) := by decide +kernel
theorem dX4_writeSteps_127 : decode cX4_writeSteps 127 = .ok (.iload_n 1, 1) := by decide +kernel
theorem dX4_writeSteps_128 : decode cX4_writeSteps 128 = .ok (.imul, 1) := by decide +kernel
theorem dX4_writeSteps_129 : decode cX4_writeSteps 129 = .ok (.iload 4, 2) := by decide +kernel
theorem dX4_writeSteps_131 : decode cX4_writeSteps 131 = .ok (.iadd, 1) := by decide +kernel
theorem dX4_writeSteps_132 : decode cX4_writeSteps 132 = .ok (.aload_n 0, 1) := by decide +kernel
theorem dX4_writeSteps_133 : decode cX4_writeSteps 133 = .ok (.getfield 18, 3) := by decide +kernel
theorem dX4_writeSteps_136 : decode cX4_writeSteps 136 = .ok (.iload_n 2, 1) := by decide +kernel
theorem dX4_writeSteps_137 : decode cX4_writeSteps 137 = .ok (.iaload, 1) := by decide +kernel
theorem dX4_writeSteps_138 : decode cX4_writeSteps 138 = .ok (.iastore, 1) := by decide +kernel
theorem dX4_writeSteps_139 : decode cX4_writeSteps 139 = .ok (.aload_n 0, 1) := by decide +kernel
theorem dX4_writeSteps_140 : decode cX4_writeSteps 140 = .ok (.getfield 43, 3) := by decide +kernel
theorem dX4_writeSteps_143 : decode cX4_writeSteps 143 = .ok (.iload 4, 2) := by decide +kernel
theorem dX4_writeSteps_145 : decode cX4_writeSteps 145 = .ok (.iload_n 1, 1) := by decide +kernel
theorem dX4_writeSteps_146 : decode cX4_writeSteps 146 = .ok (.imul, 1) := by decide +kernel
theorem dX4_writeSteps_147 : decode cX4_writeSteps 147 = .ok (.iload_n 3, 1) := by decide +kernel
theorem dX4_writeSteps_148 : decode cX4_writeSteps 148 = .ok (.iadd, 1) := by decide +kernel
theorem dX4_writeSteps_149 : decode cX4_writeSteps 149 = .ok (.aload_n 0, 1) := by decide +kernel
theorem dX4_writeSteps_150 : decode cX4_writeSteps 150 = .ok (.getfield 18, 3) := by decide +kernel
theorem dX4_writeSteps_153 : decode cX4_writeSteps 153 = .ok (.iload_n 2, 1) := by decide +kernel
theorem dX4_writeSteps_154 : decode cX4_writeSteps 154 = .ok (.iaload, 1) := by decide +kernel
theorem dX4_writeSteps_155 : decode cX4_writeSteps 155 = .ok (.iastore, 1) := by decide +kernel
theorem dX4_writeSteps_156 : decode cX4_writeSteps 156 = .ok (.iinc 2 1, 3) := by decide +kernel
theorem dX4_writeSteps_159 : decode cX4_writeSteps 159 = .ok (.goto (-79), 3) := by decide +kernel
theorem dX4_writeSteps_162 : decode cX4_writeSteps 162 = .ok (.return_, 1) := by decide +kernel
theorem dX4_goOver_0 : decode cX4_goOver 0 = .ok (.aload_n 0, 1) := by decide +kernel
theorem dX4_goOver_1 : decode cX4_goOver 1 = .ok (.getfield 34, 3) := by decide +kernel
theorem dX4_goOver_4 : decode cX4_goOver 4 = .ok (.istore_n 2, 1) := by decide +kernel
theorem dX4_goOver_5 : decode cX4_goOver 5 = .ok (.iconst 0, 1) := by decide +kernel
theorem dX4_goOver_6 : decode cX4_goOver 6 = .ok (.istore_n 3, 1) := by decide +kernel
theorem dX4_goOver_7 : decode cX4_goOver 7 = .ok (.iload_n 3, 1) := by decide +kernel
theorem dX4_goOver_8 : decode cX4_goOver 8 = .ok (.iload_n 2, 1) := by decide +kernel
theorem dX4_goOver_9 : decode cX4_goOver 9 = .ok (.if_icmp .ge 93, 3) := by decide +kernel
theorem dX4_goOver_12 : decode cX4_goOver 12 = .ok (.aload_n 0, 1) := by decide +kernel
theorem dX4_goOver_13 : decode cX4_goOver 13 = .ok (.getfield 43, 3) := by decide +kernel
theorem dX4_goOver_16 : decode cX4_goOver 16 = .ok (.iload_n 3, 1) := by decide +kernel
theorem dX4_goOver_17 : decode cX4_goOver 17 = .ok (.iload_n 2, 1) := by decide +kernel
theorem dX4_goOver_18 : decode cX4_goOver 18 = .ok (.imul, 1) := by decide +kernel
theorem dX4_goOver_19 : decode cX4_goOver 19 = .ok (.iload_n 1, 1) := by decide +kernel
theorem dX4_goOver_20 : decode cX4_goOver 20 = .ok (.iadd, 1) := by decide +kernel
theorem dX4_goOver_21 : decode cX4_goOver 21 = .ok (.iaload, 1) := by decide +kernel
theorem dX4_goOver_22 : decode cX4_goOver 22 = .ok (.istore 4, 2) := by decide +kernel
theorem dX4_goOver_24 : decode cX4_goOver 24 = .ok (.iload 4, 2) := by decide +kernel
theorem dX4_goOver_26 : decode cX4_goOver 26 = .ok (.ldc 80, 2) := by decide +kernel
theorem dX4_goOver_28 : decode cX4_goOver 28 = .ok (.if_icmp .ge 68, 3) := by decide +kernel
theorem dX4_goOver_31 : decode cX4_goOver 31 = .ok (.iload_n 3, 1) := by decide +kernel
theorem dX4_goOver_32 : decode cX4_goOver 32 = .ok (.iload_n 1, 1) := by decide +kernel
theorem dX4_goOver_33 : decode cX4_goOver 33 = .ok (.if_icmp .eq 63, 3) := by decide +kernel
theorem dX4_goOver_36 : decode cX4_goOver 36 = .ok (.iconst 0, 1) := by decide +kernel
theorem dX4_goOver_37 : decode cX4_goOver 37 = .ok (.istore 5, 2) := by decide +kernel
theorem dX4_goOver_39 : decode cX4_goOver 39 = .ok (.iload 5, 2) := by decide +kernel
theorem dX4_goOver_41 : decode cX4_goOver 41 = .ok (.iload_n 2, 1) := by decide +kernel
theorem dX4_goOver_42 : decode cX4_goOver 42 = .ok (.if_icmp .ge 54, 3) := by decide +kernel
theorem dX4_goOver_45 : decode cX4_goOver 45 = .ok (.iload 4, 2) := by decide +kernel
theorem dX4_goOver_47 : decode cX4_goOver 47 = .ok (.aload_n 0, 1) := by decide +kernel
theorem dX4_goOver_48 : decode cX4_goOver 48 = .ok (.getfield 43, 3) := by decide +kernel
theorem dX4_goOver_51 : decode cX4_goOver 51 = .ok (.iload_n 1, 1) := by decide +kernel
theorem dX4_goOver_52 : decode cX4_goOver 52 = .ok (.iload_n 2, 1) := by decide +kernel
theorem dX4_goOver_53 : decode cX4_goOver 53 = .ok (.imul, 1) := by decide +kernel
theorem dX4_goOver_54 : decode cX4_goOver 54 = .ok (.iload 5, 2) := by decide +kernel
theorem dX4_goOver_56 : decode cX4_goOver 56 = .ok (.iadd, 1) := by decide +kernel
theorem dX4_goOver_57 : decode cX4_goOver 57 = .ok (.iaload, 1) := by decide +kernel
theorem dX4_goOver_58 : decode cX4_goOver 58 = .ok (.iadd, 1) := by decide +kernel
theorem dX4_goOver_59 : decode cX4_goOver 59 = .ok (.istore 6, 2) := by decide +kernel
theorem dX4_goOver_61 : decode cX4_goOver 61 = .ok (.iload 6, 2) := by decide +kernel
theorem dX4_goOver_63 : decode cX4_goOver 63 = .ok (.aload_n 0, 1) := by decide +kernel
theorem dX4_goOver_64 : decode cX4_goOver 64 = .ok (.getfield 43, 3) := by decide +kernel
theorem dX4_goOver_67 : decode cX4_goOver 67 = .ok (.iload_n 3, 1) := by decide +kernel
theorem dX4_goOver_68 : decode cX4_goOver 68 = .ok (.iload_n 2, 1) := by decide +kernel
theorem dX4_goOver_69 : decode cX4_goOver 69 = .ok (.imul, 1) := by decide +kernel
theorem dX4_goOver_70 : decode cX4_goOver 70 = .ok (.iload 5, 2) := by decide +kernel
theorem dX4_goOver_72 : decode cX4_goOver 72 = .ok (.iadd, 1) := by decide +kernel
theorem dX4_goOver_73 : decode cX4_goOver 73 = .ok (.iaload, 1) := by decide +kernel
theorem dX4_goOver_74 : decode cX4_goOver 74 = .ok (.if_icmp .ge 16, 3) := by decide +kernel
theorem dX4_goOver_77 : decode cX4_goOver 77 = .ok (.aload_n 0, 1) := by decide +kernel
theorem dX4_goOver_78 : decode cX4_goOver 78 = .ok (.getfield 43, 3) := by decide +kernel
theorem dX4_goOver_81 : decode cX4_goOver 81 = .ok (.iload_n 3, 1) := by decide +kernel
theorem dX4_goOver_82 : decode cX4_goOver 82 = .ok (.iload_n 2, 1) := by decide +kernel
theorem dX4_goOver_83 : decode cX4_goOver 83 = .ok (.imul, 1) := by decide +kernel
theorem dX4_goOver_84 : decode cX4_goOver 84 = .ok (.iload 5, 2) := by decide +kernel
theorem dX4_goOver_86 : decode cX4_goOver 86 = .ok (.iadd, 1) := by decide +kernel
theorem dX4_goOver_87 : decode cX4_goOver 87 = .ok (.iload 6, 2) := by decide +kernel
theorem dX4_goOver_89 : decode cX4_goOver 89 = .ok (.iastore, 1) := by decide +kernel
theorem dX4_goOver_90 : decode cX4_goOver 90 = .ok (.iinc 5 1, 3) := by decide +kernel
theorem dX4_goOver_93 : decode cX4_goOver 93 = .ok (.goto (-54), 3) := by decide +kernel
theorem dX4_goOver_96 : decode cX4_goOver 96 = .ok (.iinc 3 1, 3) := by decide +kernel
theorem dX4_goOver_99 : decode cX4_goOver 99 = .ok (.goto (-92), 3) := by decide +kernel
theorem dX4_goOver_102 : decode cX4_goOver 102 = .ok (.return_, 1) := by decide +kernel
theorem dX5_init_0 : decode cX5_init 0 = .ok (.aload_n 0, 1) := by decide +kernel
theorem dX5_init_1 : decode cX5_init 1 = .ok (.invokespecial 1, 3) := by decide +kernel
theorem dX5_init_4 : decode cX5_init 4 = .ok (.aload_n 0, 1) := by decide +kernel
theorem dX5_init_5 : decode cX5_init 5 = .ok (.iconst 4, 1) := by decide +kernel
theorem dX5_init_6 : decode cX5_init 6 = .ok (.putfield 7, 3) := by decide +kernel
theorem dX5_init_9 : decode cX5_init 9 = .ok (.aload_n 0, 1) := by decide +kernel
theorem dX5_init_10 : decode cX5_init 10 = .ok (.bipush 8, 2) := by decide +kernel
theorem dX5_init_12 : decode cX5_init 12 = .ok (.putfield 13, 3) := by decide +kernel
theorem dX5_init_15 : decode cX5_init 15 = .ok (.aload_n 0, 1) := by decide +kernel
theorem dX5_init_16 : decode cX5_init 16 = .ok (.iconst 0, 1) := by decide +kernel
theorem dX5_init_17 : decode cX5_init 17 = .ok (.putfield 16, 3) := by decide +kernel
theorem dX5_init_20 : decode cX5_init 20 = .ok (.return_, 1) := by decide +kernel
theorem dX6_init_0 : decode cX6_init 0 = .ok (.aload_n 0, 1) := by decide +kernel
theorem dX6_init_1 : decode cX6_init 1 = .ok (.invokespecial 3, 3) := by decide +kernel
theorem dX6_init_4 : decode cX6_init 4 = .ok (.aload_n 0, 1) := by decide +kernel
theorem dX6_init_5 : decode cX6_init 5 = .ok (.bipush 8, 2) := by decide +kernel
theorem dX6_init_7 : decode cX6_init 7 = .ok (.newarray .int, 2) := by decide +kernel
theorem dX6_init_9 : decode cX6_init 9 = .ok (.putfield 9, 3) := by decide +kernel
theorem dX6_init_12 : decode cX6_init 12 = .ok (.aload_n 0, 1) := by decide +kernel
theorem dX6_init_13 : decode cX6_init 13 = .ok (.iconst 0, 1) := by decide +kernel
theorem dX6_init_14 : decode cX6_init 14 = .ok (.putfield 15, 3) := by decide +kernel
theorem dX6_init_17 : decode cX6_init 17 = .ok (.return_, 1) := by decide +kernel
theorem dX6_add_0 : decode cX6_add 0 = .ok (.iconst 0, 1) := by decide +kernel
theorem dX6_add_1 : decode cX6_add 1 = .ok (.istore_n 2, 1) := by decide +kernel
theorem dX6_add_2 : decode cX6_add 2 = .ok (.iload_n 2, 1) := by decide +kernel
theorem dX6_add_3 : decode cX6_add 3 = .ok (.aload_n 0, 1) := by decide +kernel
theorem dX6_add_4 : decode cX6_add 4 = .ok (.getfield 15, 3) := by decide +kernel
theorem dX6_add_7 : decode cX6_add 7 = .ok (.if_icmp .ge 24, 3) := by decide +kernel
theorem dX6_add_10 : decode cX6_add 10 = .ok (.aload_n 0, 1) := by decide +kernel
theorem dX6_add_11 : decode cX6_add 11 = .ok (.getfield 9, 3) := by decide +kernel
theorem dX6_add_14 : decode cX6_add 14 = .ok (.iload_n 2, 1) := by decide +kernel
theorem dX6_add_15 : decode cX6_add 15 = .ok (.iaload, 1) := by decide +kernel
theorem dX6_add_16 : decode cX6_add 16 = .ok (.iload_n 1, 1) := by decide +kernel
theorem dX6_add_17 : decode cX6_add 17 = .ok (.if_icmp .ne 8, 3) := by decide +kernel
theorem dX6_add_20 : decode cX6_add 20 = .ok (.aload_n 0, 1) := by decide +kernel
theorem dX6_add_21 : decode cX6_add 21 = .ok (.getfield 15, 3) := by decide +kernel
theorem dX6_add_24 : decode cX6_add 24 = .ok (.ireturn, 1) := by decide +kernel
theorem dX6_add_25 : decode cX6_add 25 = .ok (.iinc 2 1, 3) := by decide +kernel
theorem dX6_add_28 : decode cX6_add 28 = .ok (.goto (-26), 3) := by decide +kernel
theorem dX6_add_31 : decode cX6_add 31 = .ok (.aload_n 0, 1) := by decide +kernel
theorem dX6_add_32 : decode cX6_add 32 = .ok (.getfield 15, 3) := by decide +kernel
theorem dX6_add_35 : decode cX6_add 35 = .ok (.bipush 8, 2) := by decide +kernel
theorem dX6_add_37 : decode cX6_add 37 = .ok (.if_icmp .lt 6, 3) := by decide +kernel
theorem dX6_add_40 : decode cX6_add 40 = .ok (.bipush (-3), 2) := by decide +kernel
theorem dX6_add_42 : decode cX6_add 42 = .ok (.ireturn, 1) := by decide +kernel
theorem dX6_add_43 : decode cX6_add 43 = .ok (.aload_n 0, 1) := by decide +kernel
theorem dX6_add_44 : decode cX6_add 44 = .ok (.getfield 9, 3) := by decide +kernel
theorem dX6_add_47 : decode cX6_add 47 = .ok (.aload_n 0, 1) := by decide +kernel
theorem dX6_add_48 : decode cX6_add 48 = .ok (.getfield 15, 3) := by decide +kernel
theorem dX6_add_51 : decode cX6_add 51 = .ok (.iload_n 1, 1) := by decide +kernel
theorem dX6_add_52 : decode cX6_add 52 = .ok (.iastore, 1) := by decide +kernel
theorem dX6_add_53 : decode cX6_add 53 = .ok (.aload_n 0, 1) := by decide +kernel
theorem dX6_add_54 : decode cX6_add 54 = .ok (.dup, 1) := by decide +kernel
theorem dX6_add_55 : decode cX6_add 55 = .ok (.getfield 15, 3) := by decide +kernel
theorem dX6_add_58 : decode cX6_add 58 = .ok (.iconst 1, 1) := by decide +kernel
theorem dX6_add_59 : decode cX6_add 59 = .ok (.iadd, 1) := by decide +kernel
theorem dX6_add_60 : decode cX6_add 60 = .ok (.putfield 15, 3) := by decide +kernel
theorem dX6_add_63 : decode cX6_add 63 = .ok (.aload_n 0, 1) := by decide +kernel
theorem dX6_add_64 : decode cX6_add 64 = .ok (.getfield 15, 3) := by decide +kernel
theorem dX6_add_67 : decode cX6_add 67 = .ok (.ireturn, 1) := by decide +kernel
theorem dX6_holdTogether_0 : decode cX6_holdTogether 0 = .ok (.iconst 0, 1) := by decide +kernel
theorem dX6_holdTogether_1 : decode cX6_holdTogether 1 = .ok (.istore_n 2, 1) := by decide +kernel
theorem dX6_holdTogether_2 : decode cX6_holdTogether 2 = .ok (.iload_n 2, 1) := by decide +kernel
theorem dX6_holdTogether_3 : decode cX6_holdTogether 3 = .ok (.aload_n 0, 1) := by decide +kernel
theorem dX6_holdTogether_4 : decode cX6_holdTogether 4 = .ok (.getfield 15, 3) := by decide +kernel
theorem dX6_holdTogether_7 : decode cX6_holdTogether 7 = .ok (.if_icmp .ge 24, 3) := by decide +kernel
theorem dX6_holdTogether_10 : decode cX6_holdTogether 10 = .ok (.iload_n 1, 1) := by decide +kernel
theorem dX6_holdTogether_11 : decode cX6_holdTogether 11 = .ok (.aload_n 0, 1) := by decide +kernel
theorem dX6_holdTogether_12 : decode cX6_holdTogether 12 = .ok (.getfield 9, 3) := by decide +kernel
theorem dX6_holdTogether_15 : decode cX6_holdTogether 15 = .ok (.iload_n 2, 1) := by decide +kernel
theorem dX6_holdTogether_16 : decode cX6_holdTogether 16 = .ok (.iaload, 1) := by decide +kernel
theorem dX6_holdTogether_17 : decode cX6_holdTogether 17 = .ok (.iconst (-1), 1) := by decide +kernel
theorem dX6_holdTogether_18 : decode cX6_holdTogether 18 = .ok (.ixor, 1) := by decide +kernel
theorem dX6_holdTogether_19 : decode cX6_holdTogether 19 = .ok (.iand, 1) := by decide +kernel
theorem dX6_holdTogether_20 : decode cX6_holdTogether 20 = .ok (.ifCond .ne 5, 3) := by decide +kernel
theorem dX6_holdTogether_23 : decode cX6_holdTogether 23 = .ok (.iconst 1, 1) := by decide +kernel
theorem dX6_holdTogether_24 : decode cX6_holdTogether 24 = .ok (.ireturn, 1) := by decide +kernel
theorem dX6_holdTogether_25 : decode cX6_holdTogether 25 = .ok (.iinc 2 1, 3) := by decide +kernel
theorem dX6_holdTogether_28 : decode cX6_holdTogether 28 = .ok (.goto (-26), 3) := by decide +kernel
theorem dX6_holdTogether_31 : decode cX6_holdTogether 31 = .ok (.iconst 0, 1) := by decide +kernel
theorem dX6_holdTogether_32 : decode cX6_holdTogether 32 = .ok (.ireturn, 1) := by decide +kernel
theorem dX7_init_0 : decode cX7_init 0 = .ok (.aload_n 0, 1) := by decide +kernel
theorem dX7_init_1 : decode cX7_init 1 = .ok (.invokespecial 3, 3) := by decide +kernel
theorem dX7_init_4 : decode cX7_init 4 = .ok (.aload_n 0, 1) := by decide +kernel
theorem dX7_init_5 : decode cX7_init 5 = .ok (.bipush 127, 2) := by decide +kernel
theorem dX7_init_7 : decode cX7_init 7 = .ok (.newarray .int, 2) := by decide +kernel
theorem dX7_init_9 : decode cX7_init 9 = .ok (.putfield 9, 3) := by decide +kernel
theorem dX7_init_12 : decode cX7_init 12 = .ok (.aload_n 0, 1) := by decide +kernel
theorem dX7_init_13 : decode cX7_init 13 = .ok (.bipush 127, 2) := by decide +kernel
theorem dX7_init_15 : decode cX7_init 15 = .ok (.newarray .int, 2) := by decide +kernel
theorem dX7_init_17 : decode cX7_init 17 = .ok (.putfield 15, 3) := by decide +kernel
theorem dX7_init_20 : decode cX7_init 20 = .ok (.aload_n 0, 1) := by decide +kernel
theorem dX7_init_21 : decode cX7_init 21 = .ok (.iconst 0, 1) := by decide +kernel
theorem dX7_init_22 : decode cX7_init 22 = .ok (.putfield 18, 3) := by decide +kernel
theorem dX7_init_25 : decode cX7_init 25 = .ok (.aload_n 0, 1) := by decide +kernel
theorem dX7_init_26 : decode cX7_init 26 = .ok (.getfield 9, 3) := by decide +kernel
theorem dX7_init_29 : decode cX7_init 29 = .ok (.bipush 65, 2) := by decide +kernel
theorem dX7_init_31 : decode cX7_init 31 = .ok (.bipush 91, 2) := by decide +kernel
theorem dX7_init_33 : decode cX7_init 33 = .ok (.iconst 1, 1) := by decide +kernel
theorem dX7_init_34 : decode cX7_init 34 = .ok (.invokestatic 22, 3) := by decide +kernel
theorem dX7_init_37 : decode cX7_init 37 = .ok (.aload_n 0, 1) := by decide +kernel
theorem dX7_init_38 : decode cX7_init 38 = .ok (.getfield 9, 3) := by decide +kernel
theorem dX7_init_41 : decode cX7_init 41 = .ok (.bipush 97, 2) := by decide +kernel
theorem dX7_init_43 : decode cX7_init 43 = .ok (.bipush 123, 2) := by decide +kernel
theorem dX7_init_45 : decode cX7_init 45 = .ok (.iconst 1, 1) := by decide +kernel
theorem dX7_init_46 : decode cX7_init 46 = .ok (.invokestatic 22, 3) := by decide +kernel
theorem dX7_init_49 : decode cX7_init 49 = .ok (.return_, 1) := by decide +kernel
theorem dX7_scriptOf_0 : decode cX7_scriptOf 0 = .ok (.iload_n 1, 1) := by decide +kernel
theorem dX7_scriptOf_1 : decode cX7_scriptOf 1 = .ok (.invokestatic 28, 3) := by decide +kernel
theorem dX7_scriptOf_4 : decode cX7_scriptOf 4 = .ok (.ifCond .eq 12, 3) := by decide +kernel
theorem dX7_scriptOf_7 : decode cX7_scriptOf 7 = .ok (.aload_n 0, 1) := by decide +kernel
theorem dX7_scriptOf_8 : decode cX7_scriptOf 8 = .ok (.getfield 9, 3) := by decide +kernel
theorem dX7_scriptOf_11 : decode cX7_scriptOf 11 = .ok (.iload_n 1, 1) := by decide +kernel
theorem dX7_scriptOf_12 : decode cX7_scriptOf 12 = .ok (.iaload, 1) := by decide +kernel
theorem dX7_scriptOf_13 : decode cX7_scriptOf 13 = .ok (.goto 4, 3) := by decide +kernel
theorem dX7_scriptOf_16 : decode cX7_scriptOf 16 = .ok (.iconst 0, 1) := by decide +kernel
theorem dX7_scriptOf_17 : decode cX7_scriptOf 17 = .ok (.ireturn, 1) := by decide +kernel
theorem dX7_howOf_0 : decode cX7_howOf 0 = .ok (.iload_n 1, 1) := by decide +kernel
theorem dX7_howOf_1 : decode cX7_howOf 1 = .ok (.invokestatic 28, 3) := by decide +kernel
theorem dX7_howOf_4 : decode cX7_howOf 4 = .ok (.ifCond .eq 12, 3) := by decide +kernel
theorem dX7_howOf_7 : decode cX7_howOf 7 = .ok (.aload_n 0, 1) := by decide +kernel
theorem dX7_howOf_8 : decode cX7_howOf 8 = .ok (.getfield 15, 3) := by decide +kernel
theorem dX7_howOf_11 : decode cX7_howOf 11 = .ok (.iload_n 1, 1) := by decide +kernel
theorem dX7_howOf_12 : decode cX7_howOf 12 = .ok (.iaload, 1) := by decide +kernel
theorem dX7_howOf_13 : decode cX7_howOf 13 = .ok (.goto 4, 3) := by decide +kernel
theorem dX7_howOf_16 : decode cX7_howOf 16 = .ok (.iconst 1, 1) := by decide +kernel
theorem dX7_howOf_17 : decode cX7_howOf 17 = .ok (.ireturn, 1) := by decide +kernel
theorem dX7_changeScript_0 : decode cX7_changeScript 0 = .ok (.aload_n 0, 1) := by decide +kernel
theorem dX7_changeScript_1 : decode cX7_changeScript 1 = .ok (.iload_n 1, 1) := by decide +kernel
theorem dX7_changeScript_2 : decode cX7_changeScript 2 = .ok (.invokevirtual 32, 3) := by decide +kernel
theorem dX7_changeScript_5 : decode cX7_changeScript 5 = .ok (.istore_n 3, 1) := by decide +kernel
theorem dX7_changeScript_6 : decode cX7_changeScript 6 = .ok (.iload_n 1, 1) := by decide +kernel
theorem dX7_changeScript_7 : decode cX7_changeScript 7 = .ok (.invokestatic 28, 3) := by decide +kernel
theorem dX7_changeScript_10 : decode cX7_changeScript 10 = .ok (.ifCond .eq 10, 3) := by decide +kernel
theorem dX7_changeScript_13 : decode cX7_changeScript 13 = .ok (.aload_n 0, 1) := by decide +kernel
theorem dX7_changeScript_14 : decode cX7_changeScript 14 = .ok (.getfield 9, 3) := by decide +kernel
theorem dX7_changeScript_17 : decode cX7_changeScript 17 = .ok (.iload_n 1, 1) := by decide +kernel
theorem dX7_changeScript_18 : decode cX7_changeScript 18 = .ok (.iload_n 2, 1) := by decide +kernel
theorem dX7_changeScript_19 : decode cX7_changeScript 19 = .ok (.iastore, 1) := by decide +kernel
theorem dX7_changeScript_20 : decode cX7_changeScript 20 = .ok (.iload_n 3, 1) := by decide +kernel
theorem dX7_changeScript_21 : decode cX7_changeScript 21 = .ok (.ireturn, 1) := by decide +kernel
theorem dX7_changeHow_0 : decode cX7_changeHow 0 = .ok (.aload_n 0, 1) := by decide +kernel
theorem dX7_changeHow_1 : decode cX7_changeHow 1 = .ok (.iload_n 1, 1) := by decide +kernel
theorem dX7_changeHow_2 : decode cX7_changeHow 2 = .ok (.invokevirtual 36, 3) := by decide +kernel
theorem dX7_changeHow_5 : decode cX7_changeHow 5 = .ok (.istore_n 3, 1) := by decide +kernel
theorem dX7_changeHow_6 : decode cX7_changeHow 6 = .ok (.iload_n 1, 1) := by decide +kernel
theorem dX7_changeHow_7 : decode cX7_changeHow 7 = .ok (.invokestatic 28, 3) := by decide +kernel
theorem dX7_changeHow_10 : decode cX7_changeHow 10 = .ok (.ifCond .eq 25, 3) := by decide +kernel
theorem dX7_changeHow_13 : decode cX7_changeHow 13 = .ok (.iload_n 3, 1) := by decide +kernel
theorem dX7_changeHow_14 : decode cX7_changeHow 14 = .ok (.iload_n 2, 1) := by decide +kernel
theorem dX7_changeHow_15 : decode cX7_changeHow 15 = .ok (.if_icmp .eq 20, 3) := by decide +kernel
theorem dX7_changeHow_18 : decode cX7_changeHow 18 = .ok (.aload_n 0, 1) := by decide +kernel
theorem dX7_changeHow_19 : decode cX7_changeHow 19 = .ok (.getfield 15, 3) := by decide +kernel
theorem dX7_changeHow_22 : decode cX7_changeHow 22 = .ok (.iload_n 1, 1) := by decide +kernel
theorem dX7_changeHow_23 : decode cX7_changeHow 23 = .ok (.iload_n 2, 1) := by decide +kernel
theorem dX7_changeHow_24 : decode cX7_changeHow 24 = .ok (.iastore, 1) := by decide +kernel
theorem dX7_changeHow_25 : decode cX7_changeHow 25 = .ok (.aload_n 0, 1) := by decide +kernel
theorem dX7_changeHow_26 : decode cX7_changeHow 26 = .ok (.dup, 1) := by decide +kernel
theorem dX7_changeHow_27 : decode cX7_changeHow 27 = .ok (.getfield 18, 3) := by decide +kernel
theorem dX7_changeHow_30 : decode cX7_changeHow 30 = .ok (.iconst 1, 1) := by decide +kernel
theorem dX7_changeHow_31 : decode cX7_changeHow 31 = .ok (.iadd, 1) := by decide +kernel
theorem dX7_changeHow_32 : decode cX7_changeHow 32 = .ok (.putfield 18, 3) := by decide +kernel
theorem dX7_changeHow_35 : decode cX7_changeHow 35 = .ok (.iload_n 3, 1) := by decide +kernel
theorem dX7_changeHow_36 : decode cX7_changeHow 36 = .ok (.ireturn, 1) := by decide +kernel
theorem dX8_init_0 : decode cX8_init 0 = .ok (.aload_n 0, 1) := by decide +kernel
theorem dX8_init_1 : decode cX8_init 1 = .ok (.invokespecial 3, 3) := by decide +kernel
theorem dX8_init_4 : decode cX8_init 4 = .ok (.aload_n 0, 1) := by decide +kernel
theorem dX8_init_5 : decode cX8_init 5 = .ok (.iconst 0, 1) := by decide +kernel
theorem dX8_init_6 : decode cX8_init 6 = .ok (.iload_n 2, 1) := by decide +kernel
theorem dX8_init_7 : decode cX8_init 7 = .ok (.aload_n 1, 1) := by decide +kernel
theorem dX8_init_8 : decode cX8_init 8 = .ok (.arraylength, 1) := by decide +kernel
theorem dX8_init_9 : decode cX8_init 9 = .ok (.bipush 40, 2) := by decide +kernel
theorem dX8_init_11 : decode cX8_init 11 = .ok (.invokestatic 9, 3) := by decide +kernel
theorem dX8_init_14 : decode cX8_init 14 = .ok (.invokestatic 9, 3) := by decide +kernel
theorem dX8_init_17 : decode cX8_init 17 = .ok (.invokestatic 15, 3) := by decide +kernel
theorem dX8_init_20 : decode cX8_init 20 = .ok (.putfield 18, 3) := by decide +kernel
theorem dX8_init_23 : decode cX8_init 23 = .ok (.aload_n 0, 1) := by decide +kernel
theorem dX8_init_24 : decode cX8_init 24 = .ok (.aload_n 1, 1) := by decide +kernel
theorem dX8_init_25 : decode cX8_init 25 = .ok (.aload_n 0, 1) := by decide +kernel
theorem dX8_init_26 : decode cX8_init 26 = .ok (.getfield 18, 3) := by decide +kernel
theorem dX8_init_29 : decode cX8_init 29 = .ok (.invokestatic 24, 3) := by decide +kernel
theorem dX8_init_32 : decode cX8_init 32 = .ok (.putfield 30, 3) := by decide +kernel
theorem dX8_init_35 : decode cX8_init 35 = .ok (.aload_n 0, 1) := by decide +kernel
theorem dX8_init_36 : decode cX8_init 36 = .ok (.aload_n 0, 1) := by decide +kernel
theorem dX8_init_37 : decode cX8_init 37 = .ok (.getfield 18, 3) := by decide +kernel
theorem dX8_init_40 : decode cX8_init 40 = .ok (.newarray .int, 2) := by decide +kernel
theorem dX8_init_42 : decode cX8_init 42 = .ok (.putfield 34, 3) := by decide +kernel
theorem dX8_init_45 : decode cX8_init 45 = .ok (.aload_n 0, 1) := by decide +kernel
theorem dX8_init_46 : decode cX8_init 46 = .ok (.aload_n 0, 1) := by decide +kernel
theorem dX8_init_47 : decode cX8_init 47 = .ok (.getfield 18, 3) := by decide +kernel
theorem dX8_init_50 : decode cX8_init 50 = .ok (.newarray .int, 2) := by decide +kernel
theorem dX8_init_52 : decode cX8_init 52 = .ok (.putfield 37, 3) := by decide +kernel
theorem dX8_init_55 : decode cX8_init 55 = .ok (.aload_n 0, 1) := by decide +kernel
theorem dX8_init_56 : decode cX8_init 56 = .ok (.aload_n 0, 1) := by decide +kernel
theorem dX8_init_57 : decode cX8_init 57 = .ok (.getfield 18, 3) := by decide +kernel
theorem dX8_init_60 : decode cX8_init 60 = .ok (.newarray .int, 2) := by decide +kernel
theorem dX8_init_62 : decode cX8_init 62 = .ok (.putfield 40, 3) := by decide +kernel
theorem dX8_init_65 : decode cX8_init 65 = .ok (.aload_n 0, 1) := by decide +kernel
theorem dX8_init_66 : decode cX8_init 66 = .ok (.iconst 0, 1) := by decide +kernel
theorem dX8_init_67 : decode cX8_init 67 = .ok (.putfield 43, 3) := by decide +kernel
theorem dX8_init_70 : decode cX8_init 70 = .ok (.aload_n 0, 1) := by decide +kernel
theorem dX8_init_71 : decode cX8_init 71 = .ok (.iconst (-1), 1) := by decide +kernel
theorem dX8_init_72 : decode cX8_init 72 = .ok (.putfield 46, 3) := by decide +kernel
theorem dX8_init_75 : decode cX8_init 75 = .ok (.aload_n 0, 1) := by decide +kernel
theorem dX8_init_76 : decode cX8_init 76 = .ok (.iconst (-1), 1) := by decide +kernel
theorem dX8_init_77 : decode cX8_init 77 = .ok (.putfield 49, 3) := by decide +kernel
theorem dX8_init_80 : decode cX8_init 80 = .ok (.return_, 1) := by decide +kernel
theorem dX8_toldAt_0 : decode cX8_toldAt 0 = .ok (.iload_n 1, 1) := by decide +kernel
theorem dX8_toldAt_1 : decode cX8_toldAt 1 = .ok (.ifCond .lt 20, 3) := by decide +kernel
theorem dX8_toldAt_4 : decode cX8_toldAt 4 = .ok (.iload_n 1, 1) := by decide +kernel
theorem dX8_toldAt_5 : decode cX8_toldAt 5 = .ok (.aload_n 0, 1) := by decide +kernel
theorem dX8_toldAt_6 : decode cX8_toldAt 6 = .ok (.getfield 18, 3) := by decide +kernel
theorem dX8_toldAt_9 : decode cX8_toldAt 9 = .ok (.if_icmp .ge 12, 3) := by decide +kernel
theorem dX8_toldAt_12 : decode cX8_toldAt 12 = .ok (.aload_n 0, 1) := by decide +kernel
theorem dX8_toldAt_13 : decode cX8_toldAt 13 = .ok (.getfield 30, 3) := by decide +kernel
theorem dX8_toldAt_16 : decode cX8_toldAt 16 = .ok (.iload_n 1, 1) := by decide +kernel
theorem dX8_toldAt_17 : decode cX8_toldAt 17 = .ok (.iaload, 1) := by decide +kernel
theorem dX8_toldAt_18 : decode cX8_toldAt 18 = .ok (.goto 4, 3) := by decide +kernel
theorem dX8_toldAt_21 : decode cX8_toldAt 21 = .ok (.iconst (-1), 1) := by decide +kernel
theorem dX8_toldAt_22 : decode cX8_toldAt 22 = .ok (.ireturn, 1) := by decide +kernel
theorem dX8_seenAt_0 : decode cX8_seenAt 0 = .ok (.iload_n 1, 1) := by decide +kernel
theorem dX8_seenAt_1 : decode cX8_seenAt 1 = .ok (.ifCond .lt 20, 3) := by decide +kernel
theorem dX8_seenAt_4 : decode cX8_seenAt 4 = .ok (.iload_n 1, 1) := by decide +kernel
theorem dX8_seenAt_5 : decode cX8_seenAt 5 = .ok (.aload_n 0, 1) := by decide +kernel
theorem dX8_seenAt_6 : decode cX8_seenAt 6 = .ok (.getfield 43, 3) := by decide +kernel
theorem dX8_seenAt_9 : decode cX8_seenAt 9 = .ok (.if_icmp .ge 12, 3) := by decide +kernel
theorem dX8_seenAt_12 : decode cX8_seenAt 12 = .ok (.aload_n 0, 1) := by decide +kernel
theorem dX8_seenAt_13 : decode cX8_seenAt 13 = .ok (.getfield 34, 3) := by decide +kernel
theorem dX8_seenAt_16 : decode cX8_seenAt 16 = .ok (.iload_n 1, 1) := by decide +kernel
theorem dX8_seenAt_17 : decode cX8_seenAt 17 = .ok (.iaload, 1) := by decide +kernel
theorem dX8_seenAt_18 : decode cX8_seenAt 18 = .ok (.goto 4, 3) := by decide +kernel
theorem dX8_seenAt_21 : decode cX8_seenAt 21 = .ok (.iconst (-1), 1) := by decide +kernel
theorem dX8_seenAt_22 : decode cX8_seenAt 22 = .ok (.ireturn, 1) := by decide +kernel
theorem dX8_look_0 : decode cX8_look 0 = .ok (.aload_n 0, 1) := by decide +kernel
theorem dX8_look_1 : decode cX8_look 1 = .ok (.getfield 46, 3) := by decide +kernel
theorem dX8_look_4 : decode cX8_look 4 = .ok (.aload_n 1, 1) := by decide +kernel
theorem dX8_look_5 : decode cX8_look 5 = .ok (.getfield 52, 3) := by decide +kernel
theorem dX8_look_8 : decode cX8_look 8 = .ok (.if_icmp .ne 4, 3) := by decide +kernel
theorem dX8_look_11 : decode cX8_look 11 = .ok (.return_, 1) := by decide +kernel
theorem dX8_look_12 : decode cX8_look 12 = .ok (.aload_n 0, 1) := by decide +kernel
theorem dX8_look_13 : decode cX8_look 13 = .ok (.aload_n 1, 1) := by decide +kernel
theorem dX8_look_14 : decode cX8_look 14 = .ok (.getfield 52, 3) := by decide +kernel
theorem dX8_look_17 : decode cX8_look 17 = .ok (.putfield 46, 3) := by decide +kernel
theorem dX8_look_20 : decode cX8_look 20 = .ok (.aload_n 0, 1) := by decide +kernel
theorem dX8_look_21 : decode cX8_look 21 = .ok (.iconst (-1), 1) := by decide +kernel
theorem dX8_look_22 : decode cX8_look 22 = .ok (.putfield 49, 3) := by decide +kernel
theorem dX8_look_25 : decode cX8_look 25 = .ok (.aload_n 0, 1) := by decide +kernel
theorem dX8_look_26 : decode cX8_look 26 = .ok (.iconst 0, 1) := by decide +kernel
theorem dX8_look_27 : decode cX8_look 27 = .ok (.putfield 43, 3) := by decide +kernel
theorem dX8_look_30 : decode cX8_look 30 = .ok (.iconst 0, 1) := by decide +kernel
theorem dX8_look_31 : decode cX8_look 31 = .ok (.istore_n 2, 1) := by decide +kernel
theorem dX8_look_32 : decode cX8_look 32 = .ok (.iconst 0, 1) := by decide +kernel
theorem dX8_look_33 : decode cX8_look 33 = .ok (.istore_n 3, 1) := by decide +kernel
theorem dX8_look_34 : decode cX8_look 34 = .ok (.iconst 0, 1) := by decide +kernel
theorem dX8_look_35 : decode cX8_look 35 = .ok (.istore 4, 2) := by decide +kernel
theorem dX8_look_37 : decode cX8_look 37 = .ok (.iload 4, 2) := by decide +kernel
theorem dX8_look_39 : decode cX8_look 39 = .ok (.aload_n 0, 1) := by decide +kernel
theorem dX8_look_40 : decode cX8_look 40 = .ok (.getfield 18, 3) := by decide +kernel
theorem dX8_look_43 : decode cX8_look 43 = .ok (.if_icmp .ge 86, 3) := by decide +kernel
theorem dX8_look_46 : decode cX8_look 46 = .ok (.aload_n 1, 1) := by decide +kernel
theorem dX8_look_47 : decode cX8_look 47 = .ok (.aload_n 0, 1) := by decide +kernel
theorem dX8_look_48 : decode cX8_look 48 = .ok (.getfield 30, 3) := by decide +kernel
theorem dX8_look_51 : decode cX8_look 51 = .ok (.iload 4, 2) := by decide +kernel
theorem dX8_look_53 : decode cX8_look 53 = .ok (.iaload, 1) := by decide +kernel
theorem dX8_look_54 : decode cX8_look 54 = .ok (.invokevirtual 57, 3) := by decide +kernel
theorem dX8_look_57 : decode cX8_look 57 = .ok (.istore 5, 2) := by decide +kernel
theorem dX8_look_59 : decode cX8_look 59 = .ok (.iload 5, 2) := by decide +kernel
theorem dX8_look_61 : decode cX8_look 61 = .ok (.ifCond .ne 32, 3) := by decide +kernel
theorem dX8_look_64 : decode cX8_look 64 = .ok (.aload_n 0, 1) := by decide +kernel
theorem dX8_look_65 : decode cX8_look 65 = .ok (.getfield 34, 3) := by decide +kernel
theorem dX8_look_68 : decode cX8_look 68 = .ok (.aload_n 0, 1) := by decide +kernel
theorem dX8_look_69 : decode cX8_look 69 = .ok (.getfield 43, 3) := by decide +kernel
theorem dX8_look_72 : decode cX8_look 72 = .ok (.aload_n 0, 1) := by decide +kernel
theorem dX8_look_73 : decode cX8_look 73 = .ok (.getfield 30, 3) := by decide +kernel
theorem dX8_look_76 : decode cX8_look 76 = .ok (.iload 4, 2) := by decide +kernel
theorem dX8_look_78 : decode cX8_look 78 = .ok (.iaload, 1) := by decide +kernel
theorem dX8_look_79 : decode cX8_look 79 = .ok (.iastore, 1) := by decide +kernel
theorem dX8_look_80 : decode cX8_look 80 = .ok (.aload_n 0, 1) := by decide +kernel
theorem dX8_look_81 : decode cX8_look 81 = .ok (.dup, 1) := by decide +kernel
theorem dX8_look_82 : decode cX8_look 82 = .ok (.getfield 43, 3) := by decide +kernel
theorem dX8_look_85 : decode cX8_look 85 = .ok (.iconst 1, 1) := by decide +kernel
theorem dX8_look_86 : decode cX8_look 86 = .ok (.iadd, 1) := by decide +kernel
theorem dX8_look_87 : decode cX8_look 87 = .ok (.putfield 43, 3) := by decide +kernel
theorem dX8_look_90 : decode cX8_look 90 = .ok (.goto 33, 3) := by decide +kernel
theorem dX8_look_93 : decode cX8_look 93 = .ok (.iload 5, 2) := by decide +kernel
theorem dX8_look_95 : decode cX8_look 95 = .ok (.iconst 2, 1) := by decide +kernel
theorem dX8_look_96 : decode cX8_look 96 = .ok (.if_icmp .ne 27, 3) := by decide +kernel
theorem dX8_look_99 : decode cX8_look 99 = .ok (.iload_n 2, 1) := by decide +kernel
theorem dX8_look_100 : decode cX8_look 100 = .ok (.ifCond .eq 8, 3) := by decide +kernel
theorem dX8_look_103 : decode cX8_look 103 = .ok (.aload_n 0, 1) := by decide +kernel
theorem dX8_look_104 : decode cX8_look 104 = .ok (.iload_n 3, 1) := by decide +kernel
theorem dX8_look_105 : decode cX8_look 105 = .ok (.invokevirtual 61, 3) := by decide +kernel
theorem dX8_look_108 : decode cX8_look 108 = .ok (.iload_n 2, 1) := by decide +kernel
theorem dX8_look_109 : decode cX8_look 109 = .ok (.ifCond .ne 7, 3) := by decide +kernel
theorem dX8_look_112 : decode cX8_look 112 = .ok (.iconst 1, 1) := by decide +kernel
theorem dX8_look_113 : decode cX8_look 113 = .ok (.goto 4, 3) := by decide +kernel
theorem dX8_look_116 : decode cX8_look 116 = .ok (.iconst 0, 1) := by decide +kernel
theorem dX8_look_117 : decode cX8_look 117 = .ok (.istore_n 2, 1) := by decide +kernel
theorem dX8_look_118 : decode cX8_look 118 = .ok (.aload_n 0, 1) := by decide +kernel
theorem dX8_look_119 : decode cX8_look 119 = .ok (.getfield 43, 3) := by decide +kernel
theorem dX8_look_122 : decode cX8_look 122 = .ok (.istore_n 3, 1) := by decide +kernel
theorem dX8_look_123 : decode cX8_look 123 = .ok (.iinc 4 1, 3) := by decide +kernel
theorem dX8_look_126 : decode cX8_look 126 = .ok (.goto (-89), 3) := by decide +kernel
theorem dX8_look_129 : decode cX8_look 129 = .ok (.iload_n 2, 1) := by decide +kernel
theorem dX8_look_130 : decode cX8_look 130 = .ok (.ifCond .eq 8, 3) := by decide +kernel
theorem dX8_look_133 : decode cX8_look 133 = .ok (.aload_n 0, 1) := by decide +kernel
theorem dX8_look_134 : decode cX8_look 134 = .ok (.iload_n 3, 1) := by decide +kernel
theorem dX8_look_135 : decode cX8_look 135 = .ok (.invokevirtual 61, 3) := by decide +kernel
theorem dX8_look_138 : decode cX8_look 138 = .ok (.return_, 1) := by decide +kernel
theorem dX8_turnFrom_0 : decode cX8_turnFrom 0 = .ok (.aload_n 0, 1) := by decide +kernel
theorem dX8_turnFrom_1 : decode cX8_turnFrom 1 = .ok (.getfield 43, 3) := by decide +kernel
theorem dX8_turnFrom_4 : decode cX8_turnFrom 4 = .ok (.iconst 1, 1) := by decide +kernel
theorem dX8_turnFrom_5 : decode cX8_turnFrom 5 = .ok (.isub, 1) := by decide +kernel
theorem dX8_turnFrom_6 : decode cX8_turnFrom 6 = .ok (.istore_n 2, 1) := by decide +kernel
theorem dX8_turnFrom_7 : decode cX8_turnFrom 7 = .ok (.iconst 0, 1) := by decide +kernel
theorem dX8_turnFrom_8 : decode cX8_turnFrom 8 = .ok (.iload_n 1, 1) := by decide +kernel
theorem dX8_turnFrom_9 : decode cX8_turnFrom 9 = .ok (.invokestatic 15, 3) := by decide +kernel
theorem dX8_turnFrom_12 : decode cX8_turnFrom 12 = .ok (.istore_n 3, 1) := by decide +kernel
theorem dX8_turnFrom_13 : decode cX8_turnFrom 13 = .ok (.iload_n 3, 1) := by decide +kernel
theorem dX8_turnFrom_14 : decode cX8_turnFrom 14 = .ok (.iload_n 2, 1) := by decide +kernel
theorem dX8_turnFrom_15 : decode cX8_turnFrom 15 = .ok (.if_icmp .ge 40, 3) := by decide +kernel
theorem dX8_turnFrom_18 : decode cX8_turnFrom 18 = .ok (.aload_n 0, 1) := by decide +kernel
theorem dX8_turnFrom_19 : decode cX8_turnFrom 19 = .ok (.getfield 34, 3) := by decide +kernel
theorem dX8_turnFrom_22 : decode cX8_turnFrom 22 = .ok (.iload_n 3, 1) := by decide +kernel
theorem dX8_turnFrom_23 : decode cX8_turnFrom 23 = .ok (.iaload, 1) := by decide +kernel
theorem dX8_turnFrom_24 : decode cX8_turnFrom 24 = .ok (.istore 4, 2) := by decide +kernel
theorem dX8_turnFrom_26 : decode cX8_turnFrom 26 = .ok (.aload_n 0, 1) := by decide +kernel
theorem dX8_turnFrom_27 : decode cX8_turnFrom 27 = .ok (.getfield 34, 3) := by decide +kernel
theorem dX8_turnFrom_30 : decode cX8_turnFrom 30 = .ok (.iload_n 3, 1) := by decide +kernel
theorem dX8_turnFrom_31 : decode cX8_turnFrom 31 = .ok (.aload_n 0, 1) := by decide +kernel
theorem dX8_turnFrom_32 : decode cX8_turnFrom 32 = .ok (.getfield 34, 3) := by decide +kernel
theorem dX8_turnFrom_35 : decode cX8_turnFrom 35 = .ok (.iload_n 2, 1) := by decide +kernel
theorem dX8_turnFrom_36 : decode cX8_turnFrom 36 = .ok (.iaload, 1) := by decide +kernel
theorem dX8_turnFrom_37 : decode cX8_turnFrom 37 = .ok (.iastore, 1) := by decide +kernel
theorem dX8_turnFrom_38 : decode cX8_turnFrom 38 = .ok (.aload_n 0, 1) := by decide +kernel
theorem dX8_turnFrom_39 : decode cX8_turnFrom 39 = .ok (.getfield 34, 3) := by decide +kernel
theorem dX8_turnFrom_42 : decode cX8_turnFrom 42 = .ok (.iload_n 2, 1) := by decide +kernel
theorem dX8_turnFrom_43 : decode cX8_turnFrom 43 = .ok (.iload 4, 2) := by decide +kernel
theorem dX8_turnFrom_45 : decode cX8_turnFrom 45 = .ok (.iastore, 1) := by decide +kernel
theorem dX8_turnFrom_46 : decode cX8_turnFrom 46 = .ok (.iinc 2 (-1), 3) := by decide +kernel
theorem dX8_turnFrom_49 : decode cX8_turnFrom 49 = .ok (.iinc 3 1, 3) := by decide +kernel
theorem dX8_turnFrom_52 : decode cX8_turnFrom 52 = .ok (.goto (-39), 3) := by decide +kernel
theorem dX8_turnFrom_55 : decode cX8_turnFrom 55 = .ok (.return_, 1) := by decide +kernel
theorem dX8_findPieces_0 : decode cX8_findPieces 0 = .ok (.aload_n 0, 1) := by decide +kernel
theorem dX8_findPieces_1 : decode cX8_findPieces 1 = .ok (.getfield 49, 3) := by decide +kernel
theorem dX8_findPieces_4 : decode cX8_findPieces 4 = .ok (.aload_n 1, 1) := by decide +kernel
theorem dX8_findPieces_5 : decode cX8_findPieces 5 = .ok (.getfield 65, 3) := by decide +kernel
theorem dX8_findPieces_8 : decode cX8_findPieces 8 = .ok (.if_icmp .ne 4, 3) := by decide +kernel
theorem dX8_findPieces_11 : decode cX8_findPieces 11 = .ok (.return_, 1) := by decide +kernel
theorem dX8_findPieces_12 : decode cX8_findPieces 12 = .ok (.aload_n 0, 1) := by decide +kernel
theorem dX8_findPieces_13 : decode cX8_findPieces 13 = .ok (.aload_n 1, 1) := by decide +kernel
theorem dX8_findPieces_14 : decode cX8_findPieces 14 = .ok (.getfield 65, 3) := by decide +kernel
theorem dX8_findPieces_17 : decode cX8_findPieces 17 = .ok (.putfield 49, 3) := by decide +kernel
theorem dX8_findPieces_20 : decode cX8_findPieces 20 = .ok (.iconst 0, 1) := by decide +kernel
theorem dX8_findPieces_21 : decode cX8_findPieces 21 = .ok (.istore_n 2, 1) := by decide +kernel
theorem dX8_findPieces_22 : decode cX8_findPieces 22 = .ok (.iload_n 2, 1) := by decide +kernel
theorem dX8_findPieces_23 : decode cX8_findPieces 23 = .ok (.aload_n 0, 1) := by decide +kernel
theorem dX8_findPieces_24 : decode cX8_findPieces 24 = .ok (.getfield 43, 3) := by decide +kernel
theorem dX8_findPieces_27 : decode cX8_findPieces 27 = .ok (.if_icmp .ge 55, 3) := by decide +kernel
theorem dX8_findPieces_30 : decode cX8_findPieces 30 = .ok (.aload_n 0, 1) := by decide +kernel
theorem dX8_findPieces_31 : decode cX8_findPieces 31 = .ok (.getfield 37, 3) := by decide +kernel
theorem dX8_findPieces_34 : decode cX8_findPieces 34 = .ok (.iload_n 2, 1) := by decide +kernel
theorem dX8_findPieces_35 : decode cX8_findPieces 35 = .ok (.aload_n 1, 1) := by decide +kernel
theorem dX8_findPieces_36 : decode cX8_findPieces 36 = .ok (.aload_n 0, 1) := by decide +kernel
theorem dX8_findPieces_37 : decode cX8_findPieces 37 = .ok (.getfield 34, 3) := by decide +kernel
theorem dX8_findPieces_40 : decode cX8_findPieces 40 = .ok (.iload_n 2, 1) := by decide +kernel
theorem dX8_findPieces_41 : decode cX8_findPieces 41 = .ok (.iaload, 1) := by decide +kernel
theorem dX8_findPieces_42 : decode cX8_findPieces 42 = .ok (.invokevirtual 68, 3) := by decide +kernel
theorem dX8_findPieces_45 : decode cX8_findPieces 45 = .ok (.iastore, 1) := by decide +kernel
theorem dX8_findPieces_46 : decode cX8_findPieces 46 = .ok (.aload_n 0, 1) := by decide +kernel
theorem dX8_findPieces_47 : decode cX8_findPieces 47 = .ok (.getfield 40, 3) := by decide +kernel
theorem dX8_findPieces_50 : decode cX8_findPieces 50 = .ok (.iload_n 2, 1) := by decide +kernel
theorem dX8_findPieces_51 : decode cX8_findPieces 51 = .ok (.iload_n 2, 1) := by decide +kernel
theorem dX8_findPieces_52 : decode cX8_findPieces 52 = .ok (.iconst 1, 1) := by decide +kernel
theorem dX8_findPieces_53 : decode cX8_findPieces 53 = .ok (.iadd, 1) := by decide +kernel
theorem dX8_findPieces_54 : decode cX8_findPieces 54 = .ok (.aload_n 0, 1) := by decide +kernel
theorem dX8_findPieces_55 : decode cX8_findPieces 55 = .ok (.getfield 43, 3) := by decide +kernel
theorem dX8_findPieces_58 : decode cX8_findPieces 58 = .ok (.if_icmp .ge 16, 3) := by decide +kernel
theorem dX8_findPieces_61 : decode cX8_findPieces 61 = .ok (.aload_n 1, 1) := by decide +kernel
theorem dX8_findPieces_62 : decode cX8_findPieces 62 = .ok (.aload_n 0, 1) := by decide +kernel
theorem dX8_findPieces_63 : decode cX8_findPieces 63 = .ok (.iload_n 2, 1) := by decide +kernel
theorem dX8_findPieces_64 : decode cX8_findPieces 64 = .ok (.iconst 2, 1) := by decide +kernel
theorem dX8_findPieces_65 : decode cX8_findPieces 65 = .ok (.invokevirtual 71, 3) := by decide +kernel
theorem dX8_findPieces_68 : decode cX8_findPieces 68 = .ok (.invokevirtual 68, 3) := by decide +kernel
theorem dX8_findPieces_71 : decode cX8_findPieces 71 = .ok (.goto 4, 3) := by decide +kernel
theorem dX8_findPieces_74 : decode cX8_findPieces 74 = .ok (.iconst (-1), 1) := by decide +kernel
theorem dX8_findPieces_75 : decode cX8_findPieces 75 = .ok (.iastore, 1) := by decide +kernel
theorem dX8_findPieces_76 : decode cX8_findPieces 76 = .ok (.iinc 2 1, 3) := by decide +kernel
theorem dX8_findPieces_79 : decode cX8_findPieces 79 = .ok (.goto (-57), 3) := by decide +kernel
theorem dX8_findPieces_82 : decode cX8_findPieces 82 = .ok (.return_, 1) := by decide +kernel
theorem dX8_pieceAt_0 : decode cX8_pieceAt 0 = .ok (.iload_n 2, 1) := by decide +kernel
theorem dX8_pieceAt_1 : decode cX8_pieceAt 1 = .ok (.iconst 1, 1) := by decide +kernel
theorem dX8_pieceAt_2 : decode cX8_pieceAt 2 = .ok (.if_icmp .ne 11, 3) := by decide +kernel
theorem dX8_pieceAt_5 : decode cX8_pieceAt 5 = .ok (.aload_n 0, 1) := by decide +kernel
theorem dX8_pieceAt_6 : decode cX8_pieceAt 6 = .ok (.iload_n 1, 1) := by decide +kernel
theorem dX8_pieceAt_7 : decode cX8_pieceAt 7 = .ok (.invokevirtual 74, 3) := by decide +kernel
theorem dX8_pieceAt_10 : decode cX8_pieceAt 10 = .ok (.goto 20, 3) := by decide +kernel
theorem dX8_pieceAt_13 : decode cX8_pieceAt 13 = .ok (.sipush 256, 3) := by decide +kernel
theorem dX8_pieceAt_16 : decode cX8_pieceAt 16 = .ok (.aload_n 0, 1) := by decide +kernel
theorem dX8_pieceAt_17 : decode cX8_pieceAt 17 = .ok (.iload_n 1, 1) := by decide +kernel
theorem dX8_pieceAt_18 : decode cX8_pieceAt 18 = .ok (.invokevirtual 74, 3) := by decide +kernel
theorem dX8_pieceAt_21 : decode cX8_pieceAt 21 = .ok (.imul, 1) := by decide +kernel
theorem dX8_pieceAt_22 : decode cX8_pieceAt 22 = .ok (.aload_n 0, 1) := by decide +kernel
theorem dX8_pieceAt_23 : decode cX8_pieceAt 23 = .ok (.iload_n 1, 1) := by decide +kernel
theorem dX8_pieceAt_24 : decode cX8_pieceAt 24 = .ok (.iconst 1, 1) := by decide +kernel
theorem dX8_pieceAt_25 : decode cX8_pieceAt 25 = .ok (.iadd, 1) := by decide +kernel
theorem dX8_pieceAt_26 : decode cX8_pieceAt 26 = .ok (.invokevirtual 74, 3) := by decide +kernel
theorem dX8_pieceAt_29 : decode cX8_pieceAt 29 = .ok (.iadd, 1) := by decide +kernel
theorem dX8_pieceAt_30 : decode cX8_pieceAt 30 = .ok (.ireturn, 1) := by decide +kernel
theorem dX8_pieceIndexAt_0 : decode cX8_pieceIndexAt 0 = .ok (.iload_n 1, 1) := by decide +kernel
theorem dX8_pieceIndexAt_1 : decode cX8_pieceIndexAt 1 = .ok (.ifCond .lt 11, 3) := by decide +kernel
theorem dX8_pieceIndexAt_4 : decode cX8_pieceIndexAt 4 = .ok (.iload_n 1, 1) := by decide +kernel
theorem dX8_pieceIndexAt_5 : decode cX8_pieceIndexAt 5 = .ok (.aload_n 0, 1) := by decide +kernel
theorem dX8_pieceIndexAt_6 : decode cX8_pieceIndexAt 6 = .ok (.getfield 43, 3) := by decide +kernel
theorem dX8_pieceIndexAt_9 : decode cX8_pieceIndexAt 9 = .ok (.if_icmp .lt 5, 3) := by decide +kernel
theorem dX8_pieceIndexAt_12 : decode cX8_pieceIndexAt 12 = .ok (.iconst (-1), 1) := by decide +kernel
theorem dX8_pieceIndexAt_13 : decode cX8_pieceIndexAt 13 = .ok (.ireturn, 1) := by decide +kernel
theorem dX8_pieceIndexAt_14 : decode cX8_pieceIndexAt 14 = .ok (.iload_n 2, 1) := by decide +kernel
theorem dX8_pieceIndexAt_15 : decode cX8_pieceIndexAt 15 = .ok (.iconst 1, 1) := by decide +kernel
theorem dX8_pieceIndexAt_16 : decode cX8_pieceIndexAt 16 = .ok (.if_icmp .ne 12, 3) := by decide +kernel
theorem dX8_pieceIndexAt_19 : decode cX8_pieceIndexAt 19 = .ok (.aload_n 0, 1) := by decide +kernel
theorem dX8_pieceIndexAt_20 : decode cX8_pieceIndexAt 20 = .ok (.getfield 37, 3) := by decide +kernel
theorem dX8_pieceIndexAt_23 : decode cX8_pieceIndexAt 23 = .ok (.iload_n 1, 1) := by decide +kernel
theorem dX8_pieceIndexAt_24 : decode cX8_pieceIndexAt 24 = .ok (.iaload, 1) := by decide +kernel
theorem dX8_pieceIndexAt_25 : decode cX8_pieceIndexAt 25 = .ok (.goto 9, 3) := by decide +kernel
theorem dX8_pieceIndexAt_28 : decode cX8_pieceIndexAt 28 = .ok (.aload_n 0, 1) := by decide +kernel
theorem dX8_pieceIndexAt_29 : decode cX8_pieceIndexAt 29 = .ok (.getfield 40, 3) := by decide +kernel
theorem dX8_pieceIndexAt_32 : decode cX8_pieceIndexAt 32 = .ok (.iload_n 1, 1) := by decide +kernel
theorem dX8_pieceIndexAt_33 : decode cX8_pieceIndexAt 33 = .ok (.iaload, 1) := by decide +kernel
theorem dX8_pieceIndexAt_34 : decode cX8_pieceIndexAt 34 = .ok (.ireturn, 1) := by decide +kernel
theorem dX8_isSeenAs_0 : decode cX8_isSeenAs 0 = .ok (.aload_n 0, 1) := by decide +kernel
theorem dX8_isSeenAs_1 : decode cX8_isSeenAs 1 = .ok (.getfield 43, 3) := by decide +kernel
theorem dX8_isSeenAs_4 : decode cX8_isSeenAs 4 = .ok (.aload_n 1, 1) := by decide +kernel
theorem dX8_isSeenAs_5 : decode cX8_isSeenAs 5 = .ok (.getfield 43, 3) := by decide +kernel
theorem dX8_isSeenAs_8 : decode cX8_isSeenAs 8 = .ok (.if_icmp .eq 5, 3) := by decide +kernel
theorem dX8_isSeenAs_11 : decode cX8_isSeenAs 11 = .ok (.iconst 0, 1) := by decide +kernel
theorem dX8_isSeenAs_12 : decode cX8_isSeenAs 12 = .ok (.ireturn, 1) := by decide +kernel
theorem dX8_isSeenAs_13 : decode cX8_isSeenAs 13 = .ok (.iconst 0, 1) := by decide +kernel
theorem dX8_isSeenAs_14 : decode cX8_isSeenAs 14 = .ok (.istore_n 2, 1) := by decide +kernel
theorem dX8_isSeenAs_15 : decode cX8_isSeenAs 15 = .ok (.iload_n 2, 1) := by decide +kernel
theorem dX8_isSeenAs_16 : decode cX8_isSeenAs 16 = .ok (.aload_n 0, 1) := by decide +kernel
theorem dX8_isSeenAs_17 : decode cX8_isSeenAs 17 = .ok (.getfield 43, 3) := by decide +kernel
theorem dX8_isSeenAs_20 : decode cX8_isSeenAs 20 = .ok (.if_icmp .ge 25, 3) := by decide +kernel
theorem dX8_isSeenAs_23 : decode cX8_isSeenAs 23 = .ok (.aload_n 0, 1) := by decide +kernel
theorem dX8_isSeenAs_24 : decode cX8_isSeenAs 24 = .ok (.getfield 34, 3) := by decide +kernel
theorem dX8_isSeenAs_27 : decode cX8_isSeenAs 27 = .ok (.iload_n 2, 1) := by decide +kernel
theorem dX8_isSeenAs_28 : decode cX8_isSeenAs 28 = .ok (.iaload, 1) := by decide +kernel
theorem dX8_isSeenAs_29 : decode cX8_isSeenAs 29 = .ok (.aload_n 1, 1) := by decide +kernel
theorem dX8_isSeenAs_30 : decode cX8_isSeenAs 30 = .ok (.iload_n 2, 1) := by decide +kernel
theorem dX8_isSeenAs_31 : decode cX8_isSeenAs 31 = .ok (.invokevirtual 74, 3) := by decide +kernel
theorem dX8_isSeenAs_34 : decode cX8_isSeenAs 34 = .ok (.if_icmp .eq 5, 3) := by decide +kernel
theorem dX8_isSeenAs_37 : decode cX8_isSeenAs 37 = .ok (.iconst 0, 1) := by decide +kernel
theorem dX8_isSeenAs_38 : decode cX8_isSeenAs 38 = .ok (.ireturn, 1) := by decide +kernel
theorem dX8_isSeenAs_39 : decode cX8_isSeenAs 39 = .ok (.iinc 2 1, 3) := by decide +kernel
theorem dX8_isSeenAs_42 : decode cX8_isSeenAs 42 = .ok (.goto (-27), 3) := by decide +kernel
theorem dX8_isSeenAs_45 : decode cX8_isSeenAs 45 = .ok (.iconst 1, 1) := by decide +kernel
theorem dX8_isSeenAs_46 : decode cX8_isSeenAs 46 = .ok (.ireturn, 1) := by decide +kernel
theorem dX8_scriptBits_0 : decode cX8_scriptBits 0 = .ok (.iconst 0, 1) := by decide +kernel
theorem dX8_scriptBits_1 : decode cX8_scriptBits 1 = .ok (.istore_n 2, 1) := by decide +kernel
theorem dX8_scriptBits_2 : decode cX8_scriptBits 2 = .ok (.iconst 0, 1) := by decide +kernel
theorem dX8_scriptBits_3 : decode cX8_scriptBits 3 = .ok (.istore_n 3, 1) := by decide +kernel
theorem dX8_scriptBits_4 : decode cX8_scriptBits 4 = .ok (.iload_n 3, 1) := by decide +kernel
theorem dX8_scriptBits_5 : decode cX8_scriptBits 5 = .ok (.aload_n 0, 1) := by decide +kernel
theorem dX8_scriptBits_6 : decode cX8_scriptBits 6 = .ok (.getfield 43, 3) := by decide +kernel
theorem dX8_scriptBits_9 : decode cX8_scriptBits 9 = .ok (.if_icmp .ge 24, 3) := by decide +kernel
theorem dX8_scriptBits_12 : decode cX8_scriptBits 12 = .ok (.iload_n 2, 1) := by decide +kernel
theorem dX8_scriptBits_13 : decode cX8_scriptBits 13 = .ok (.iconst 1, 1) := by decide +kernel
theorem dX8_scriptBits_14 : decode cX8_scriptBits 14 = .ok (.aload_n 1, 1) := by decide +kernel
theorem dX8_scriptBits_15 : decode cX8_scriptBits 15 = .ok (.aload_n 0, 1) := by decide +kernel
theorem dX8_scriptBits_16 : decode cX8_scriptBits 16 = .ok (.getfield 34, 3) := by decide +kernel
theorem dX8_scriptBits_19 : decode cX8_scriptBits 19 = .ok (.iload_n 3, 1) := by decide +kernel
theorem dX8_scriptBits_20 : decode cX8_scriptBits 20 = .ok (.iaload, 1) := by decide +kernel
theorem dX8_scriptBits_21 : decode cX8_scriptBits 21 = .ok (.invokevirtual 77, 3) := by decide +kernel
theorem dX8_scriptBits_24 : decode cX8_scriptBits 24 = .ok (.ishl, 1) := by decide +kernel
theorem dX8_scriptBits_25 : decode cX8_scriptBits 25 = .ok (.ior, 1) := by decide +kernel
theorem dX8_scriptBits_26 : decode cX8_scriptBits 26 = .ok (.istore_n 2, 1) := by decide +kernel
theorem dX8_scriptBits_27 : decode cX8_scriptBits 27 = .ok (.iinc 3 1, 3) := by decide +kernel
theorem dX8_scriptBits_30 : decode cX8_scriptBits 30 = .ok (.goto (-26), 3) := by decide +kernel
theorem dX8_scriptBits_33 : decode cX8_scriptBits 33 = .ok (.iload_n 2, 1) := by decide +kernel
theorem dX8_scriptBits_34 : decode cX8_scriptBits 34 = .ok (.sipush 254, 3) := by decide +kernel
theorem dX8_scriptBits_37 : decode cX8_scriptBits 37 = .ok (.iand, 1) := by decide +kernel
theorem dX8_scriptBits_38 : decode cX8_scriptBits 38 = .ok (.ireturn, 1) := by decide +kernel
theorem dX8_has_0 : decode cX8_has 0 = .ok (.iconst 0, 1) := by decide +kernel
theorem dX8_has_1 : decode cX8_has 1 = .ok (.istore_n 3, 1) := by decide +kernel
theorem dX8_has_2 : decode cX8_has 2 = .ok (.iload_n 3, 1) := by decide +kernel
theorem dX8_has_3 : decode cX8_has 3 = .ok (.aload_n 0, 1) := by decide +kernel
theorem dX8_has_4 : decode cX8_has 4 = .ok (.getfield 18, 3) := by decide +kernel
theorem dX8_has_7 : decode cX8_has 7 = .ok (.if_icmp .ge 25, 3) := by decide +kernel
theorem dX8_has_10 : decode cX8_has 10 = .ok (.aload_n 2, 1) := by decide +kernel
theorem dX8_has_11 : decode cX8_has 11 = .ok (.aload_n 0, 1) := by decide +kernel
theorem dX8_has_12 : decode cX8_has 12 = .ok (.getfield 30, 3) := by decide +kernel
theorem dX8_has_15 : decode cX8_has 15 = .ok (.iload_n 3, 1) := by decide +kernel
theorem dX8_has_16 : decode cX8_has 16 = .ok (.iaload, 1) := by decide +kernel
theorem dX8_has_17 : decode cX8_has 17 = .ok (.invokevirtual 57, 3) := by decide +kernel
theorem dX8_has_20 : decode cX8_has 20 = .ok (.iload_n 1, 1) := by decide +kernel
theorem dX8_has_21 : decode cX8_has 21 = .ok (.if_icmp .ne 5, 3) := by decide +kernel
theorem dX8_has_24 : decode cX8_has 24 = .ok (.iconst 1, 1) := by decide +kernel
theorem dX8_has_25 : decode cX8_has 25 = .ok (.ireturn, 1) := by decide +kernel
theorem dX8_has_26 : decode cX8_has 26 = .ok (.iinc 3 1, 3) := by decide +kernel
theorem dX8_has_29 : decode cX8_has 29 = .ok (.goto (-27), 3) := by decide +kernel
theorem dX8_has_32 : decode cX8_has 32 = .ok (.iconst 0, 1) := by decide +kernel
theorem dX8_has_33 : decode cX8_has 33 = .ok (.ireturn, 1) := by decide +kernel
theorem dX8_isPadded_0 : decode cX8_isPadded 0 = .ok (.aload_n 0, 1) := by decide +kernel
theorem dX8_isPadded_1 : decode cX8_isPadded 1 = .ok (.getfield 18, 3) := by decide +kernel
theorem dX8_isPadded_4 : decode cX8_isPadded 4 = .ok (.ifCond .le 40, 3) := by decide +kernel
theorem dX8_isPadded_7 : decode cX8_isPadded 7 = .ok (.aload_n 1, 1) := by decide +kernel
theorem dX8_isPadded_8 : decode cX8_isPadded 8 = .ok (.aload_n 0, 1) := by decide +kernel
theorem dX8_isPadded_9 : decode cX8_isPadded 9 = .ok (.getfield 30, 3) := by decide +kernel
theorem dX8_isPadded_12 : decode cX8_isPadded 12 = .ok (.iconst 0, 1) := by decide +kernel
theorem dX8_isPadded_13 : decode cX8_isPadded 13 = .ok (.iaload, 1) := by decide +kernel
theorem dX8_isPadded_14 : decode cX8_isPadded 14 = .ok (.invokevirtual 57, 3) := by decide +kernel
theorem dX8_isPadded_17 : decode cX8_isPadded 17 = .ok (.iconst 1, 1) := by decide +kernel
theorem dX8_isPadded_18 : decode cX8_isPadded 18 = .ok (.if_icmp .eq 22, 3) := by decide +kernel
theorem dX8_isPadded_21 : decode cX8_isPadded 21 = .ok (.aload_n 1, 1) := by decide +kernel
theorem dX8_isPadded_22 : decode cX8_isPadded 22 = .ok (.aload_n 0, 1) := by decide +kernel
theorem dX8_isPadded_23 : decode cX8_isPadded 23 = .ok (.getfield 30, 3) := by decide +kernel
theorem dX8_isPadded_26 : decode cX8_isPadded 26 = .ok (.aload_n 0, 1) := by decide +kernel
theorem dX8_isPadded_27 : decode cX8_isPadded 27 = .ok (.getfield 18, 3) := by decide +kernel
theorem dX8_isPadded_30 : decode cX8_isPadded 30 = .ok (.iconst 1, 1) := by decide +kernel
theorem dX8_isPadded_31 : decode cX8_isPadded 31 = .ok (.isub, 1) := by decide +kernel
theorem dX8_isPadded_32 : decode cX8_isPadded 32 = .ok (.iaload, 1) := by decide +kernel
theorem dX8_isPadded_33 : decode cX8_isPadded 33 = .ok (.invokevirtual 57, 3) := by decide +kernel
theorem dX8_isPadded_36 : decode cX8_isPadded 36 = .ok (.iconst 1, 1) := by decide +kernel
theorem dX8_isPadded_37 : decode cX8_isPadded 37 = .ok (.if_icmp .ne 7, 3) := by decide +kernel
theorem dX8_isPadded_40 : decode cX8_isPadded 40 = .ok (.iconst 1, 1) := by decide +kernel
theorem dX8_isPadded_41 : decode cX8_isPadded 41 = .ok (.goto 4, 3) := by decide +kernel
theorem dX8_isPadded_44 : decode cX8_isPadded 44 = .ok (.iconst 0, 1) := by decide +kernel
theorem dX8_isPadded_45 : decode cX8_isPadded 45 = .ok (.ireturn, 1) := by decide +kernel
theorem dX9_init_0 : decode cX9_init 0 = .ok (.aload_n 0, 1) := by decide +kernel
theorem dX9_init_1 : decode cX9_init 1 = .ok (.invokespecial 3, 3) := by decide +kernel
theorem dX9_init_4 : decode cX9_init 4 = .ok (.aload_n 0, 1) := by decide +kernel
theorem dX9_init_5 : decode cX9_init 5 = .ok (.bipush 40, 2) := by decide +kernel
theorem dX9_init_7 : decode cX9_init 7 = .ok (.newarray .int, 2) := by decide +kernel
theorem dX9_init_9 : decode cX9_init 9 = .ok (.putfield 9, 3) := by decide +kernel
theorem dX9_init_12 : decode cX9_init 12 = .ok (.aload_n 0, 1) := by decide +kernel
theorem dX9_init_13 : decode cX9_init 13 = .ok (.bipush 40, 2) := by decide +kernel
theorem dX9_init_15 : decode cX9_init 15 = .ok (.newarray .int, 2) := by decide +kernel
theorem dX9_init_17 : decode cX9_init 17 = .ok (.putfield 15, 3) := by decide +kernel
theorem dX9_init_20 : decode cX9_init 20 = .ok (.aload_n 0, 1) := by decide +kernel
theorem dX9_init_21 : decode cX9_init 21 = .ok (.bipush 40, 2) := by decide +kernel
theorem dX9_init_23 : decode cX9_init 23 = .ok (.newarray .int, 2) := by decide +kernel
theorem dX9_init_25 : decode cX9_init 25 = .ok (.putfield 18, 3) := by decide +kernel
theorem dX9_init_28 : decode cX9_init 28 = .ok (.aload_n 0, 1) := by decide +kernel
theorem dX9_init_29 : decode cX9_init 29 = .ok (.iconst 0, 1) := by decide +kernel
theorem dX9_init_30 : decode cX9_init 30 = .ok (.putfield 21, 3) := by decide +kernel
theorem dX9_init_33 : decode cX9_init 33 = .ok (.return_, 1) := by decide +kernel
theorem dX9_add_0 : decode cX9_add 0 = .ok (.aload_n 0, 1) := by decide +kernel
theorem dX9_add_1 : decode cX9_add 1 = .ok (.getfield 21, 3) := by decide +kernel
theorem dX9_add_4 : decode cX9_add 4 = .ok (.bipush 40, 2) := by decide +kernel
theorem dX9_add_6 : decode cX9_add 6 = .ok (.if_icmp .lt 4, 3) := by decide +kernel
theorem dX9_add_9 : decode cX9_add 9 = .ok (.return_, 1) := by decide +kernel
theorem dX9_add_10 : decode cX9_add 10 = .ok (.aload_n 0, 1) := by decide +kernel
theorem dX9_add_11 : decode cX9_add 11 = .ok (.getfield 9, 3) := by decide +kernel
theorem dX9_add_14 : decode cX9_add 14 = .ok (.aload_n 0, 1) := by decide +kernel
theorem dX9_add_15 : decode cX9_add 15 = .ok (.getfield 21, 3) := by decide +kernel
theorem dX9_add_18 : decode cX9_add 18 = .ok (.iload_n 1, 1) := by decide +kernel
theorem dX9_add_19 : decode cX9_add 19 = .ok (.iastore, 1) := by decide +kernel
theorem dX9_add_20 : decode cX9_add 20 = .ok (.aload_n 0, 1) := by decide +kernel
theorem dX9_add_21 : decode cX9_add 21 = .ok (.getfield 15, 3) := by decide +kernel
theorem dX9_add_24 : decode cX9_add 24 = .ok (.aload_n 0, 1) := by decide +kernel
theorem dX9_add_25 : decode cX9_add 25 = .ok (.getfield 21, 3) := by decide +kernel
theorem dX9_add_28 : decode cX9_add 28 = .ok (.iload_n 2, 1) := by decide +kernel
theorem dX9_add_29 : decode cX9_add 29 = .ok (.iastore, 1) := by decide +kernel
theorem dX9_add_30 : decode cX9_add 30 = .ok (.aload_n 0, 1) := by decide +kernel
theorem dX9_add_31 : decode cX9_add 31 = .ok (.getfield 18, 3) := by decide +kernel
theorem dX9_add_34 : decode cX9_add 34 = .ok (.aload_n 0, 1) := by decide +kernel
theorem dX9_add_35 : decode cX9_add 35 = .ok (.getfield 21, 3) := by decide +kernel
theorem dX9_add_38 : decode cX9_add 38 = .ok (.iload_n 3, 1) := by decide +kernel
theorem dX9_add_39 : decode cX9_add 39 = .ok (.iastore, 1) := by decide +kernel
theorem dX9_add_40 : decode cX9_add 40 = .ok (.aload_n 0, 1) := by decide +kernel
theorem dX9_add_41 : decode cX9_add 41 = .ok (.dup, 1) := by decide +kernel
theorem dX9_add_42 : decode cX9_add 42 = .ok (.getfield 21, 3) := by decide +kernel
theorem dX9_add_45 : decode cX9_add 45 = .ok (.iconst 1, 1) := by decide +kernel
theorem dX9_add_46 : decode cX9_add 46 = .ok (.iadd, 1) := by decide +kernel
theorem dX9_add_47 : decode cX9_add 47 = .ok (.putfield 21, 3) := by decide +kernel
theorem dX9_add_50 : decode cX9_add 50 = .ok (.return_, 1) := by decide +kernel
theorem dX9_tell_0 : decode cX9_tell 0 = .ok (.iload_n 1, 1) := by decide +kernel
theorem dX9_tell_1 : decode cX9_tell 1 = .ok (.ifCond .lt 11, 3) := by decide +kernel
theorem dX9_tell_4 : decode cX9_tell 4 = .ok (.iload_n 1, 1) := by decide +kernel
theorem dX9_tell_5 : decode cX9_tell 5 = .ok (.aload_n 0, 1) := by decide +kernel
theorem dX9_tell_6 : decode cX9_tell 6 = .ok (.getfield 21, 3) := by decide +kernel
theorem dX9_tell_9 : decode cX9_tell 9 = .ok (.if_icmp .lt 5, 3) := by decide +kernel
theorem dX9_tell_12 : decode cX9_tell 12 = .ok (.iconst (-1), 1) := by decide +kernel
theorem dX9_tell_13 : decode cX9_tell 13 = .ok (.ireturn, 1) := by decide +kernel
theorem dX9_tell_14 : decode cX9_tell 14 = .ok (.iload_n 2, 1) := by decide +kernel
theorem dX9_tell_15 : decode cX9_tell 15 = .ok (.tableswitch 46 0 2 #[25, 32, 39], 25) := by decide +kernel
theorem dX9_tell_40 : decode cX9_tell 40 = .ok (.aload_n 0, 1) := by decide +kernel
theorem dX9_tell_41 : decode cX9_tell 41 = .ok (.getfield 9, 3) := by decide +kernel
theorem dX9_tell_44 : decode cX9_tell 44 = .ok (.iload_n 1, 1) := by decide +kernel
theorem dX9_tell_45 : decode cX9_tell 45 = .ok (.iaload, 1) := by decide +kernel
theorem dX9_tell_46 : decode cX9_tell 46 = .ok (.ireturn, 1) := by decide +kernel
theorem dX9_tell_47 : decode cX9_tell 47 = .ok (.aload_n 0, 1) := by decide +kernel
theorem dX9_tell_48 : decode cX9_tell 48 = .ok (.getfield 15, 3) := by decide +kernel
theorem dX9_tell_51 : decode cX9_tell 51 = .ok (.iload_n 1, 1) := by decide +kernel
theorem dX9_tell_52 : decode cX9_tell 52 = .ok (.iaload, 1) := by decide +kernel
theorem dX9_tell_53 : decode cX9_tell 53 = .ok (.ireturn, 1) := by decide +kernel
theorem dX9_tell_54 : decode cX9_tell 54 = .ok (.aload_n 0, 1) := by decide +kernel
theorem dX9_tell_55 : decode cX9_tell 55 = .ok (.getfield 18, 3) := by decide +kernel
theorem dX9_tell_58 : decode cX9_tell 58 = .ok (.iload_n 1, 1) := by decide +kernel
theorem dX9_tell_59 : decode cX9_tell 59 = .ok (.iaload, 1) := by decide +kernel
theorem dX9_tell_60 : decode cX9_tell 60 = .ok (.ireturn, 1) := by decide +kernel
theorem dX9_tell_61 : decode cX9_tell 61 = .ok (.iconst (-1), 1) := by decide +kernel
theorem dX9_tell_62 : decode cX9_tell 62 = .ok (.ireturn, 1) := by decide +kernel
theorem dJ6_bitCount_0f7a4_0 : decode cJ6_bitCount_0f7a4 0 = .ok (.iload_n 0, 1) := by decide +kernel
theorem dJ6_bitCount_0f7a4_1 : decode cJ6_bitCount_0f7a4 1 = .ok (.iload_n 0, 1) := by decide +kernel
theorem dJ6_bitCount_0f7a4_2 : decode cJ6_bitCount_0f7a4 2 = .ok (.iconst 1, 1) := by decide +kernel
theorem dJ6_bitCount_0f7a4_3 : decode cJ6_bitCount_0f7a4 3 = .ok (.iushr, 1) := by decide +kernel
theorem dJ6_bitCount_0f7a4_4 : decode cJ6_bitCount_0f7a4 4 = .ok (.ldc_w 265, 3) := by decide +kernel
theorem dJ6_bitCount_0f7a4_7 : decode cJ6_bitCount_0f7a4 7 = .ok (.iand, 1) := by decide +kernel
theorem dJ6_bitCount_0f7a4_8 : decode cJ6_bitCount_0f7a4 8 = .ok (.isub, 1) := by decide +kernel
theorem dJ6_bitCount_0f7a4_9 : decode cJ6_bitCount_0f7a4 9 = .ok (.istore_n 0, 1) := by decide +kernel
theorem dJ6_bitCount_0f7a4_10 : decode cJ6_bitCount_0f7a4 10 = .ok (.iload_n 0, 1) := by decide +kernel
theorem dJ6_bitCount_0f7a4_11 : decode cJ6_bitCount_0f7a4 11 = .ok (.ldc_w 266, 3) := by decide +kernel
theorem dJ6_bitCount_0f7a4_14 : decode cJ6_bitCount_0f7a4 14 = .ok (.iand, 1) := by decide +kernel
theorem dJ6_bitCount_0f7a4_15 : decode cJ6_bitCount_0f7a4 15 = .ok (.iload_n 0, 1) := by decide +kernel
theorem dJ6_bitCount_0f7a4_16 : decode cJ6_bitCount_0f7a4 16 = .ok (.iconst 2, 1) := by decide +kernel
theorem dJ6_bitCount_0f7a4_17 : decode cJ6_bitCount_0f7a4 17 = .ok (.iushr, 1) := by decide +kernel
theorem dJ6_bitCount_0f7a4_18 : decode cJ6_bitCount_0f7a4 18 = .ok (.ldc_w 266, 3) := by decide +kernel
theorem dJ6_bitCount_0f7a4_21 : decode cJ6_bitCount_0f7a4 21 = .ok (.iand, 1) := by decide +kernel
theorem dJ6_bitCount_0f7a4_22 : decode cJ6_bitCount_0f7a4 22 = .ok (.iadd, 1) := by decide +kernel
theorem dJ6_bitCount_0f7a4_23 : decode cJ6_bitCount_0f7a4 23 = .ok (.istore_n 0, 1) := by decide +kernel
theorem dJ6_bitCount_0f7a4_24 : decode cJ6_bitCount_0f7a4 24 = .ok (.iload_n 0, 1) := by decide +kernel
theorem dJ6_bitCount_0f7a4_25 : decode cJ6_bitCount_0f7a4 25 = .ok (.iload_n 0, 1) := by decide +kernel
theorem dJ6_bitCount_0f7a4_26 : decode cJ6_bitCount_0f7a4 26 = .ok (.iconst 4, 1) := by decide +kernel
theorem dJ6_bitCount_0f7a4_27 : decode cJ6_bitCount_0f7a4 27 = .ok (.iushr, 1) := by decide +kernel
theorem dJ6_bitCount_0f7a4_28 : decode cJ6_bitCount_0f7a4 28 = .ok (.iadd, 1) := by decide +kernel
theorem dJ6_bitCount_0f7a4_29 : decode cJ6_bitCount_0f7a4 29 = .ok (.ldc_w 267, 3) := by decide +kernel
theorem dJ6_bitCount_0f7a4_32 : decode cJ6_bitCount_0f7a4 32 = .ok (.iand, 1) := by decide +kernel
theorem dJ6_bitCount_0f7a4_33 : decode cJ6_bitCount_0f7a4 33 = .ok (.istore_n 0, 1) := by decide +kernel
theorem dJ6_bitCount_0f7a4_34 : decode cJ6_bitCount_0f7a4 34 = .ok (.iload_n 0, 1) := by decide +kernel
theorem dJ6_bitCount_0f7a4_35 : decode cJ6_bitCount_0f7a4 35 = .ok (.iload_n 0, 1) := by decide +kernel
theorem dJ6_bitCount_0f7a4_36 : decode cJ6_bitCount_0f7a4 36 = .ok (.bipush 8, 2) := by decide +kernel
theorem dJ6_bitCount_0f7a4_38 : decode cJ6_bitCount_0f7a4 38 = .ok (.iushr, 1) := by decide +kernel
theorem dJ6_bitCount_0f7a4_39 : decode cJ6_bitCount_0f7a4 39 = .ok (.iadd, 1) := by decide +kernel
theorem dJ6_bitCount_0f7a4_40 : decode cJ6_bitCount_0f7a4 40 = .ok (.istore_n 0, 1) := by decide +kernel
theorem dJ6_bitCount_0f7a4_41 : decode cJ6_bitCount_0f7a4 41 = .ok (.iload_n 0, 1) := by decide +kernel
theorem dJ6_bitCount_0f7a4_42 : decode cJ6_bitCount_0f7a4 42 = .ok (.iload_n 0, 1) := by decide +kernel
theorem dJ6_bitCount_0f7a4_43 : decode cJ6_bitCount_0f7a4 43 = .ok (.bipush 16, 2) := by decide +kernel
theorem dJ6_bitCount_0f7a4_45 : decode cJ6_bitCount_0f7a4 45 = .ok (.iushr, 1) := by decide +kernel
theorem dJ6_bitCount_0f7a4_46 : decode cJ6_bitCount_0f7a4 46 = .ok (.iadd, 1) := by decide +kernel
theorem dJ6_bitCount_0f7a4_47 : decode cJ6_bitCount_0f7a4 47 = .ok (.istore_n 0, 1) := by decide +kernel
theorem dJ6_bitCount_0f7a4_48 : decode cJ6_bitCount_0f7a4 48 = .ok (.iload_n 0, 1) := by decide +kernel
theorem dJ6_bitCount_0f7a4_49 : decode cJ6_bitCount_0f7a4 49 = .ok (.bipush 63, 2) := by decide +kernel
theorem dJ6_bitCount_0f7a4_51 : decode cJ6_bitCount_0f7a4 51 = .ok (.iand, 1) := by decide +kernel
theorem dJ6_bitCount_0f7a4_52 : decode cJ6_bitCount_0f7a4 52 = .ok (.ireturn, 1) := by decide +kernel
theorem dJ9_max_7cf53_0 : decode cJ9_max_7cf53 0 = .ok (.iload_n 0, 1) := by decide +kernel
theorem dJ9_max_7cf53_1 : decode cJ9_max_7cf53 1 = .ok (.iload_n 1, 1) := by decide +kernel
theorem dJ9_max_7cf53_2 : decode cJ9_max_7cf53 2 = .ok (.if_icmp .lt 7, 3) := by decide +kernel
theorem dJ9_max_7cf53_5 : decode cJ9_max_7cf53 5 = .ok (.iload_n 0, 1) := by decide +kernel
theorem dJ9_max_7cf53_6 : decode cJ9_max_7cf53 6 = .ok (.goto 4, 3) := by decide +kernel
theorem dJ9_max_7cf53_9 : decode cJ9_max_7cf53 9 = .ok (.iload_n 1, 1) := by decide +kernel
theorem dJ9_max_7cf53_10 : decode cJ9_max_7cf53 10 = .ok (.ireturn, 1) := by decide +kernel
theorem dJ9_min_7cf53_0 : decode cJ9_min_7cf53 0 = .ok (.iload_n 0, 1) := by decide +kernel
theorem dJ9_min_7cf53_1 : decode cJ9_min_7cf53 1 = .ok (.iload_n 1, 1) := by decide +kernel
theorem dJ9_min_7cf53_2 : decode cJ9_min_7cf53 2 = .ok (.if_icmp .gt 7, 3) := by decide +kernel
theorem dJ9_min_7cf53_5 : decode cJ9_min_7cf53 5 = .ok (.iload_n 0, 1) := by decide +kernel
theorem dJ9_min_7cf53_6 : decode cJ9_min_7cf53 6 = .ok (.goto 4, 3) := by decide +kernel
theorem dJ9_min_7cf53_9 : decode cJ9_min_7cf53 9 = .ok (.iload_n 1, 1) := by decide +kernel
theorem dJ9_min_7cf53_10 : decode cJ9_min_7cf53 10 = .ok (.ireturn, 1) := by decide +kernel
theorem dJ7_rangeCheck_23922_0 : decode cJ7_rangeCheck_23922 0 = .ok (.iload_n 1, 1) := by decide +kernel
theorem dJ7_rangeCheck_23922_1 : decode cJ7_rangeCheck_23922 1 = .ok (.iload_n 2, 1) := by decide +kernel
theorem dJ7_rangeCheck_23922_2 : decode cJ7_rangeCheck_23922 2 = .ok (.if_icmp .le 44, 3) := by decide +kernel
theorem dJ7_rangeCheck_23922_5 : decode cJ7_rangeCheck_23922 5 = .ok (.new 43, 3) := by decide +kernel
theorem dJ7_rangeCheck_23922_8 : decode cJ7_rangeCheck_23922 8 = .ok (.dup, 1) := by decide +kernel
theorem dJ7_rangeCheck_23922_9 : decode cJ7_rangeCheck_23922 9 = .ok (.new 45, 3) := by decide +kernel
theorem dJ7_rangeCheck_23922_12 : decode cJ7_rangeCheck_23922 12 = .ok (.dup, 1) := by decide +kernel
theorem dJ7_rangeCheck_23922_13 : decode cJ7_rangeCheck_23922 13 = .ok (.invokespecial 47, 3) := by decide +kernel
theorem dJ7_rangeCheck_23922_16 : decode cJ7_rangeCheck_23922 16 = .ok (.ldc 48, 2) := by decide +kernel
theorem dJ7_rangeCheck_23922_18 : decode cJ7_rangeCheck_23922 18 = .ok (.invokevirtual 50, 3) := by decide +kernel
theorem dJ7_rangeCheck_23922_21 : decode cJ7_rangeCheck_23922 21 = .ok (.iload_n 1, 1) := by decide +kernel
theorem dJ7_rangeCheck_23922_22 : decode cJ7_rangeCheck_23922 22 = .ok (.invokevirtual 54, 3) := by decide +kernel
theorem dJ7_rangeCheck_23922_25 : decode cJ7_rangeCheck_23922 25 = .ok (.ldc 57, 2) := by decide +kernel
theorem dJ7_rangeCheck_23922_27 : decode cJ7_rangeCheck_23922 27 = .ok (.invokevirtual 50, 3) := by decide +kernel
theorem dJ7_rangeCheck_23922_30 : decode cJ7_rangeCheck_23922 30 = .ok (.iload_n 2, 1) := by decide +kernel
theorem dJ7_rangeCheck_23922_31 : decode cJ7_rangeCheck_23922 31 = .ok (.invokevirtual 54, 3) := by decide +kernel
theorem dJ7_rangeCheck_23922_34 : decode cJ7_rangeCheck_23922 34 = .ok (.ldc 59, 2) := by decide +kernel
theorem dJ7_rangeCheck_23922_36 : decode cJ7_rangeCheck_23922 36 = .ok (.invokevirtual 50, 3) := by decide +kernel
theorem dJ7_rangeCheck_23922_39 : decode cJ7_rangeCheck_23922 39 = .ok (.invokevirtual 61, 3) := by decide +kernel
theorem dJ7_rangeCheck_23922_42 : decode cJ7_rangeCheck_23922 42 = .ok (.invokespecial 65, 3) := by decide +kernel
theorem dJ7_rangeCheck_23922_45 : decode cJ7_rangeCheck_23922 45 = .ok (.athrow, 1) := by decide +kernel
theorem dJ7_rangeCheck_23922_46 : decode cJ7_rangeCheck_23922 46 = .ok (.iload_n 1, 1) := by decide +kernel
theorem dJ7_rangeCheck_23922_47 : decode cJ7_rangeCheck_23922 47 = .ok (.ifCond .ge 12, 3) := by decide +kernel
theorem dJ7_rangeCheck_23922_50 : decode cJ7_rangeCheck_23922 50 = .ok (.new 68, 3) := by decide +kernel
theorem dJ7_rangeCheck_23922_53 : decode cJ7_rangeCheck_23922 53 = .ok (.dup, 1) := by decide +kernel
theorem dJ7_rangeCheck_23922_54 : decode cJ7_rangeCheck_23922 54 = .ok (.iload_n 1, 1) := by decide +kernel
theorem dJ7_rangeCheck_23922_55 : decode cJ7_rangeCheck_23922 55 = .ok (.invokespecial 70, 3) := by decide +kernel
theorem dJ7_rangeCheck_23922_58 : decode cJ7_rangeCheck_23922 58 = .ok (.athrow, 1) := by decide +kernel
theorem dJ7_rangeCheck_23922_59 : decode cJ7_rangeCheck_23922 59 = .ok (.iload_n 2, 1) := by decide +kernel
theorem dJ7_rangeCheck_23922_60 : decode cJ7_rangeCheck_23922 60 = .ok (.iload_n 0, 1) := by decide +kernel
theorem dJ7_rangeCheck_23922_61 : decode cJ7_rangeCheck_23922 61 = .ok (.if_icmp .le 12, 3) := by decide +kernel
theorem dJ7_rangeCheck_23922_64 : decode cJ7_rangeCheck_23922 64 = .ok (.new 68, 3) := by decide +kernel
theorem dJ7_rangeCheck_23922_67 : decode cJ7_rangeCheck_23922 67 = .ok (.dup, 1) := by decide +kernel
theorem dJ7_rangeCheck_23922_68 : decode cJ7_rangeCheck_23922 68 = .ok (.iload_n 2, 1) := by decide +kernel
theorem dJ7_rangeCheck_23922_69 : decode cJ7_rangeCheck_23922 69 = .ok (.invokespecial 70, 3) := by decide +kernel
theorem dJ7_rangeCheck_23922_72 : decode cJ7_rangeCheck_23922 72 = .ok (.athrow, 1) := by decide +kernel
theorem dJ7_rangeCheck_23922_73 : decode cJ7_rangeCheck_23922 73 = .ok (.return_, 1) := by decide +kernel
theorem dJ7_fill_53178_0 : decode cJ7_fill_53178 0 = .ok (.iconst 0, 1) := by decide +kernel
theorem dJ7_fill_53178_1 : decode cJ7_fill_53178 1 = .ok (.istore_n 2, 1) := by decide +kernel
theorem dJ7_fill_53178_2 : decode cJ7_fill_53178 2 = .ok (.aload_n 0, 1) := by decide +kernel
theorem dJ7_fill_53178_3 : decode cJ7_fill_53178 3 = .ok (.arraylength, 1) := by decide +kernel
theorem dJ7_fill_53178_4 : decode cJ7_fill_53178 4 = .ok (.istore_n 3, 1) := by decide +kernel
theorem dJ7_fill_53178_5 : decode cJ7_fill_53178 5 = .ok (.iload_n 2, 1) := by decide +kernel
theorem dJ7_fill_53178_6 : decode cJ7_fill_53178 6 = .ok (.iload_n 3, 1) := by decide +kernel
theorem dJ7_fill_53178_7 : decode cJ7_fill_53178 7 = .ok (.if_icmp .ge 13, 3) := by decide +kernel
theorem dJ7_fill_53178_10 : decode cJ7_fill_53178 10 = .ok (.aload_n 0, 1) := by decide +kernel
theorem dJ7_fill_53178_11 : decode cJ7_fill_53178 11 = .ok (.iload_n 2, 1) := by decide +kernel
theorem dJ7_fill_53178_12 : decode cJ7_fill_53178 12 = .ok (.iload_n 1, 1) := by decide +kernel
theorem dJ7_fill_53178_13 : decode cJ7_fill_53178 13 = .ok (.iastore, 1) := by decide +kernel
theorem dJ7_fill_53178_14 : decode cJ7_fill_53178 14 = .ok (.iinc 2 1, 3) := by decide +kernel
theorem dJ7_fill_53178_17 : decode cJ7_fill_53178 17 = .ok (.goto (-12), 3) := by decide +kernel
theorem dJ7_fill_53178_20 : decode cJ7_fill_53178 20 = .ok (.return_, 1) := by decide +kernel
theorem dJ7_fill_fda19_0 : decode cJ7_fill_fda19 0 = .ok (.aload_n 0, 1) := by decide +kernel
theorem dJ7_fill_fda19_1 : decode cJ7_fill_fda19 1 = .ok (.arraylength, 1) := by decide +kernel
theorem dJ7_fill_fda19_2 : decode cJ7_fill_fda19 2 = .ok (.iload_n 1, 1) := by decide +kernel
theorem dJ7_fill_fda19_3 : decode cJ7_fill_fda19 3 = .ok (.iload_n 2, 1) := by decide +kernel
theorem dJ7_fill_fda19_4 : decode cJ7_fill_fda19 4 = .ok (.invokestatic 13, 3) := by decide +kernel
theorem dJ7_fill_fda19_7 : decode cJ7_fill_fda19 7 = .ok (.iload_n 1, 1) := by decide +kernel
theorem dJ7_fill_fda19_8 : decode cJ7_fill_fda19 8 = .ok (.istore 4, 2) := by decide +kernel
theorem dJ7_fill_fda19_10 : decode cJ7_fill_fda19 10 = .ok (.iload 4, 2) := by decide +kernel
theorem dJ7_fill_fda19_12 : decode cJ7_fill_fda19 12 = .ok (.iload_n 2, 1) := by decide +kernel
theorem dJ7_fill_fda19_13 : decode cJ7_fill_fda19 13 = .ok (.if_icmp .ge 14, 3) := by decide +kernel
theorem dJ7_fill_fda19_16 : decode cJ7_fill_fda19 16 = .ok (.aload_n 0, 1) := by decide +kernel
theorem dJ7_fill_fda19_17 : decode cJ7_fill_fda19 17 = .ok (.iload 4, 2) := by decide +kernel
theorem dJ7_fill_fda19_19 : decode cJ7_fill_fda19 19 = .ok (.iload_n 3, 1) := by decide +kernel
theorem dJ7_fill_fda19_20 : decode cJ7_fill_fda19 20 = .ok (.iastore, 1) := by decide +kernel
theorem dJ7_fill_fda19_21 : decode cJ7_fill_fda19 21 = .ok (.iinc 4 1, 3) := by decide +kernel
theorem dJ7_fill_fda19_24 : decode cJ7_fill_fda19 24 = .ok (.goto (-14), 3) := by decide +kernel
theorem dJ7_fill_fda19_27 : decode cJ7_fill_fda19 27 = .ok (.return_, 1) := by decide +kernel
theorem dJ7_copyOf_59c91_0 : decode cJ7_copyOf_59c91 0 = .ok (.iload_n 1, 1) := by decide +kernel
theorem dJ7_copyOf_59c91_1 : decode cJ7_copyOf_59c91 1 = .ok (.aload_n 0, 1) := by decide +kernel
theorem dJ7_copyOf_59c91_2 : decode cJ7_copyOf_59c91 2 = .ok (.arraylength, 1) := by decide +kernel
theorem dJ7_copyOf_59c91_3 : decode cJ7_copyOf_59c91 3 = .ok (.if_icmp .ne 11, 3) := by decide +kernel
theorem dJ7_copyOf_59c91_6 : decode cJ7_copyOf_59c91 6 = .ok (.aload_n 0, 1) := by decide +kernel
theorem dJ7_copyOf_59c91_7 : decode cJ7_copyOf_59c91 7 = .ok (.invokevirtual 316, 3) := by decide +kernel
theorem dJ7_copyOf_59c91_10 : decode cJ7_copyOf_59c91 10 = .ok (.checkcast 317, 3) := by decide +kernel
theorem dJ7_copyOf_59c91_13 : decode cJ7_copyOf_59c91 13 = .ok (.areturn, 1) := by decide +kernel
theorem dJ7_copyOf_59c91_14 : decode cJ7_copyOf_59c91 14 = .ok (.iload_n 1, 1) := by decide +kernel
theorem dJ7_copyOf_59c91_15 : decode cJ7_copyOf_59c91 15 = .ok (.newarray .int, 2) := by decide +kernel
theorem dJ7_copyOf_59c91_17 : decode cJ7_copyOf_59c91 17 = .ok (.astore_n 2, 1) := by decide +kernel
theorem dJ7_copyOf_59c91_18 : decode cJ7_copyOf_59c91 18 = .ok (.aload_n 0, 1) := by decide +kernel
theorem dJ7_copyOf_59c91_19 : decode cJ7_copyOf_59c91 19 = .ok (.iconst 0, 1) := by decide +kernel
theorem dJ7_copyOf_59c91_20 : decode cJ7_copyOf_59c91 20 = .ok (.aload_n 2, 1) := by decide +kernel
theorem dJ7_copyOf_59c91_21 : decode cJ7_copyOf_59c91 21 = .ok (.iconst 0, 1) := by decide +kernel
theorem dJ7_copyOf_59c91_22 : decode cJ7_copyOf_59c91 22 = .ok (.aload_n 0, 1) := by decide +kernel
theorem dJ7_copyOf_59c91_23 : decode cJ7_copyOf_59c91 23 = .ok (.arraylength, 1) := by decide +kernel
theorem dJ7_copyOf_59c91_24 : decode cJ7_copyOf_59c91 24 = .ok (.iload_n 1, 1) := by decide +kernel
theorem dJ7_copyOf_59c91_25 : decode cJ7_copyOf_59c91 25 = .ok (.invokestatic 304, 3) := by decide +kernel
theorem dJ7_copyOf_59c91_28 : decode cJ7_copyOf_59c91 28 = .ok (.invokestatic 150, 3) := by decide +kernel
theorem dJ7_copyOf_59c91_31 : decode cJ7_copyOf_59c91 31 = .ok (.aload_n 2, 1) := by decide +kernel
theorem dJ7_copyOf_59c91_32 : decode cJ7_copyOf_59c91 32 = .ok (.areturn, 1) := by decide +kernel
end
section
theorem dX10_init_0 : decode cX10_init 0 = .ok (.aload_n 0, 1) := by decide +kernel
theorem dX10_init_1 : decode cX10_init 1 = .ok (.invokespecial 3, 3) := by decide +kernel
theorem dX10_init_4 : decode cX10_init 4 = .ok (.aload_n 0, 1) := by decide +kernel
theorem dX10_init_5 : decode cX10_init 5 = .ok (.sipush 200, 3) := by decide +kernel
theorem dX10_init_8 : decode cX10_init 8 = .ok (.newarray .int, 2) := by decide +kernel
theorem dX10_init_10 : decode cX10_init 10 = .ok (.putfield 9, 3) := by decide +kernel
theorem dX10_init_13 : decode cX10_init 13 = .ok (.aload_n 0, 1) := by decide +kernel
theorem dX10_init_14 : decode cX10_init 14 = .ok (.iconst 0, 1) := by decide +kernel
theorem dX10_init_15 : decode cX10_init 15 = .ok (.putfield 13, 3) := by decide +kernel
theorem dX10_init_18 : decode cX10_init 18 = .ok (.aload_n 0, 1) := by decide +kernel
theorem dX10_init_19 : decode cX10_init 19 = .ok (.new 17, 3) := by decide +kernel
theorem dX10_init_22 : decode cX10_init 22 = .ok (.dup, 1) := by decide +kernel
theorem dX10_init_23 : decode cX10_init 23 = .ok (.invokespecial 19, 3) := by decide +kernel
theorem dX10_init_26 : decode cX10_init 26 = .ok (.putfield 20, 3) := by decide +kernel
theorem dX10_init_29 : decode cX10_init 29 = .ok (.aload_n 0, 1) := by decide +kernel
theorem dX10_init_30 : decode cX10_init 30 = .ok (.new 24, 3) := by decide +kernel
theorem dX10_init_33 : decode cX10_init 33 = .ok (.dup, 1) := by decide +kernel
theorem dX10_init_34 : decode cX10_init 34 = .ok (.invokespecial 26, 3) := by decide +kernel
theorem dX10_init_37 : decode cX10_init 37 = .ok (.putfield 27, 3) := by decide +kernel
theorem dX10_init_40 : decode cX10_init 40 = .ok (.aload_n 0, 1) := by decide +kernel
theorem dX10_init_41 : decode cX10_init 41 = .ok (.new 31, 3) := by decide +kernel
theorem dX10_init_44 : decode cX10_init 44 = .ok (.dup, 1) := by decide +kernel
theorem dX10_init_45 : decode cX10_init 45 = .ok (.invokespecial 33, 3) := by decide +kernel
theorem dX10_init_48 : decode cX10_init 48 = .ok (.putfield 34, 3) := by decide +kernel
theorem dX10_init_51 : decode cX10_init 51 = .ok (.aload_n 0, 1) := by decide +kernel
theorem dX10_init_52 : decode cX10_init 52 = .ok (.aconst_null, 1) := by decide +kernel
theorem dX10_init_53 : decode cX10_init 53 = .ok (.putfield 38, 3) := by decide +kernel
theorem dX10_init_56 : decode cX10_init 56 = .ok (.aload_n 0, 1) := by decide +kernel
theorem dX10_init_57 : decode cX10_init 57 = .ok (.iconst 0, 1) := by decide +kernel
theorem dX10_init_58 : decode cX10_init 58 = .ok (.putfield 42, 3) := by decide +kernel
theorem dX10_init_61 : decode cX10_init 61 = .ok (.aload_n 0, 1) := by decide +kernel
theorem dX10_init_62 : decode cX10_init 62 = .ok (.iconst (-1), 1) := by decide +kernel
theorem dX10_init_63 : decode cX10_init 63 = .ok (.putfield 45, 3) := by decide +kernel
theorem dX10_init_66 : decode cX10_init 66 = .ok (.aload_n 0, 1) := by decide +kernel
theorem dX10_init_67 : decode cX10_init 67 = .ok (.iconst 4, 1) := by decide +kernel
theorem dX10_init_68 : decode cX10_init 68 = .ok (.anewarray 48, 3) := by decide +kernel
theorem dX10_init_71 : decode cX10_init 71 = .ok (.putfield 50, 3) := by decide +kernel
theorem dX10_init_74 : decode cX10_init 74 = .ok (.iconst 0, 1) := by decide +kernel
theorem dX10_init_75 : decode cX10_init 75 = .ok (.istore_n 1, 1) := by decide +kernel
theorem dX10_init_76 : decode cX10_init 76 = .ok (.iload_n 1, 1) := by decide +kernel
theorem dX10_init_77 : decode cX10_init 77 = .ok (.iconst 4, 1) := by decide +kernel
theorem dX10_init_78 : decode cX10_init 78 = .ok (.if_icmp .ge 22, 3) := by decide +kernel
theorem dX10_init_81 : decode cX10_init 81 = .ok (.aload_n 0, 1) := by decide +kernel
theorem dX10_init_82 : decode cX10_init 82 = .ok (.getfield 50, 3) := by decide +kernel
theorem dX10_init_85 : decode cX10_init 85 = .ok (.iload_n 1, 1) := by decide +kernel
theorem dX10_init_86 : decode cX10_init 86 = .ok (.new 48, 3) := by decide +kernel
theorem dX10_init_89 : decode cX10_init 89 = .ok (.dup, 1) := by decide +kernel
theorem dX10_init_90 : decode cX10_init 90 = .ok (.invokespecial 54, 3) := by decide +kernel
theorem dX10_init_93 : decode cX10_init 93 = .ok (.aastore, 1) := by decide +kernel
theorem dX10_init_94 : decode cX10_init 94 = .ok (.iinc 1 1, 3) := by decide +kernel
theorem dX10_init_97 : decode cX10_init 97 = .ok (.goto (-21), 3) := by decide +kernel
theorem dX10_init_100 : decode cX10_init 100 = .ok (.aload_n 0, 1) := by decide +kernel
theorem dX10_init_101 : decode cX10_init 101 = .ok (.sipush 200, 3) := by decide +kernel
theorem dX10_init_104 : decode cX10_init 104 = .ok (.anewarray 55, 3) := by decide +kernel
theorem dX10_init_107 : decode cX10_init 107 = .ok (.putfield 57, 3) := by decide +kernel
theorem dX10_init_110 : decode cX10_init 110 = .ok (.aload_n 0, 1) := by decide +kernel
theorem dX10_init_111 : decode cX10_init 111 = .ok (.iconst 0, 1) := by decide +kernel
theorem dX10_init_112 : decode cX10_init 112 = .ok (.putfield 61, 3) := by decide +kernel
theorem dX10_init_115 : decode cX10_init 115 = .ok (.aload_n 0, 1) := by decide +kernel
theorem dX10_init_116 : decode cX10_init 116 = .ok (.new 64, 3) := by decide +kernel
theorem dX10_init_119 : decode cX10_init 119 = .ok (.dup, 1) := by decide +kernel
theorem dX10_init_120 : decode cX10_init 120 = .ok (.aload_n 0, 1) := by decide +kernel
theorem dX10_init_121 : decode cX10_init 121 = .ok (.getfield 34, 3) := by decide +kernel
theorem dX10_init_124 : decode cX10_init 124 = .ok (.invokespecial 66, 3) := by decide +kernel
theorem dX10_init_127 : decode cX10_init 127 = .ok (.putfield 69, 3) := by decide +kernel
theorem dX10_init_130 : decode cX10_init 130 = .ok (.aload_n 0, 1) := by decide +kernel
theorem dX10_init_131 : decode cX10_init 131 = .ok (.new 73, 3) := by decide +kernel
theorem dX10_init_134 : decode cX10_init 134 = .ok (.dup, 1) := by decide +kernel
theorem dX10_init_135 : decode cX10_init 135 = .ok (.invokespecial 75, 3) := by decide +kernel
theorem dX10_init_138 : decode cX10_init 138 = .ok (.putfield 76, 3) := by decide +kernel
theorem dX10_init_141 : decode cX10_init 141 = .ok (.aload_n 0, 1) := by decide +kernel
theorem dX10_init_142 : decode cX10_init 142 = .ok (.new 80, 3) := by decide +kernel
theorem dX10_init_145 : decode cX10_init 145 = .ok (.dup, 1) := by decide +kernel
theorem dX10_init_146 : decode cX10_init 146 = .ok (.invokespecial 82, 3) := by decide +kernel
theorem dX10_init_149 : decode cX10_init 149 = .ok (.putfield 83, 3) := by decide +kernel
theorem dX10_init_152 : decode cX10_init 152 = .ok (.aload_n 0, 1) := by decide +kernel
theorem dX10_init_153 : decode cX10_init 153 = .ok (.new 87, 3) := by decide +kernel
theorem dX10_init_156 : decode cX10_init 156 = .ok (.dup, 1) := by decide +kernel
theorem dX10_init_157 : decode cX10_init 157 = .ok (.invokespecial 89, 3) := by decide +kernel
theorem dX10_init_160 : decode cX10_init 160 = .ok (.putfield 90, 3) := by decide +kernel
theorem dX10_init_163 : decode cX10_init 163 = .ok (.return_, 1) := by decide +kernel
theorem dX10_feed_0 : decode cX10_feed 0 = .ok (.aload_n 0, 1) := by decide +kernel
theorem dX10_feed_1 : decode cX10_feed 1 = .ok (.getfield 13, 3) := by decide +kernel
theorem dX10_feed_4 : decode cX10_feed 4 = .ok (.sipush 180, 3) := by decide +kernel
theorem dX10_feed_7 : decode cX10_feed 7 = .ok (.if_icmp .le 6, 3) := by decide +kernel
theorem dX10_feed_10 : decode cX10_feed 10 = .ok (.bipush (-3), 2) := by decide +kernel
theorem dX10_feed_12 : decode cX10_feed 12 = .ok (.ireturn, 1) := by decide +kernel
theorem dX10_feed_13 : decode cX10_feed 13 = .ok (.aload_n 0, 1) := by decide +kernel
theorem dX10_feed_14 : decode cX10_feed 14 = .ok (.iload_n 1, 1) := by decide +kernel
theorem dX10_feed_15 : decode cX10_feed 15 = .ok (.invokevirtual 94, 3) := by decide +kernel
theorem dX10_feed_18 : decode cX10_feed 18 = .ok (.aload_n 0, 1) := by decide +kernel
theorem dX10_feed_19 : decode cX10_feed 19 = .ok (.iload_n 2, 1) := by decide +kernel
theorem dX10_feed_20 : decode cX10_feed 20 = .ok (.invokevirtual 94, 3) := by decide +kernel
theorem dX10_feed_23 : decode cX10_feed 23 = .ok (.aload_n 0, 1) := by decide +kernel
theorem dX10_feed_24 : decode cX10_feed 24 = .ok (.iload_n 3, 1) := by decide +kernel
theorem dX10_feed_25 : decode cX10_feed 25 = .ok (.invokevirtual 94, 3) := by decide +kernel
theorem dX10_feed_28 : decode cX10_feed 28 = .ok (.aload_n 0, 1) := by decide +kernel
theorem dX10_feed_29 : decode cX10_feed 29 = .ok (.iload 4, 2) := by decide +kernel
theorem dX10_feed_31 : decode cX10_feed 31 = .ok (.invokevirtual 94, 3) := by decide +kernel
theorem dX10_feed_34 : decode cX10_feed 34 = .ok (.aload_n 0, 1) := by decide +kernel
theorem dX10_feed_35 : decode cX10_feed 35 = .ok (.iload 5, 2) := by decide +kernel
theorem dX10_feed_37 : decode cX10_feed 37 = .ok (.invokevirtual 94, 3) := by decide +kernel
theorem dX10_feed_40 : decode cX10_feed 40 = .ok (.aload_n 0, 1) := by decide +kernel
theorem dX10_feed_41 : decode cX10_feed 41 = .ok (.getfield 13, 3) := by decide +kernel
theorem dX10_feed_44 : decode cX10_feed 44 = .ok (.ireturn, 1) := by decide +kernel
theorem dX10_putBytes_0 : decode cX10_putBytes 0 = .ok (.bipush 24, 2) := by decide +kernel
theorem dX10_putBytes_2 : decode cX10_putBytes 2 = .ok (.istore_n 2, 1) := by decide +kernel
theorem dX10_putBytes_3 : decode cX10_putBytes 3 = .ok (.iload_n 2, 1) := by decide +kernel
theorem dX10_putBytes_4 : decode cX10_putBytes 4 = .ok (.ifCond .lt 45, 3) := by decide +kernel
theorem dX10_putBytes_7 : decode cX10_putBytes 7 = .ok (.aload_n 0, 1) := by decide +kernel
theorem dX10_putBytes_8 : decode cX10_putBytes 8 = .ok (.getfield 13, 3) := by decide +kernel
theorem dX10_putBytes_11 : decode cX10_putBytes 11 = .ok (.sipush 200, 3) := by decide +kernel
theorem dX10_putBytes_14 : decode cX10_putBytes 14 = .ok (.if_icmp .ge 35, 3) := by decide +kernel
theorem dX10_putBytes_17 : decode cX10_putBytes 17 = .ok (.aload_n 0, 1) := by decide +kernel
theorem dX10_putBytes_18 : decode cX10_putBytes 18 = .ok (.getfield 9, 3) := by decide +kernel
theorem dX10_putBytes_21 : decode cX10_putBytes 21 = .ok (.aload_n 0, 1) := by decide +kernel
theorem dX10_putBytes_22 : decode cX10_putBytes 22 = .ok (.getfield 13, 3) := by decide +kernel
theorem dX10_putBytes_25 : decode cX10_putBytes 25 = .ok (.iload_n 1, 1) := by decide +kernel
theorem dX10_putBytes_26 : decode cX10_putBytes 26 = .ok (.iload_n 2, 1) := by decide +kernel
theorem dX10_putBytes_27 : decode cX10_putBytes 27 = .ok (.iushr, 1) := by decide +kernel
theorem dX10_putBytes_28 : decode cX10_putBytes 28 = .ok (.sipush 255, 3) := by decide +kernel
theorem dX10_putBytes_31 : decode cX10_putBytes 31 = .ok (.iand, 1) := by decide +kernel
theorem dX10_putBytes_32 : decode cX10_putBytes 32 = .ok (.iastore, 1) := by decide +kernel
theorem dX10_putBytes_33 : decode cX10_putBytes 33 = .ok (.aload_n 0, 1) := by decide +kernel
theorem dX10_putBytes_34 : decode cX10_putBytes 34 = .ok (.dup, 1) := by decide +kernel
theorem dX10_putBytes_35 : decode cX10_putBytes 35 = .ok (.getfield 13, 3) := by decide +kernel
theorem dX10_putBytes_38 : decode cX10_putBytes 38 = .ok (.iconst 1, 1) := by decide +kernel
theorem dX10_putBytes_39 : decode cX10_putBytes 39 = .ok (.iadd, 1) := by decide +kernel
theorem dX10_putBytes_40 : decode cX10_putBytes 40 = .ok (.putfield 13, 3) := by decide +kernel
theorem dX10_putBytes_43 : decode cX10_putBytes 43 = .ok (.iinc 2 (-8), 3) := by decide +kernel
theorem dX10_putBytes_46 : decode cX10_putBytes 46 = .ok (.goto (-43), 3) := by decide +kernel
theorem dX10_putBytes_49 : decode cX10_putBytes 49 = .ok (.return_, 1) := by decide +kernel
theorem dX10_end_0 : decode cX10_end 0 = .ok (.iload_n 1, 1) := by decide +kernel
theorem dX10_end_1 : decode cX10_end 1 = .ok (.ifCond .lt 11, 3) := by decide +kernel
theorem dX10_end_4 : decode cX10_end 4 = .ok (.iload_n 1, 1) := by decide +kernel
theorem dX10_end_5 : decode cX10_end 5 = .ok (.aload_n 0, 1) := by decide +kernel
theorem dX10_end_6 : decode cX10_end 6 = .ok (.getfield 13, 3) := by decide +kernel
theorem dX10_end_9 : decode cX10_end 9 = .ok (.if_icmp .le 5, 3) := by decide +kernel
theorem dX10_end_12 : decode cX10_end 12 = .ok (.iconst (-1), 1) := by decide +kernel
theorem dX10_end_13 : decode cX10_end 13 = .ok (.ireturn, 1) := by decide +kernel
theorem dX10_end_14 : decode cX10_end 14 = .ok (.aload_n 0, 1) := by decide +kernel
theorem dX10_end_15 : decode cX10_end 15 = .ok (.iload_n 1, 1) := by decide +kernel
theorem dX10_end_16 : decode cX10_end 16 = .ok (.putfield 13, 3) := by decide +kernel
theorem dX10_end_19 : decode cX10_end 19 = .ok (.iload_n 1, 1) := by decide +kernel
theorem dX10_end_20 : decode cX10_end 20 = .ok (.ireturn, 1) := by decide +kernel
theorem dX10_script_0 : decode cX10_script 0 = .ok (.iload_n 1, 1) := by decide +kernel
theorem dX10_script_1 : decode cX10_script 1 = .ok (.invokestatic 98, 3) := by decide +kernel
theorem dX10_script_4 : decode cX10_script 4 = .ok (.ifCond .eq 13, 3) := by decide +kernel
theorem dX10_script_7 : decode cX10_script 7 = .ok (.iload_n 2, 1) := by decide +kernel
theorem dX10_script_8 : decode cX10_script 8 = .ok (.ifCond .lt 9, 3) := by decide +kernel
theorem dX10_script_11 : decode cX10_script 11 = .ok (.iload_n 2, 1) := by decide +kernel
theorem dX10_script_12 : decode cX10_script 12 = .ok (.bipush 7, 2) := by decide +kernel
theorem dX10_script_14 : decode cX10_script 14 = .ok (.if_icmp .le 6, 3) := by decide +kernel
theorem dX10_script_17 : decode cX10_script 17 = .ok (.bipush (-2), 2) := by decide +kernel
theorem dX10_script_19 : decode cX10_script 19 = .ok (.ireturn, 1) := by decide +kernel
theorem dX10_script_20 : decode cX10_script 20 = .ok (.aload_n 0, 1) := by decide +kernel
theorem dX10_script_21 : decode cX10_script 21 = .ok (.getfield 20, 3) := by decide +kernel
theorem dX10_script_24 : decode cX10_script 24 = .ok (.iload_n 1, 1) := by decide +kernel
theorem dX10_script_25 : decode cX10_script 25 = .ok (.iload_n 2, 1) := by decide +kernel
theorem dX10_script_26 : decode cX10_script 26 = .ok (.invokevirtual 102, 3) := by decide +kernel
theorem dX10_script_29 : decode cX10_script 29 = .ok (.ireturn, 1) := by decide +kernel
theorem dX10_seen_0 : decode cX10_seen 0 = .ok (.iload_n 1, 1) := by decide +kernel
theorem dX10_seen_1 : decode cX10_seen 1 = .ok (.invokestatic 98, 3) := by decide +kernel
theorem dX10_seen_4 : decode cX10_seen 4 = .ok (.ifCond .eq 12, 3) := by decide +kernel
theorem dX10_seen_7 : decode cX10_seen 7 = .ok (.iload_n 2, 1) := by decide +kernel
theorem dX10_seen_8 : decode cX10_seen 8 = .ok (.ifCond .lt 8, 3) := by decide +kernel
theorem dX10_seen_11 : decode cX10_seen 11 = .ok (.iload_n 2, 1) := by decide +kernel
theorem dX10_seen_12 : decode cX10_seen 12 = .ok (.iconst 2, 1) := by decide +kernel
theorem dX10_seen_13 : decode cX10_seen 13 = .ok (.if_icmp .le 6, 3) := by decide +kernel
theorem dX10_seen_16 : decode cX10_seen 16 = .ok (.bipush (-2), 2) := by decide +kernel
theorem dX10_seen_18 : decode cX10_seen 18 = .ok (.ireturn, 1) := by decide +kernel
theorem dX10_seen_19 : decode cX10_seen 19 = .ok (.aload_n 0, 1) := by decide +kernel
theorem dX10_seen_20 : decode cX10_seen 20 = .ok (.getfield 20, 3) := by decide +kernel
theorem dX10_seen_23 : decode cX10_seen 23 = .ok (.iload_n 1, 1) := by decide +kernel
theorem dX10_seen_24 : decode cX10_seen 24 = .ok (.iload_n 2, 1) := by decide +kernel
theorem dX10_seen_25 : decode cX10_seen 25 = .ok (.invokevirtual 106, 3) := by decide +kernel
theorem dX10_seen_28 : decode cX10_seen 28 = .ok (.ireturn, 1) := by decide +kernel
theorem dX10_confuse_0 : decode cX10_confuse 0 = .ok (.iload_n 1, 1) := by decide +kernel
theorem dX10_confuse_1 : decode cX10_confuse 1 = .ok (.invokestatic 109, 3) := by decide +kernel
theorem dX10_confuse_4 : decode cX10_confuse 4 = .ok (.ifCond .eq 26, 3) := by decide +kernel
theorem dX10_confuse_7 : decode cX10_confuse 7 = .ok (.iload_n 2, 1) := by decide +kernel
theorem dX10_confuse_8 : decode cX10_confuse 8 = .ok (.invokestatic 109, 3) := by decide +kernel
theorem dX10_confuse_11 : decode cX10_confuse 11 = .ok (.ifCond .eq 19, 3) := by decide +kernel
theorem dX10_confuse_14 : decode cX10_confuse 14 = .ok (.iload_n 1, 1) := by decide +kernel
theorem dX10_confuse_15 : decode cX10_confuse 15 = .ok (.iload_n 2, 1) := by decide +kernel
theorem dX10_confuse_16 : decode cX10_confuse 16 = .ok (.if_icmp .eq 14, 3) := by decide +kernel
theorem dX10_confuse_19 : decode cX10_confuse 19 = .ok (.iload_n 3, 1) := by decide +kernel
theorem dX10_confuse_20 : decode cX10_confuse 20 = .ok (.iconst (-1), 1) := by decide +kernel
theorem dX10_confuse_21 : decode cX10_confuse 21 = .ok (.if_icmp .lt 9, 3) := by decide +kernel
theorem dX10_confuse_24 : decode cX10_confuse 24 = .ok (.iload_n 3, 1) := by decide +kernel
theorem dX10_confuse_25 : decode cX10_confuse 25 = .ok (.bipush 20, 2) := by decide +kernel
theorem dX10_confuse_27 : decode cX10_confuse 27 = .ok (.if_icmp .le 6, 3) := by decide +kernel
theorem dX10_confuse_30 : decode cX10_confuse 30 = .ok (.bipush (-2), 2) := by decide +kernel
theorem dX10_confuse_32 : decode cX10_confuse 32 = .ok (.ireturn, 1) := by decide +kernel
theorem dX10_confuse_33 : decode cX10_confuse 33 = .ok (.iload_n 3, 1) := by decide +kernel
theorem dX10_confuse_34 : decode cX10_confuse 34 = .ok (.iconst (-1), 1) := by decide +kernel
theorem dX10_confuse_35 : decode cX10_confuse 35 = .ok (.if_icmp .ne 15, 3) := by decide +kernel
theorem dX10_confuse_38 : decode cX10_confuse 38 = .ok (.aload_n 0, 1) := by decide +kernel
theorem dX10_confuse_39 : decode cX10_confuse 39 = .ok (.getfield 34, 3) := by decide +kernel
theorem dX10_confuse_42 : decode cX10_confuse 42 = .ok (.iload_n 1, 1) := by decide +kernel
theorem dX10_confuse_43 : decode cX10_confuse 43 = .ok (.iload_n 2, 1) := by decide +kernel
theorem dX10_confuse_44 : decode cX10_confuse 44 = .ok (.invokevirtual 112, 3) := by decide +kernel
theorem dX10_confuse_47 : decode cX10_confuse 47 = .ok (.goto 13, 3) := by decide +kernel
theorem dX10_confuse_50 : decode cX10_confuse 50 = .ok (.aload_n 0, 1) := by decide +kernel
theorem dX10_confuse_51 : decode cX10_confuse 51 = .ok (.getfield 34, 3) := by decide +kernel
theorem dX10_confuse_54 : decode cX10_confuse 54 = .ok (.iload_n 1, 1) := by decide +kernel
theorem dX10_confuse_55 : decode cX10_confuse 55 = .ok (.iload_n 2, 1) := by decide +kernel
theorem dX10_confuse_56 : decode cX10_confuse 56 = .ok (.iload_n 3, 1) := by decide +kernel
theorem dX10_confuse_57 : decode cX10_confuse 57 = .ok (.invokevirtual 115, 3) := by decide +kernel
theorem dX10_confuse_60 : decode cX10_confuse 60 = .ok (.ireturn, 1) := by decide +kernel
theorem dX10_chain_0 : decode cX10_chain 0 = .ok (.iload_n 1, 1) := by decide +kernel
theorem dX10_chain_1 : decode cX10_chain 1 = .ok (.invokestatic 109, 3) := by decide +kernel
theorem dX10_chain_4 : decode cX10_chain 4 = .ok (.ifCond .eq 10, 3) := by decide +kernel
theorem dX10_chain_7 : decode cX10_chain 7 = .ok (.iload_n 2, 1) := by decide +kernel
theorem dX10_chain_8 : decode cX10_chain 8 = .ok (.invokestatic 109, 3) := by decide +kernel
theorem dX10_chain_11 : decode cX10_chain 11 = .ok (.ifCond .ne 6, 3) := by decide +kernel
theorem dX10_chain_14 : decode cX10_chain 14 = .ok (.bipush (-2), 2) := by decide +kernel
theorem dX10_chain_16 : decode cX10_chain 16 = .ok (.ireturn, 1) := by decide +kernel
theorem dX10_chain_17 : decode cX10_chain 17 = .ok (.iload_n 1, 1) := by decide +kernel
theorem dX10_chain_18 : decode cX10_chain 18 = .ok (.iload_n 2, 1) := by decide +kernel
theorem dX10_chain_19 : decode cX10_chain 19 = .ok (.if_icmp .ne 5, 3) := by decide +kernel
theorem dX10_chain_22 : decode cX10_chain 22 = .ok (.iconst 0, 1) := by decide +kernel
theorem dX10_chain_23 : decode cX10_chain 23 = .ok (.ireturn, 1) := by decide +kernel
theorem dX10_chain_24 : decode cX10_chain 24 = .ok (.aload_n 0, 1) := by decide +kernel
theorem dX10_chain_25 : decode cX10_chain 25 = .ok (.getfield 34, 3) := by decide +kernel
theorem dX10_chain_28 : decode cX10_chain 28 = .ok (.invokevirtual 119, 3) := by decide +kernel
theorem dX10_chain_31 : decode cX10_chain 31 = .ok (.aload_n 0, 1) := by decide +kernel
theorem dX10_chain_32 : decode cX10_chain 32 = .ok (.getfield 34, 3) := by decide +kernel
theorem dX10_chain_35 : decode cX10_chain 35 = .ok (.aload_n 0, 1) := by decide +kernel
theorem dX10_chain_36 : decode cX10_chain 36 = .ok (.getfield 34, 3) := by decide +kernel
theorem dX10_chain_39 : decode cX10_chain 39 = .ok (.iload_n 1, 1) := by decide +kernel
theorem dX10_chain_40 : decode cX10_chain 40 = .ok (.invokevirtual 122, 3) := by decide +kernel
theorem dX10_chain_43 : decode cX10_chain 43 = .ok (.aload_n 0, 1) := by decide +kernel
theorem dX10_chain_44 : decode cX10_chain 44 = .ok (.getfield 34, 3) := by decide +kernel
theorem dX10_chain_47 : decode cX10_chain 47 = .ok (.iload_n 2, 1) := by decide +kernel
theorem dX10_chain_48 : decode cX10_chain 48 = .ok (.invokevirtual 122, 3) := by decide +kernel
theorem dX10_chain_51 : decode cX10_chain 51 = .ok (.invokevirtual 126, 3) := by decide +kernel
theorem dX10_chain_54 : decode cX10_chain 54 = .ok (.istore_n 3, 1) := by decide +kernel
theorem dX10_chain_55 : decode cX10_chain 55 = .ok (.iload_n 3, 1) := by decide +kernel
theorem dX10_chain_56 : decode cX10_chain 56 = .ok (.ldc 129, 2) := by decide +kernel
theorem dX10_chain_58 : decode cX10_chain 58 = .ok (.if_icmp .ge 7, 3) := by decide +kernel
theorem dX10_chain_61 : decode cX10_chain 61 = .ok (.iload_n 3, 1) := by decide +kernel
theorem dX10_chain_62 : decode cX10_chain 62 = .ok (.goto 4, 3) := by decide +kernel
theorem dX10_chain_65 : decode cX10_chain 65 = .ok (.iconst (-1), 1) := by decide +kernel
theorem dX10_chain_66 : decode cX10_chain 66 = .ok (.ireturn, 1) := by decide +kernel
theorem dX10_allow_0 : decode cX10_allow 0 = .ok (.iload_n 1, 1) := by decide +kernel
theorem dX10_allow_1 : decode cX10_allow 1 = .ok (.invokestatic 130, 3) := by decide +kernel
theorem dX10_allow_4 : decode cX10_allow 4 = .ok (.ifCond .eq 14, 3) := by decide +kernel
theorem dX10_allow_7 : decode cX10_allow 7 = .ok (.aload_n 0, 1) := by decide +kernel
theorem dX10_allow_8 : decode cX10_allow 8 = .ok (.getfield 27, 3) := by decide +kernel
theorem dX10_allow_11 : decode cX10_allow 11 = .ok (.iload_n 1, 1) := by decide +kernel
theorem dX10_allow_12 : decode cX10_allow 12 = .ok (.invokevirtual 133, 3) := by decide +kernel
theorem dX10_allow_15 : decode cX10_allow 15 = .ok (.goto 5, 3) := by decide +kernel
theorem dX10_allow_18 : decode cX10_allow 18 = .ok (.bipush (-2), 2) := by decide +kernel
theorem dX10_allow_20 : decode cX10_allow 20 = .ok (.ireturn, 1) := by decide +kernel
theorem dX10_isSet_0 : decode cX10_isSet 0 = .ok (.iload_n 0, 1) := by decide +kernel
theorem dX10_isSet_1 : decode cX10_isSet 1 = .ok (.ifCond .eq 15, 3) := by decide +kernel
theorem dX10_isSet_4 : decode cX10_isSet 4 = .ok (.iload_n 0, 1) := by decide +kernel
theorem dX10_isSet_5 : decode cX10_isSet 5 = .ok (.sipush (-255), 3) := by decide +kernel
theorem dX10_isSet_8 : decode cX10_isSet 8 = .ok (.iand, 1) := by decide +kernel
theorem dX10_isSet_9 : decode cX10_isSet 9 = .ok (.ifCond .ne 7, 3) := by decide +kernel
theorem dX10_isSet_12 : decode cX10_isSet 12 = .ok (.iconst 1, 1) := by decide +kernel
theorem dX10_isSet_13 : decode cX10_isSet 13 = .ok (.goto 4, 3) := by decide +kernel
theorem dX10_isSet_16 : decode cX10_isSet 16 = .ok (.iconst 0, 1) := by decide +kernel
theorem dX10_isSet_17 : decode cX10_isSet 17 = .ok (.ireturn, 1) := by decide +kernel
theorem dX10_isSign_0 : decode cX10_isSign 0 = .ok (.iload_n 0, 1) := by decide +kernel
theorem dX10_isSign_1 : decode cX10_isSign 1 = .ok (.bipush 33, 2) := by decide +kernel
theorem dX10_isSign_3 : decode cX10_isSign 3 = .ok (.if_icmp .lt 13, 3) := by decide +kernel
theorem dX10_isSign_6 : decode cX10_isSign 6 = .ok (.iload_n 0, 1) := by decide +kernel
theorem dX10_isSign_7 : decode cX10_isSign 7 = .ok (.bipush 126, 2) := by decide +kernel
theorem dX10_isSign_9 : decode cX10_isSign 9 = .ok (.if_icmp .gt 7, 3) := by decide +kernel
theorem dX10_isSign_12 : decode cX10_isSign 12 = .ok (.iconst 1, 1) := by decide +kernel
theorem dX10_isSign_13 : decode cX10_isSign 13 = .ok (.goto 4, 3) := by decide +kernel
theorem dX10_isSign_16 : decode cX10_isSign 16 = .ok (.iconst 0, 1) := by decide +kernel
theorem dX10_isSign_17 : decode cX10_isSign 17 = .ok (.ireturn, 1) := by decide +kernel
theorem dX10_isPiece_0 : decode cX10_isPiece 0 = .ok (.iload_n 0, 1) := by decide +kernel
theorem dX10_isPiece_1 : decode cX10_isPiece 1 = .ok (.invokestatic 98, 3) := by decide +kernel
theorem dX10_isPiece_4 : decode cX10_isPiece 4 = .ok (.ifCond .ne 24, 3) := by decide +kernel
theorem dX10_isPiece_7 : decode cX10_isPiece 7 = .ok (.iload_n 0, 1) := by decide +kernel
theorem dX10_isPiece_8 : decode cX10_isPiece 8 = .ok (.bipush 8, 2) := by decide +kernel
theorem dX10_isPiece_10 : decode cX10_isPiece 10 = .ok (.ishr, 1) := by decide +kernel
theorem dX10_isPiece_11 : decode cX10_isPiece 11 = .ok (.invokestatic 98, 3) := by decide +kernel
theorem dX10_isPiece_14 : decode cX10_isPiece 14 = .ok (.ifCond .eq 18, 3) := by decide +kernel
theorem dX10_isPiece_17 : decode cX10_isPiece 17 = .ok (.iload_n 0, 1) := by decide +kernel
theorem dX10_isPiece_18 : decode cX10_isPiece 18 = .ok (.sipush 255, 3) := by decide +kernel
theorem dX10_isPiece_21 : decode cX10_isPiece 21 = .ok (.iand, 1) := by decide +kernel
theorem dX10_isPiece_22 : decode cX10_isPiece 22 = .ok (.invokestatic 98, 3) := by decide +kernel
theorem dX10_isPiece_25 : decode cX10_isPiece 25 = .ok (.ifCond .eq 7, 3) := by decide +kernel
theorem dX10_isPiece_28 : decode cX10_isPiece 28 = .ok (.iconst 1, 1) := by decide +kernel
theorem dX10_isPiece_29 : decode cX10_isPiece 29 = .ok (.goto 4, 3) := by decide +kernel
theorem dX10_isPiece_32 : decode cX10_isPiece 32 = .ok (.iconst 0, 1) := by decide +kernel
theorem dX10_isPiece_33 : decode cX10_isPiece 33 = .ok (.ireturn, 1) := by decide +kernel
theorem dX10_name_0 : decode cX10_name 0 = .ok (.aload_n 0, 1) := by decide +kernel
theorem dX10_name_1 : decode cX10_name 1 = .ok (.getfield 13, 3) := by decide +kernel
theorem dX10_name_4 : decode cX10_name 4 = .ok (.istore_n 1, 1) := by decide +kernel
theorem dX10_name_5 : decode cX10_name 5 = .ok (.aload_n 0, 1) := by decide +kernel
theorem dX10_name_6 : decode cX10_name 6 = .ok (.iconst 0, 1) := by decide +kernel
theorem dX10_name_7 : decode cX10_name 7 = .ok (.putfield 13, 3) := by decide +kernel
theorem dX10_name_10 : decode cX10_name 10 = .ok (.aload_n 0, 1) := by decide +kernel
theorem dX10_name_11 : decode cX10_name 11 = .ok (.iload_n 1, 1) := by decide +kernel
theorem dX10_name_12 : decode cX10_name 12 = .ok (.invokevirtual 136, 3) := by decide +kernel
theorem dX10_name_15 : decode cX10_name 15 = .ok (.aload_n 0, 1) := by decide +kernel
theorem dX10_name_16 : decode cX10_name 16 = .ok (.getfield 42, 3) := by decide +kernel
theorem dX10_name_19 : decode cX10_name 19 = .ok (.ifCond .eq 5, 3) := by decide +kernel
theorem dX10_name_22 : decode cX10_name 22 = .ok (.iconst (-1), 1) := by decide +kernel
theorem dX10_name_23 : decode cX10_name 23 = .ok (.ireturn, 1) := by decide +kernel
theorem dX10_name_24 : decode cX10_name 24 = .ok (.aload_n 0, 1) := by decide +kernel
theorem dX10_name_25 : decode cX10_name 25 = .ok (.new 139, 3) := by decide +kernel
theorem dX10_name_28 : decode cX10_name 28 = .ok (.dup, 1) := by decide +kernel
theorem dX10_name_29 : decode cX10_name 29 = .ok (.aload_n 0, 1) := by decide +kernel
theorem dX10_name_30 : decode cX10_name 30 = .ok (.getfield 9, 3) := by decide +kernel
theorem dX10_name_33 : decode cX10_name 33 = .ok (.iload_n 1, 1) := by decide +kernel
theorem dX10_name_34 : decode cX10_name 34 = .ok (.invokespecial 141, 3) := by decide +kernel
theorem dX10_name_37 : decode cX10_name 37 = .ok (.putfield 38, 3) := by decide +kernel
theorem dX10_name_40 : decode cX10_name 40 = .ok (.aload_n 0, 1) := by decide +kernel
theorem dX10_name_41 : decode cX10_name 41 = .ok (.getfield 38, 3) := by decide +kernel
theorem dX10_name_44 : decode cX10_name 44 = .ok (.aload_n 0, 1) := by decide +kernel
theorem dX10_name_45 : decode cX10_name 45 = .ok (.getfield 20, 3) := by decide +kernel
theorem dX10_name_48 : decode cX10_name 48 = .ok (.invokevirtual 144, 3) := by decide +kernel
theorem dX10_name_51 : decode cX10_name 51 = .ok (.aload_n 0, 1) := by decide +kernel
theorem dX10_name_52 : decode cX10_name 52 = .ok (.getfield 38, 3) := by decide +kernel
theorem dX10_name_55 : decode cX10_name 55 = .ok (.getfield 148, 3) := by decide +kernel
theorem dX10_name_58 : decode cX10_name 58 = .ok (.ireturn, 1) := by decide +kernel
theorem dX10_judgeTape_0 : decode cX10_judgeTape 0 = .ok (.iconst 0, 1) := by decide +kernel
theorem dX10_judgeTape_1 : decode cX10_judgeTape 1 = .ok (.istore_n 2, 1) := by decide +kernel
theorem dX10_judgeTape_2 : decode cX10_judgeTape 2 = .ok (.iconst 0, 1) := by decide +kernel
theorem dX10_judgeTape_3 : decode cX10_judgeTape 3 = .ok (.istore_n 3, 1) := by decide +kernel
theorem dX10_judgeTape_4 : decode cX10_judgeTape 4 = .ok (.iload_n 3, 1) := by decide +kernel
theorem dX10_judgeTape_5 : decode cX10_judgeTape 5 = .ok (.iload_n 1, 1) := by decide +kernel
theorem dX10_judgeTape_6 : decode cX10_judgeTape 6 = .ok (.if_icmp .ge 72, 3) := by decide +kernel
theorem dX10_judgeTape_9 : decode cX10_judgeTape 9 = .ok (.iload_n 3, 1) := by decide +kernel
theorem dX10_judgeTape_10 : decode cX10_judgeTape 10 = .ok (.sipush 200, 3) := by decide +kernel
theorem dX10_judgeTape_13 : decode cX10_judgeTape 13 = .ok (.if_icmp .ge 65, 3) := by decide +kernel
theorem dX10_judgeTape_16 : decode cX10_judgeTape 16 = .ok (.aload_n 0, 1) := by decide +kernel
theorem dX10_judgeTape_17 : decode cX10_judgeTape 17 = .ok (.getfield 9, 3) := by decide +kernel
theorem dX10_judgeTape_20 : decode cX10_judgeTape 20 = .ok (.iload_n 3, 1) := by decide +kernel
theorem dX10_judgeTape_21 : decode cX10_judgeTape 21 = .ok (.iaload, 1) := by decide +kernel
theorem dX10_judgeTape_22 : decode cX10_judgeTape 22 = .ok (.istore 4, 2) := by decide +kernel
theorem dX10_judgeTape_24 : decode cX10_judgeTape 24 = .ok (.iload 4, 2) := by decide +kernel
theorem dX10_judgeTape_26 : decode cX10_judgeTape 26 = .ok (.invokestatic 98, 3) := by decide +kernel
theorem dX10_judgeTape_29 : decode cX10_judgeTape 29 = .ok (.ifCond .ne 10, 3) := by decide +kernel
theorem dX10_judgeTape_32 : decode cX10_judgeTape 32 = .ok (.aload_n 0, 1) := by decide +kernel
theorem dX10_judgeTape_33 : decode cX10_judgeTape 33 = .ok (.iconst 1, 1) := by decide +kernel
theorem dX10_judgeTape_34 : decode cX10_judgeTape 34 = .ok (.iload_n 3, 1) := by decide +kernel
theorem dX10_judgeTape_35 : decode cX10_judgeTape 35 = .ok (.invokevirtual 151, 3) := by decide +kernel
theorem dX10_judgeTape_38 : decode cX10_judgeTape 38 = .ok (.return_, 1) := by decide +kernel
theorem dX10_judgeTape_39 : decode cX10_judgeTape 39 = .ok (.iload_n 3, 1) := by decide +kernel
theorem dX10_judgeTape_40 : decode cX10_judgeTape 40 = .ok (.bipush 40, 2) := by decide +kernel
theorem dX10_judgeTape_42 : decode cX10_judgeTape 42 = .ok (.if_icmp .lt 10, 3) := by decide +kernel
theorem dX10_judgeTape_45 : decode cX10_judgeTape 45 = .ok (.aload_n 0, 1) := by decide +kernel
theorem dX10_judgeTape_46 : decode cX10_judgeTape 46 = .ok (.iconst 2, 1) := by decide +kernel
theorem dX10_judgeTape_47 : decode cX10_judgeTape 47 = .ok (.iload_n 3, 1) := by decide +kernel
theorem dX10_judgeTape_48 : decode cX10_judgeTape 48 = .ok (.invokevirtual 151, 3) := by decide +kernel
theorem dX10_judgeTape_51 : decode cX10_judgeTape 51 = .ok (.return_, 1) := by decide +kernel
theorem dX10_judgeTape_52 : decode cX10_judgeTape 52 = .ok (.iload_n 2, 1) := by decide +kernel
theorem dX10_judgeTape_53 : decode cX10_judgeTape 53 = .ok (.aload_n 0, 1) := by decide +kernel
theorem dX10_judgeTape_54 : decode cX10_judgeTape 54 = .ok (.getfield 20, 3) := by decide +kernel
theorem dX10_judgeTape_57 : decode cX10_judgeTape 57 = .ok (.iload 4, 2) := by decide +kernel
theorem dX10_judgeTape_59 : decode cX10_judgeTape 59 = .ok (.invokevirtual 155, 3) := by decide +kernel
theorem dX10_judgeTape_62 : decode cX10_judgeTape 62 = .ok (.ifCond .ne 7, 3) := by decide +kernel
theorem dX10_judgeTape_65 : decode cX10_judgeTape 65 = .ok (.iconst 1, 1) := by decide +kernel
theorem dX10_judgeTape_66 : decode cX10_judgeTape 66 = .ok (.goto 4, 3) := by decide +kernel
theorem dX10_judgeTape_69 : decode cX10_judgeTape 69 = .ok (.iconst 0, 1) := by decide +kernel
theorem dX10_judgeTape_70 : decode cX10_judgeTape 70 = .ok (.iadd, 1) := by decide +kernel
theorem dX10_judgeTape_71 : decode cX10_judgeTape 71 = .ok (.istore_n 2, 1) := by decide +kernel
theorem dX10_judgeTape_72 : decode cX10_judgeTape 72 = .ok (.iinc 3 1, 3) := by decide +kernel
theorem dX10_judgeTape_75 : decode cX10_judgeTape 75 = .ok (.goto (-71), 3) := by decide +kernel
theorem dX10_judgeTape_78 : decode cX10_judgeTape 78 = .ok (.iload_n 2, 1) := by decide +kernel
theorem dX10_judgeTape_79 : decode cX10_judgeTape 79 = .ok (.ifCond .ne 12, 3) := by decide +kernel
theorem dX10_judgeTape_82 : decode cX10_judgeTape 82 = .ok (.aload_n 0, 1) := by decide +kernel
theorem dX10_judgeTape_83 : decode cX10_judgeTape 83 = .ok (.iconst 3, 1) := by decide +kernel
theorem dX10_judgeTape_84 : decode cX10_judgeTape 84 = .ok (.iload_n 1, 1) := by decide +kernel
theorem dX10_judgeTape_85 : decode cX10_judgeTape 85 = .ok (.invokevirtual 151, 3) := by decide +kernel
theorem dX10_judgeTape_88 : decode cX10_judgeTape 88 = .ok (.goto 24, 3) := by decide +kernel
theorem dX10_judgeTape_91 : decode cX10_judgeTape 91 = .ok (.iload_n 2, 1) := by decide +kernel
theorem dX10_judgeTape_92 : decode cX10_judgeTape 92 = .ok (.bipush 24, 2) := by decide +kernel
theorem dX10_judgeTape_94 : decode cX10_judgeTape 94 = .ok (.if_icmp .le 12, 3) := by decide +kernel
theorem dX10_judgeTape_97 : decode cX10_judgeTape 97 = .ok (.aload_n 0, 1) := by decide +kernel
theorem dX10_judgeTape_98 : decode cX10_judgeTape 98 = .ok (.iconst 4, 1) := by decide +kernel
theorem dX10_judgeTape_99 : decode cX10_judgeTape 99 = .ok (.iload_n 1, 1) := by decide +kernel
theorem dX10_judgeTape_100 : decode cX10_judgeTape 100 = .ok (.invokevirtual 151, 3) := by decide +kernel
theorem dX10_judgeTape_103 : decode cX10_judgeTape 103 = .ok (.goto 9, 3) := by decide +kernel
theorem dX10_judgeTape_106 : decode cX10_judgeTape 106 = .ok (.aload_n 0, 1) := by decide +kernel
theorem dX10_judgeTape_107 : decode cX10_judgeTape 107 = .ok (.iconst 0, 1) := by decide +kernel
theorem dX10_judgeTape_108 : decode cX10_judgeTape 108 = .ok (.iconst (-1), 1) := by decide +kernel
theorem dX10_judgeTape_109 : decode cX10_judgeTape 109 = .ok (.invokevirtual 151, 3) := by decide +kernel
theorem dX10_judgeTape_112 : decode cX10_judgeTape 112 = .ok (.return_, 1) := by decide +kernel
theorem dX10_setFault_0 : decode cX10_setFault 0 = .ok (.aload_n 0, 1) := by decide +kernel
theorem dX10_setFault_1 : decode cX10_setFault 1 = .ok (.iload_n 1, 1) := by decide +kernel
theorem dX10_setFault_2 : decode cX10_setFault 2 = .ok (.putfield 42, 3) := by decide +kernel
theorem dX10_setFault_5 : decode cX10_setFault 5 = .ok (.aload_n 0, 1) := by decide +kernel
theorem dX10_setFault_6 : decode cX10_setFault 6 = .ok (.iload_n 2, 1) := by decide +kernel
theorem dX10_setFault_7 : decode cX10_setFault 7 = .ok (.putfield 45, 3) := by decide +kernel
theorem dX10_setFault_10 : decode cX10_setFault 10 = .ok (.return_, 1) := by decide +kernel
theorem dX10_fault_0 : decode cX10_fault 0 = .ok (.iload_n 1, 1) := by decide +kernel
theorem dX10_fault_1 : decode cX10_fault 1 = .ok (.lookupswitch 37 #[(0, 27), (1, 32)], 27) := by decide +kernel
theorem dX10_fault_28 : decode cX10_fault 28 = .ok (.aload_n 0, 1) := by decide +kernel
theorem dX10_fault_29 : decode cX10_fault 29 = .ok (.getfield 42, 3) := by decide +kernel
theorem dX10_fault_32 : decode cX10_fault 32 = .ok (.ireturn, 1) := by decide +kernel
theorem dX10_fault_33 : decode cX10_fault 33 = .ok (.aload_n 0, 1) := by decide +kernel
theorem dX10_fault_34 : decode cX10_fault 34 = .ok (.getfield 45, 3) := by decide +kernel
theorem dX10_fault_37 : decode cX10_fault 37 = .ok (.ireturn, 1) := by decide +kernel
theorem dX10_fault_38 : decode cX10_fault 38 = .ok (.iconst (-1), 1) := by decide +kernel
theorem dX10_fault_39 : decode cX10_fault 39 = .ok (.ireturn, 1) := by decide +kernel
theorem dX10_about_0 : decode cX10_about 0 = .ok (.aload_n 0, 1) := by decide +kernel
theorem dX10_about_1 : decode cX10_about 1 = .ok (.getfield 38, 3) := by decide +kernel
theorem dX10_about_4 : decode cX10_about 4 = .ok (.ifnonnull 5, 3) := by decide +kernel
theorem dX10_about_7 : decode cX10_about 7 = .ok (.iconst (-1), 1) := by decide +kernel
theorem dX10_about_8 : decode cX10_about 8 = .ok (.ireturn, 1) := by decide +kernel
theorem dX10_about_9 : decode cX10_about 9 = .ok (.aload_n 0, 1) := by decide +kernel
theorem dX10_about_10 : decode cX10_about 10 = .ok (.getfield 38, 3) := by decide +kernel
theorem dX10_about_13 : decode cX10_about 13 = .ok (.aload_n 0, 1) := by decide +kernel
theorem dX10_about_14 : decode cX10_about 14 = .ok (.getfield 20, 3) := by decide +kernel
theorem dX10_about_17 : decode cX10_about 17 = .ok (.invokevirtual 144, 3) := by decide +kernel
theorem dX10_about_20 : decode cX10_about 20 = .ok (.iload_n 1, 1) := by decide +kernel
theorem dX10_about_21 : decode cX10_about 21 = .ok (.tableswitch 130 0 6 #[43, 51, 59, 71, 83, 99, 115], 43) := by decide +kernel
theorem dX10_about_64 : decode cX10_about 64 = .ok (.aload_n 0, 1) := by decide +kernel
theorem dX10_about_65 : decode cX10_about 65 = .ok (.getfield 38, 3) := by decide +kernel
theorem dX10_about_68 : decode cX10_about 68 = .ok (.getfield 158, 3) := by decide +kernel
theorem dX10_about_71 : decode cX10_about 71 = .ok (.ireturn, 1) := by decide +kernel
theorem dX10_about_72 : decode cX10_about 72 = .ok (.aload_n 0, 1) := by decide +kernel
theorem dX10_about_73 : decode cX10_about 73 = .ok (.getfield 38, 3) := by decide +kernel
theorem dX10_about_76 : decode cX10_about 76 = .ok (.getfield 148, 3) := by decide +kernel
theorem dX10_about_79 : decode cX10_about 79 = .ok (.ireturn, 1) := by decide +kernel
theorem dX10_about_80 : decode cX10_about 80 = .ok (.aload_n 0, 1) := by decide +kernel
theorem dX10_about_81 : decode cX10_about 81 = .ok (.getfield 38, 3) := by decide +kernel
theorem dX10_about_84 : decode cX10_about 84 = .ok (.aload_n 0, 1) := by decide +kernel
theorem dX10_about_85 : decode cX10_about 85 = .ok (.getfield 20, 3) := by decide +kernel
theorem dX10_about_88 : decode cX10_about 88 = .ok (.invokevirtual 161, 3) := by decide +kernel
theorem dX10_about_91 : decode cX10_about 91 = .ok (.ireturn, 1) := by decide +kernel
theorem dX10_about_92 : decode cX10_about 92 = .ok (.aload_n 0, 1) := by decide +kernel
theorem dX10_about_93 : decode cX10_about 93 = .ok (.aload_n 0, 1) := by decide +kernel
theorem dX10_about_94 : decode cX10_about 94 = .ok (.getfield 38, 3) := by decide +kernel
theorem dX10_about_97 : decode cX10_about 97 = .ok (.invokevirtual 165, 3) := by decide +kernel
theorem dX10_about_100 : decode cX10_about 100 = .ok (.invokestatic 169, 3) := by decide +kernel
theorem dX10_about_103 : decode cX10_about 103 = .ok (.ireturn, 1) := by decide +kernel
theorem dX10_about_104 : decode cX10_about 104 = .ok (.aload_n 0, 1) := by decide +kernel
theorem dX10_about_105 : decode cX10_about 105 = .ok (.getfield 38, 3) := by decide +kernel
theorem dX10_about_108 : decode cX10_about 108 = .ok (.iconst 1, 1) := by decide +kernel
theorem dX10_about_109 : decode cX10_about 109 = .ok (.aload_n 0, 1) := by decide +kernel
theorem dX10_about_110 : decode cX10_about 110 = .ok (.getfield 20, 3) := by decide +kernel
theorem dX10_about_113 : decode cX10_about 113 = .ok (.invokevirtual 173, 3) := by decide +kernel
theorem dX10_about_116 : decode cX10_about 116 = .ok (.invokestatic 169, 3) := by decide +kernel
theorem dX10_about_119 : decode cX10_about 119 = .ok (.ireturn, 1) := by decide +kernel
theorem dX10_about_120 : decode cX10_about 120 = .ok (.aload_n 0, 1) := by decide +kernel
theorem dX10_about_121 : decode cX10_about 121 = .ok (.getfield 38, 3) := by decide +kernel
theorem dX10_about_124 : decode cX10_about 124 = .ok (.iconst 2, 1) := by decide +kernel
theorem dX10_about_125 : decode cX10_about 125 = .ok (.aload_n 0, 1) := by decide +kernel
theorem dX10_about_126 : decode cX10_about 126 = .ok (.getfield 20, 3) := by decide +kernel
theorem dX10_about_129 : decode cX10_about 129 = .ok (.invokevirtual 173, 3) := by decide +kernel
theorem dX10_about_132 : decode cX10_about 132 = .ok (.invokestatic 169, 3) := by decide +kernel
theorem dX10_about_135 : decode cX10_about 135 = .ok (.ireturn, 1) := by decide +kernel
theorem dX10_about_136 : decode cX10_about 136 = .ok (.aload_n 0, 1) := by decide +kernel
theorem dX10_about_137 : decode cX10_about 137 = .ok (.getfield 38, 3) := by decide +kernel
theorem dX10_about_140 : decode cX10_about 140 = .ok (.aload_n 0, 1) := by decide +kernel
theorem dX10_about_141 : decode cX10_about 141 = .ok (.getfield 20, 3) := by decide +kernel
theorem dX10_about_144 : decode cX10_about 144 = .ok (.invokevirtual 177, 3) := by decide +kernel
theorem dX10_about_147 : decode cX10_about 147 = .ok (.invokestatic 169, 3) := by decide +kernel
theorem dX10_about_150 : decode cX10_about 150 = .ok (.ireturn, 1) := by decide +kernel
theorem dX10_about_151 : decode cX10_about 151 = .ok (.iload_n 1, 1) := by decide +kernel
theorem dX10_about_152 : decode cX10_about 152 = .ok (.bipush 20, 2) := by decide +kernel
theorem dX10_about_154 : decode cX10_about 154 = .ok (.if_icmp .ge 7, 3) := by decide +kernel
theorem dX10_about_157 : decode cX10_about 157 = .ok (.iconst (-1), 1) := by decide +kernel
theorem dX10_about_158 : decode cX10_about 158 = .ok (.goto 14, 3) := by decide +kernel
theorem dX10_about_161 : decode cX10_about 161 = .ok (.aload_n 0, 1) := by decide +kernel
theorem dX10_about_162 : decode cX10_about 162 = .ok (.getfield 38, 3) := by decide +kernel
theorem dX10_about_165 : decode cX10_about 165 = .ok (.iload_n 1, 1) := by decide +kernel
theorem dX10_about_166 : decode cX10_about 166 = .ok (.bipush 20, 2) := by decide +kernel
theorem dX10_about_168 : decode cX10_about 168 = .ok (.isub, 1) := by decide +kernel
theorem dX10_about_169 : decode cX10_about 169 = .ok (.invokevirtual 181, 3) := by decide +kernel
theorem dX10_about_172 : decode cX10_about 172 = .ok (.ireturn, 1) := by decide +kernel
theorem dX10_isMixed_0 : decode cX10_isMixed 0 = .ok (.aload_n 1, 1) := by decide +kernel
theorem dX10_isMixed_1 : decode cX10_isMixed 1 = .ok (.aload_n 0, 1) := by decide +kernel
theorem dX10_isMixed_2 : decode cX10_isMixed 2 = .ok (.getfield 20, 3) := by decide +kernel
theorem dX10_isMixed_5 : decode cX10_isMixed 5 = .ok (.invokevirtual 161, 3) := by decide +kernel
theorem dX10_isMixed_8 : decode cX10_isMixed 8 = .ok (.istore_n 2, 1) := by decide +kernel
theorem dX10_isMixed_9 : decode cX10_isMixed 9 = .ok (.iload_n 2, 1) := by decide +kernel
theorem dX10_isMixed_10 : decode cX10_isMixed 10 = .ok (.invokestatic 184, 3) := by decide +kernel
theorem dX10_isMixed_13 : decode cX10_isMixed 13 = .ok (.iconst 2, 1) := by decide +kernel
theorem dX10_isMixed_14 : decode cX10_isMixed 14 = .ok (.if_icmp .lt 18, 3) := by decide +kernel
theorem dX10_isMixed_17 : decode cX10_isMixed 17 = .ok (.aload_n 0, 1) := by decide +kernel
theorem dX10_isMixed_18 : decode cX10_isMixed 18 = .ok (.getfield 27, 3) := by decide +kernel
theorem dX10_isMixed_21 : decode cX10_isMixed 21 = .ok (.iload_n 2, 1) := by decide +kernel
theorem dX10_isMixed_22 : decode cX10_isMixed 22 = .ok (.invokevirtual 189, 3) := by decide +kernel
theorem dX10_isMixed_25 : decode cX10_isMixed 25 = .ok (.ifCond .ne 7, 3) := by decide +kernel
theorem dX10_isMixed_28 : decode cX10_isMixed 28 = .ok (.iconst 1, 1) := by decide +kernel
theorem dX10_isMixed_29 : decode cX10_isMixed 29 = .ok (.goto 4, 3) := by decide +kernel
theorem dX10_isMixed_32 : decode cX10_isMixed 32 = .ok (.iconst 0, 1) := by decide +kernel
theorem dX10_isMixed_33 : decode cX10_isMixed 33 = .ok (.ireturn, 1) := by decide +kernel
theorem dX10_bit_0 : decode cX10_bit 0 = .ok (.iload_n 0, 1) := by decide +kernel
theorem dX10_bit_1 : decode cX10_bit 1 = .ok (.ifCond .eq 7, 3) := by decide +kernel
theorem dX10_bit_4 : decode cX10_bit 4 = .ok (.iconst 1, 1) := by decide +kernel
theorem dX10_bit_5 : decode cX10_bit 5 = .ok (.goto 4, 3) := by decide +kernel
theorem dX10_bit_8 : decode cX10_bit 8 = .ok (.iconst 0, 1) := by decide +kernel
theorem dX10_bit_9 : decode cX10_bit 9 = .ok (.ireturn, 1) := by decide +kernel
theorem dX10_rule_0 : decode cX10_rule 0 = .ok (.aload_n 0, 1) := by decide +kernel
theorem dX10_rule_1 : decode cX10_rule 1 = .ok (.iload_n 1, 1) := by decide +kernel
theorem dX10_rule_2 : decode cX10_rule 2 = .ok (.invokevirtual 192, 3) := by decide +kernel
theorem dX10_rule_5 : decode cX10_rule 5 = .ok (.astore 5, 2) := by decide +kernel
theorem dX10_rule_7 : decode cX10_rule 7 = .ok (.aload 5, 2) := by decide +kernel
theorem dX10_rule_9 : decode cX10_rule 9 = .ok (.ifnull 19, 3) := by decide +kernel
theorem dX10_rule_12 : decode cX10_rule 12 = .ok (.iload_n 2, 1) := by decide +kernel
theorem dX10_rule_13 : decode cX10_rule 13 = .ok (.ifCond .lt 15, 3) := by decide +kernel
theorem dX10_rule_16 : decode cX10_rule 16 = .ok (.iload_n 3, 1) := by decide +kernel
theorem dX10_rule_17 : decode cX10_rule 17 = .ok (.iload_n 2, 1) := by decide +kernel
theorem dX10_rule_18 : decode cX10_rule 18 = .ok (.if_icmp .lt 10, 3) := by decide +kernel
theorem dX10_rule_21 : decode cX10_rule 21 = .ok (.iload_n 3, 1) := by decide +kernel
theorem dX10_rule_22 : decode cX10_rule 22 = .ok (.sipush 200, 3) := by decide +kernel
theorem dX10_rule_25 : decode cX10_rule 25 = .ok (.if_icmp .le 6, 3) := by decide +kernel
theorem dX10_rule_28 : decode cX10_rule 28 = .ok (.bipush (-2), 2) := by decide +kernel
theorem dX10_rule_30 : decode cX10_rule 30 = .ok (.ireturn, 1) := by decide +kernel
theorem dX10_rule_31 : decode cX10_rule 31 = .ok (.aload 5, 2) := by decide +kernel
theorem dX10_rule_33 : decode cX10_rule 33 = .ok (.iload_n 2, 1) := by decide +kernel
theorem dX10_rule_34 : decode cX10_rule 34 = .ok (.putfield 196, 3) := by decide +kernel
theorem dX10_rule_37 : decode cX10_rule 37 = .ok (.aload 5, 2) := by decide +kernel
theorem dX10_rule_39 : decode cX10_rule 39 = .ok (.iload_n 3, 1) := by decide +kernel
theorem dX10_rule_40 : decode cX10_rule 40 = .ok (.putfield 199, 3) := by decide +kernel
theorem dX10_rule_43 : decode cX10_rule 43 = .ok (.aload 5, 2) := by decide +kernel
theorem dX10_rule_45 : decode cX10_rule 45 = .ok (.iload 4, 2) := by decide +kernel
theorem dX10_rule_47 : decode cX10_rule 47 = .ok (.putfield 202, 3) := by decide +kernel
theorem dX10_rule_50 : decode cX10_rule 50 = .ok (.iconst 1, 1) := by decide +kernel
theorem dX10_rule_51 : decode cX10_rule 51 = .ok (.ireturn, 1) := by decide +kernel
theorem dX10_ask_0 : decode cX10_ask 0 = .ok (.aload_n 0, 1) := by decide +kernel
theorem dX10_ask_1 : decode cX10_ask 1 = .ok (.iload_n 1, 1) := by decide +kernel
theorem dX10_ask_2 : decode cX10_ask 2 = .ok (.iload_n 2, 1) := by decide +kernel
theorem dX10_ask_3 : decode cX10_ask 3 = .ok (.invokevirtual 206, 3) := by decide +kernel
theorem dX10_ask_6 : decode cX10_ask 6 = .ok (.ireturn, 1) := by decide +kernel
theorem dX10_verdict_0 : decode cX10_verdict 0 = .ok (.aload_n 0, 1) := by decide +kernel
theorem dX10_verdict_1 : decode cX10_verdict 1 = .ok (.iload_n 1, 1) := by decide +kernel
theorem dX10_verdict_2 : decode cX10_verdict 2 = .ok (.invokevirtual 192, 3) := by decide +kernel
theorem dX10_verdict_5 : decode cX10_verdict 5 = .ok (.astore_n 3, 1) := by decide +kernel
theorem dX10_verdict_6 : decode cX10_verdict 6 = .ok (.aload_n 3, 1) := by decide +kernel
theorem dX10_verdict_7 : decode cX10_verdict 7 = .ok (.ifnull 13, 3) := by decide +kernel
theorem dX10_verdict_10 : decode cX10_verdict 10 = .ok (.iload_n 2, 1) := by decide +kernel
theorem dX10_verdict_11 : decode cX10_verdict 11 = .ok (.ifCond .lt 9, 3) := by decide +kernel
theorem dX10_verdict_14 : decode cX10_verdict 14 = .ok (.iload_n 2, 1) := by decide +kernel
theorem dX10_verdict_15 : decode cX10_verdict 15 = .ok (.bipush 32, 2) := by decide +kernel
theorem dX10_verdict_17 : decode cX10_verdict 17 = .ok (.if_icmp .lt 6, 3) := by decide +kernel
theorem dX10_verdict_20 : decode cX10_verdict 20 = .ok (.bipush (-2), 2) := by decide +kernel
theorem dX10_verdict_22 : decode cX10_verdict 22 = .ok (.ireturn, 1) := by decide +kernel
theorem dX10_verdict_23 : decode cX10_verdict 23 = .ok (.aload_n 0, 1) := by decide +kernel
theorem dX10_verdict_24 : decode cX10_verdict 24 = .ok (.getfield 38, 3) := by decide +kernel
theorem dX10_verdict_27 : decode cX10_verdict 27 = .ok (.astore 4, 2) := by decide +kernel
theorem dX10_verdict_29 : decode cX10_verdict 29 = .ok (.aload 4, 2) := by decide +kernel
theorem dX10_verdict_31 : decode cX10_verdict 31 = .ok (.ifnonnull 5, 3) := by decide +kernel
theorem dX10_verdict_34 : decode cX10_verdict 34 = .ok (.iconst (-1), 1) := by decide +kernel
theorem dX10_verdict_35 : decode cX10_verdict 35 = .ok (.ireturn, 1) := by decide +kernel
theorem dX10_verdict_36 : decode cX10_verdict 36 = .ok (.aload 4, 2) := by decide +kernel
theorem dX10_verdict_38 : decode cX10_verdict 38 = .ok (.aload_n 0, 1) := by decide +kernel
theorem dX10_verdict_39 : decode cX10_verdict 39 = .ok (.getfield 20, 3) := by decide +kernel
theorem dX10_verdict_42 : decode cX10_verdict 42 = .ok (.invokevirtual 144, 3) := by decide +kernel
theorem dX10_verdict_45 : decode cX10_verdict 45 = .ok (.aload 4, 2) := by decide +kernel
theorem dX10_verdict_47 : decode cX10_verdict 47 = .ok (.getfield 148, 3) := by decide +kernel
theorem dX10_verdict_50 : decode cX10_verdict 50 = .ok (.ifCond .ne 5, 3) := by decide +kernel
theorem dX10_verdict_53 : decode cX10_verdict 53 = .ok (.iconst (-1), 1) := by decide +kernel
theorem dX10_verdict_54 : decode cX10_verdict 54 = .ok (.ireturn, 1) := by decide +kernel
theorem dX10_verdict_55 : decode cX10_verdict 55 = .ok (.aload_n 0, 1) := by decide +kernel
theorem dX10_verdict_56 : decode cX10_verdict 56 = .ok (.aload 4, 2) := by decide +kernel
theorem dX10_verdict_58 : decode cX10_verdict 58 = .ok (.iload_n 1, 1) := by decide +kernel
theorem dX10_verdict_59 : decode cX10_verdict 59 = .ok (.invokevirtual 209, 3) := by decide +kernel
theorem dX10_verdict_62 : decode cX10_verdict 62 = .ok (.ifCond .eq 5, 3) := by decide +kernel
theorem dX10_verdict_65 : decode cX10_verdict 65 = .ok (.iconst 3, 1) := by decide +kernel
theorem dX10_verdict_66 : decode cX10_verdict 66 = .ok (.ireturn, 1) := by decide +kernel
theorem dX10_verdict_67 : decode cX10_verdict 67 = .ok (.aload_n 3, 1) := by decide +kernel
theorem dX10_verdict_68 : decode cX10_verdict 68 = .ok (.getfield 202, 3) := by decide +kernel
theorem dX10_verdict_71 : decode cX10_verdict 71 = .ok (.ifCond .eq 14, 3) := by decide +kernel
theorem dX10_verdict_74 : decode cX10_verdict 74 = .ok (.aload_n 0, 1) := by decide +kernel
theorem dX10_verdict_75 : decode cX10_verdict 75 = .ok (.aload 4, 2) := by decide +kernel
theorem dX10_verdict_77 : decode cX10_verdict 77 = .ok (.invokevirtual 165, 3) := by decide +kernel
theorem dX10_verdict_80 : decode cX10_verdict 80 = .ok (.ifCond .eq 5, 3) := by decide +kernel
theorem dX10_verdict_83 : decode cX10_verdict 83 = .ok (.iconst 2, 1) := by decide +kernel
theorem dX10_verdict_84 : decode cX10_verdict 84 = .ok (.ireturn, 1) := by decide +kernel
theorem dX10_verdict_85 : decode cX10_verdict 85 = .ok (.aload_n 0, 1) := by decide +kernel
theorem dX10_verdict_86 : decode cX10_verdict 86 = .ok (.aload 4, 2) := by decide +kernel
theorem dX10_verdict_88 : decode cX10_verdict 88 = .ok (.iload_n 1, 1) := by decide +kernel
theorem dX10_verdict_89 : decode cX10_verdict 89 = .ok (.iload_n 2, 1) := by decide +kernel
theorem dX10_verdict_90 : decode cX10_verdict 90 = .ok (.aload_n 3, 1) := by decide +kernel
theorem dX10_verdict_91 : decode cX10_verdict 91 = .ok (.getfield 199, 3) := by decide +kernel
theorem dX10_verdict_94 : decode cX10_verdict 94 = .ok (.invokevirtual 213, 3) := by decide +kernel
theorem dX10_verdict_97 : decode cX10_verdict 97 = .ok (.istore 5, 2) := by decide +kernel
theorem dX10_verdict_99 : decode cX10_verdict 99 = .ok (.iload 5, 2) := by decide +kernel
theorem dX10_verdict_101 : decode cX10_verdict 101 = .ok (.aload_n 3, 1) := by decide +kernel
theorem dX10_verdict_102 : decode cX10_verdict 102 = .ok (.getfield 196, 3) := by decide +kernel
theorem dX10_verdict_105 : decode cX10_verdict 105 = .ok (.if_icmp .gt 5, 3) := by decide +kernel
theorem dX10_verdict_108 : decode cX10_verdict 108 = .ok (.iconst 2, 1) := by decide +kernel
theorem dX10_verdict_109 : decode cX10_verdict 109 = .ok (.ireturn, 1) := by decide +kernel
theorem dX10_verdict_110 : decode cX10_verdict 110 = .ok (.iload 5, 2) := by decide +kernel
theorem dX10_verdict_112 : decode cX10_verdict 112 = .ok (.aload_n 3, 1) := by decide +kernel
theorem dX10_verdict_113 : decode cX10_verdict 113 = .ok (.getfield 199, 3) := by decide +kernel
theorem dX10_verdict_116 : decode cX10_verdict 116 = .ok (.if_icmp .gt 7, 3) := by decide +kernel
theorem dX10_verdict_119 : decode cX10_verdict 119 = .ok (.iconst 1, 1) := by decide +kernel
theorem dX10_verdict_120 : decode cX10_verdict 120 = .ok (.goto 4, 3) := by decide +kernel
theorem dX10_verdict_123 : decode cX10_verdict 123 = .ok (.iconst 0, 1) := by decide +kernel
theorem dX10_verdict_124 : decode cX10_verdict 124 = .ok (.ireturn, 1) := by decide +kernel
theorem dX10_isHeld_0 : decode cX10_isHeld 0 = .ok (.iconst 0, 1) := by decide +kernel
theorem dX10_isHeld_1 : decode cX10_isHeld 1 = .ok (.istore_n 3, 1) := by decide +kernel
theorem dX10_isHeld_2 : decode cX10_isHeld 2 = .ok (.iload_n 3, 1) := by decide +kernel
theorem dX10_isHeld_3 : decode cX10_isHeld 3 = .ok (.aload_n 0, 1) := by decide +kernel
theorem dX10_isHeld_4 : decode cX10_isHeld 4 = .ok (.getfield 61, 3) := by decide +kernel
theorem dX10_isHeld_7 : decode cX10_isHeld 7 = .ok (.if_icmp .ge 56, 3) := by decide +kernel
theorem dX10_isHeld_10 : decode cX10_isHeld 10 = .ok (.aload_n 0, 1) := by decide +kernel
theorem dX10_isHeld_11 : decode cX10_isHeld 11 = .ok (.iload_n 3, 1) := by decide +kernel
theorem dX10_isHeld_12 : decode cX10_isHeld 12 = .ok (.invokevirtual 217, 3) := by decide +kernel
theorem dX10_isHeld_15 : decode cX10_isHeld 15 = .ok (.astore 4, 2) := by decide +kernel
theorem dX10_isHeld_17 : decode cX10_isHeld 17 = .ok (.aload 4, 2) := by decide +kernel
theorem dX10_isHeld_19 : decode cX10_isHeld 19 = .ok (.ifnull 38, 3) := by decide +kernel
theorem dX10_isHeld_22 : decode cX10_isHeld 22 = .ok (.aload 4, 2) := by decide +kernel
theorem dX10_isHeld_24 : decode cX10_isHeld 24 = .ok (.getfield 221, 3) := by decide +kernel
theorem dX10_isHeld_27 : decode cX10_isHeld 27 = .ok (.iload_n 2, 1) := by decide +kernel
theorem dX10_isHeld_28 : decode cX10_isHeld 28 = .ok (.if_icmp .ne 29, 3) := by decide +kernel
theorem dX10_isHeld_31 : decode cX10_isHeld 31 = .ok (.aload 4, 2) := by decide +kernel
theorem dX10_isHeld_33 : decode cX10_isHeld 33 = .ok (.getfield 224, 3) := by decide +kernel
theorem dX10_isHeld_36 : decode cX10_isHeld 36 = .ok (.aload_n 0, 1) := by decide +kernel
theorem dX10_isHeld_37 : decode cX10_isHeld 37 = .ok (.getfield 20, 3) := by decide +kernel
theorem dX10_isHeld_40 : decode cX10_isHeld 40 = .ok (.invokevirtual 144, 3) := by decide +kernel
theorem dX10_isHeld_43 : decode cX10_isHeld 43 = .ok (.aload 4, 2) := by decide +kernel
theorem dX10_isHeld_45 : decode cX10_isHeld 45 = .ok (.getfield 224, 3) := by decide +kernel
theorem dX10_isHeld_48 : decode cX10_isHeld 48 = .ok (.aload_n 1, 1) := by decide +kernel
theorem dX10_isHeld_49 : decode cX10_isHeld 49 = .ok (.invokevirtual 227, 3) := by decide +kernel
theorem dX10_isHeld_52 : decode cX10_isHeld 52 = .ok (.ifCond .eq 5, 3) := by decide +kernel
theorem dX10_isHeld_55 : decode cX10_isHeld 55 = .ok (.iconst 1, 1) := by decide +kernel
theorem dX10_isHeld_56 : decode cX10_isHeld 56 = .ok (.ireturn, 1) := by decide +kernel
theorem dX10_isHeld_57 : decode cX10_isHeld 57 = .ok (.iinc 3 1, 3) := by decide +kernel
theorem dX10_isHeld_60 : decode cX10_isHeld 60 = .ok (.goto (-58), 3) := by decide +kernel
theorem dX10_isHeld_63 : decode cX10_isHeld 63 = .ok (.iconst 0, 1) := by decide +kernel
theorem dX10_isHeld_64 : decode cX10_isHeld 64 = .ok (.ireturn, 1) := by decide +kernel
theorem dX10_leastToOthers_0 : decode cX10_leastToOthers 0 = .ok (.ldc 129, 2) := by decide +kernel
theorem dX10_leastToOthers_2 : decode cX10_leastToOthers 2 = .ok (.istore 5, 2) := by decide +kernel
theorem dX10_leastToOthers_4 : decode cX10_leastToOthers 4 = .ok (.iconst 0, 1) := by decide +kernel
theorem dX10_leastToOthers_5 : decode cX10_leastToOthers 5 = .ok (.istore 6, 2) := by decide +kernel
theorem dX10_leastToOthers_7 : decode cX10_leastToOthers 7 = .ok (.iload 6, 2) := by decide +kernel
theorem dX10_leastToOthers_9 : decode cX10_leastToOthers 9 = .ok (.aload_n 0, 1) := by decide +kernel
theorem dX10_leastToOthers_10 : decode cX10_leastToOthers 10 = .ok (.getfield 61, 3) := by decide +kernel
theorem dX10_leastToOthers_13 : decode cX10_leastToOthers 13 = .ok (.if_icmp .ge 69, 3) := by decide +kernel
theorem dX10_leastToOthers_16 : decode cX10_leastToOthers 16 = .ok (.aload_n 0, 1) := by decide +kernel
theorem dX10_leastToOthers_17 : decode cX10_leastToOthers 17 = .ok (.iload 6, 2) := by decide +kernel
theorem dX10_leastToOthers_19 : decode cX10_leastToOthers 19 = .ok (.invokevirtual 217, 3) := by decide +kernel
theorem dX10_leastToOthers_22 : decode cX10_leastToOthers 22 = .ok (.astore 7, 2) := by decide +kernel
theorem dX10_leastToOthers_24 : decode cX10_leastToOthers 24 = .ok (.aload 7, 2) := by decide +kernel
theorem dX10_leastToOthers_26 : decode cX10_leastToOthers 26 = .ok (.ifnull 50, 3) := by decide +kernel
theorem dX10_leastToOthers_29 : decode cX10_leastToOthers 29 = .ok (.aload 7, 2) := by decide +kernel
theorem dX10_leastToOthers_31 : decode cX10_leastToOthers 31 = .ok (.getfield 221, 3) := by decide +kernel
theorem dX10_leastToOthers_34 : decode cX10_leastToOthers 34 = .ok (.iload_n 2, 1) := by decide +kernel
theorem dX10_leastToOthers_35 : decode cX10_leastToOthers 35 = .ok (.if_icmp .ne 41, 3) := by decide +kernel
theorem dX10_leastToOthers_38 : decode cX10_leastToOthers 38 = .ok (.aload 7, 2) := by decide +kernel
theorem dX10_leastToOthers_40 : decode cX10_leastToOthers 40 = .ok (.getfield 230, 3) := by decide +kernel
theorem dX10_leastToOthers_43 : decode cX10_leastToOthers 43 = .ok (.iload_n 3, 1) := by decide +kernel
theorem dX10_leastToOthers_44 : decode cX10_leastToOthers 44 = .ok (.if_icmp .eq 32, 3) := by decide +kernel
theorem dX10_leastToOthers_47 : decode cX10_leastToOthers 47 = .ok (.aload_n 0, 1) := by decide +kernel
theorem dX10_leastToOthers_48 : decode cX10_leastToOthers 48 = .ok (.aload_n 1, 1) := by decide +kernel
theorem dX10_leastToOthers_49 : decode cX10_leastToOthers 49 = .ok (.aload 7, 2) := by decide +kernel
theorem dX10_leastToOthers_51 : decode cX10_leastToOthers 51 = .ok (.getfield 224, 3) := by decide +kernel
theorem dX10_leastToOthers_54 : decode cX10_leastToOthers 54 = .ok (.iload 4, 2) := by decide +kernel
theorem dX10_leastToOthers_56 : decode cX10_leastToOthers 56 = .ok (.iload 5, 2) := by decide +kernel
theorem dX10_leastToOthers_58 : decode cX10_leastToOthers 58 = .ok (.invokestatic 233, 3) := by decide +kernel
theorem dX10_leastToOthers_61 : decode cX10_leastToOthers 61 = .ok (.invokevirtual 238, 3) := by decide +kernel
theorem dX10_leastToOthers_64 : decode cX10_leastToOthers 64 = .ok (.istore 8, 2) := by decide +kernel
theorem dX10_leastToOthers_66 : decode cX10_leastToOthers 66 = .ok (.iload 8, 2) := by decide +kernel
theorem dX10_leastToOthers_68 : decode cX10_leastToOthers 68 = .ok (.iconst (-1), 1) := by decide +kernel
theorem dX10_leastToOthers_69 : decode cX10_leastToOthers 69 = .ok (.if_icmp .eq 7, 3) := by decide +kernel
theorem dX10_leastToOthers_72 : decode cX10_leastToOthers 72 = .ok (.iload 8, 2) := by decide +kernel
theorem dX10_leastToOthers_74 : decode cX10_leastToOthers 74 = .ok (.istore 5, 2) := by decide +kernel
theorem dX10_leastToOthers_76 : decode cX10_leastToOthers 76 = .ok (.iinc 6 1, 3) := by decide +kernel
theorem dX10_leastToOthers_79 : decode cX10_leastToOthers 79 = .ok (.goto (-72), 3) := by decide +kernel
theorem dX10_leastToOthers_82 : decode cX10_leastToOthers 82 = .ok (.iload 5, 2) := by decide +kernel
theorem dX10_leastToOthers_84 : decode cX10_leastToOthers 84 = .ok (.ireturn, 1) := by decide +kernel
theorem dX10_enter_0 : decode cX10_enter 0 = .ok (.aload_n 0, 1) := by decide +kernel
theorem dX10_enter_1 : decode cX10_enter 1 = .ok (.iload_n 1, 1) := by decide +kernel
theorem dX10_enter_2 : decode cX10_enter 2 = .ok (.iload_n 2, 1) := by decide +kernel
theorem dX10_enter_3 : decode cX10_enter 3 = .ok (.invokevirtual 206, 3) := by decide +kernel
theorem dX10_enter_6 : decode cX10_enter 6 = .ok (.istore_n 3, 1) := by decide +kernel
theorem dX10_enter_7 : decode cX10_enter 7 = .ok (.iload_n 3, 1) := by decide +kernel
theorem dX10_enter_8 : decode cX10_enter 8 = .ok (.ifCond .ge 5, 3) := by decide +kernel
theorem dX10_enter_11 : decode cX10_enter 11 = .ok (.iload_n 3, 1) := by decide +kernel
theorem dX10_enter_12 : decode cX10_enter 12 = .ok (.ireturn, 1) := by decide +kernel
theorem dX10_enter_13 : decode cX10_enter 13 = .ok (.iload_n 3, 1) := by decide +kernel
theorem dX10_enter_14 : decode cX10_enter 14 = .ok (.iconst 1, 1) := by decide +kernel
theorem dX10_enter_15 : decode cX10_enter 15 = .ok (.if_icmp .le 8, 3) := by decide +kernel
theorem dX10_enter_18 : decode cX10_enter 18 = .ok (.bipush (-10), 2) := by decide +kernel
theorem dX10_enter_20 : decode cX10_enter 20 = .ok (.iload_n 3, 1) := by decide +kernel
theorem dX10_enter_21 : decode cX10_enter 21 = .ok (.isub, 1) := by decide +kernel
theorem dX10_enter_22 : decode cX10_enter 22 = .ok (.ireturn, 1) := by decide +kernel
theorem dX10_enter_23 : decode cX10_enter 23 = .ok (.aload_n 0, 1) := by decide +kernel
theorem dX10_enter_24 : decode cX10_enter 24 = .ok (.getfield 61, 3) := by decide +kernel
theorem dX10_enter_27 : decode cX10_enter 27 = .ok (.sipush 200, 3) := by decide +kernel
theorem dX10_enter_30 : decode cX10_enter 30 = .ok (.if_icmp .lt 6, 3) := by decide +kernel
theorem dX10_enter_33 : decode cX10_enter 33 = .ok (.bipush (-3), 2) := by decide +kernel
theorem dX10_enter_35 : decode cX10_enter 35 = .ok (.ireturn, 1) := by decide +kernel
theorem dX10_enter_36 : decode cX10_enter 36 = .ok (.aload_n 0, 1) := by decide +kernel
theorem dX10_enter_37 : decode cX10_enter 37 = .ok (.getfield 57, 3) := by decide +kernel
theorem dX10_enter_40 : decode cX10_enter 40 = .ok (.aload_n 0, 1) := by decide +kernel
theorem dX10_enter_41 : decode cX10_enter 41 = .ok (.getfield 61, 3) := by decide +kernel
theorem dX10_enter_44 : decode cX10_enter 44 = .ok (.new 55, 3) := by decide +kernel
theorem dX10_enter_47 : decode cX10_enter 47 = .ok (.dup, 1) := by decide +kernel
theorem dX10_enter_48 : decode cX10_enter 48 = .ok (.iload_n 1, 1) := by decide +kernel
theorem dX10_enter_49 : decode cX10_enter 49 = .ok (.iload_n 2, 1) := by decide +kernel
theorem dX10_enter_50 : decode cX10_enter 50 = .ok (.aload_n 0, 1) := by decide +kernel
theorem dX10_enter_51 : decode cX10_enter 51 = .ok (.getfield 38, 3) := by decide +kernel
theorem dX10_enter_54 : decode cX10_enter 54 = .ok (.invokespecial 242, 3) := by decide +kernel
theorem dX10_enter_57 : decode cX10_enter 57 = .ok (.aastore, 1) := by decide +kernel
theorem dX10_enter_58 : decode cX10_enter 58 = .ok (.aload_n 0, 1) := by decide +kernel
theorem dX10_enter_59 : decode cX10_enter 59 = .ok (.dup, 1) := by decide +kernel
theorem dX10_enter_60 : decode cX10_enter 60 = .ok (.getfield 61, 3) := by decide +kernel
theorem dX10_enter_63 : decode cX10_enter 63 = .ok (.iconst 1, 1) := by decide +kernel
theorem dX10_enter_64 : decode cX10_enter 64 = .ok (.iadd, 1) := by decide +kernel
theorem dX10_enter_65 : decode cX10_enter 65 = .ok (.putfield 61, 3) := by decide +kernel
theorem dX10_enter_68 : decode cX10_enter 68 = .ok (.aload_n 0, 1) := by decide +kernel
theorem dX10_enter_69 : decode cX10_enter 69 = .ok (.getfield 61, 3) := by decide +kernel
theorem dX10_enter_72 : decode cX10_enter 72 = .ok (.iconst 1, 1) := by decide +kernel
theorem dX10_enter_73 : decode cX10_enter 73 = .ok (.isub, 1) := by decide +kernel
theorem dX10_enter_74 : decode cX10_enter 74 = .ok (.ireturn, 1) := by decide +kernel
theorem dX10_strike_0 : decode cX10_strike 0 = .ok (.aload_n 0, 1) := by decide +kernel
theorem dX10_strike_1 : decode cX10_strike 1 = .ok (.iload_n 1, 1) := by decide +kernel
theorem dX10_strike_2 : decode cX10_strike 2 = .ok (.invokevirtual 217, 3) := by decide +kernel
theorem dX10_strike_5 : decode cX10_strike 5 = .ok (.astore_n 2, 1) := by decide +kernel
theorem dX10_strike_6 : decode cX10_strike 6 = .ok (.aload_n 2, 1) := by decide +kernel
theorem dX10_strike_7 : decode cX10_strike 7 = .ok (.ifnonnull 6, 3) := by decide +kernel
theorem dX10_strike_10 : decode cX10_strike 10 = .ok (.bipush (-2), 2) := by decide +kernel
theorem dX10_strike_12 : decode cX10_strike 12 = .ok (.ireturn, 1) := by decide +kernel
theorem dX10_strike_13 : decode cX10_strike 13 = .ok (.aload_n 2, 1) := by decide +kernel
theorem dX10_strike_14 : decode cX10_strike 14 = .ok (.iconst 0, 1) := by decide +kernel
theorem dX10_strike_15 : decode cX10_strike 15 = .ok (.putfield 245, 3) := by decide +kernel
theorem dX10_strike_18 : decode cX10_strike 18 = .ok (.iconst 1, 1) := by decide +kernel
theorem dX10_strike_19 : decode cX10_strike 19 = .ok (.ireturn, 1) := by decide +kernel
theorem dX10_entry_0 : decode cX10_entry 0 = .ok (.aload_n 0, 1) := by decide +kernel
theorem dX10_entry_1 : decode cX10_entry 1 = .ok (.iload_n 1, 1) := by decide +kernel
theorem dX10_entry_2 : decode cX10_entry 2 = .ok (.invokevirtual 248, 3) := by decide +kernel
theorem dX10_entry_5 : decode cX10_entry 5 = .ok (.astore_n 3, 1) := by decide +kernel
theorem dX10_entry_6 : decode cX10_entry 6 = .ok (.aload_n 3, 1) := by decide +kernel
theorem dX10_entry_7 : decode cX10_entry 7 = .ok (.ifnonnull 5, 3) := by decide +kernel
theorem dX10_entry_10 : decode cX10_entry 10 = .ok (.iconst (-1), 1) := by decide +kernel
theorem dX10_entry_11 : decode cX10_entry 11 = .ok (.ireturn, 1) := by decide +kernel
theorem dX10_entry_12 : decode cX10_entry 12 = .ok (.aload_n 3, 1) := by decide +kernel
theorem dX10_entry_13 : decode cX10_entry 13 = .ok (.getfield 224, 3) := by decide +kernel
theorem dX10_entry_16 : decode cX10_entry 16 = .ok (.aload_n 0, 1) := by decide +kernel
theorem dX10_entry_17 : decode cX10_entry 17 = .ok (.getfield 20, 3) := by decide +kernel
theorem dX10_entry_20 : decode cX10_entry 20 = .ok (.invokevirtual 144, 3) := by decide +kernel
theorem dX10_entry_23 : decode cX10_entry 23 = .ok (.iload_n 2, 1) := by decide +kernel
theorem dX10_entry_24 : decode cX10_entry 24 = .ok (.tableswitch 70 0 4 #[36, 41, 46, 54, 62], 36) := by decide +kernel
theorem dX10_entry_60 : decode cX10_entry 60 = .ok (.aload_n 3, 1) := by decide +kernel
theorem dX10_entry_61 : decode cX10_entry 61 = .ok (.getfield 221, 3) := by decide +kernel
theorem dX10_entry_64 : decode cX10_entry 64 = .ok (.ireturn, 1) := by decide +kernel
theorem dX10_entry_65 : decode cX10_entry 65 = .ok (.aload_n 3, 1) := by decide +kernel
theorem dX10_entry_66 : decode cX10_entry 66 = .ok (.getfield 230, 3) := by decide +kernel
theorem dX10_entry_69 : decode cX10_entry 69 = .ok (.ireturn, 1) := by decide +kernel
theorem dX10_entry_70 : decode cX10_entry 70 = .ok (.aload_n 3, 1) := by decide +kernel
theorem dX10_entry_71 : decode cX10_entry 71 = .ok (.getfield 224, 3) := by decide +kernel
theorem dX10_entry_74 : decode cX10_entry 74 = .ok (.getfield 158, 3) := by decide +kernel
theorem dX10_entry_77 : decode cX10_entry 77 = .ok (.ireturn, 1) := by decide +kernel
theorem dX10_entry_78 : decode cX10_entry 78 = .ok (.aload_n 3, 1) := by decide +kernel
theorem dX10_entry_79 : decode cX10_entry 79 = .ok (.getfield 224, 3) := by decide +kernel
theorem dX10_entry_82 : decode cX10_entry 82 = .ok (.getfield 148, 3) := by decide +kernel
theorem dX10_entry_85 : decode cX10_entry 85 = .ok (.ireturn, 1) := by decide +kernel
theorem dX10_entry_86 : decode cX10_entry 86 = .ok (.aload_n 3, 1) := by decide +kernel
theorem dX10_entry_87 : decode cX10_entry 87 = .ok (.getfield 245, 3) := by decide +kernel
theorem dX10_entry_90 : decode cX10_entry 90 = .ok (.invokestatic 169, 3) := by decide +kernel
theorem dX10_entry_93 : decode cX10_entry 93 = .ok (.ireturn, 1) := by decide +kernel
theorem dX10_entry_94 : decode cX10_entry 94 = .ok (.iload_n 2, 1) := by decide +kernel
theorem dX10_entry_95 : decode cX10_entry 95 = .ok (.bipush 20, 2) := by decide +kernel
theorem dX10_entry_97 : decode cX10_entry 97 = .ok (.if_icmp .ge 7, 3) := by decide +kernel
theorem dX10_entry_100 : decode cX10_entry 100 = .ok (.iconst (-1), 1) := by decide +kernel
theorem dX10_entry_101 : decode cX10_entry 101 = .ok (.goto 14, 3) := by decide +kernel
theorem dX10_entry_104 : decode cX10_entry 104 = .ok (.aload_n 3, 1) := by decide +kernel
theorem dX10_entry_105 : decode cX10_entry 105 = .ok (.getfield 224, 3) := by decide +kernel
theorem dX10_entry_108 : decode cX10_entry 108 = .ok (.iload_n 2, 1) := by decide +kernel
theorem dX10_entry_109 : decode cX10_entry 109 = .ok (.bipush 20, 2) := by decide +kernel
theorem dX10_entry_111 : decode cX10_entry 111 = .ok (.isub, 1) := by decide +kernel
theorem dX10_entry_112 : decode cX10_entry 112 = .ok (.invokevirtual 251, 3) := by decide +kernel
theorem dX10_entry_115 : decode cX10_entry 115 = .ok (.ireturn, 1) := by decide +kernel
theorem dX10_far_0 : decode cX10_far 0 = .ok (.aload_n 0, 1) := by decide +kernel
theorem dX10_far_1 : decode cX10_far 1 = .ok (.iload_n 1, 1) := by decide +kernel
theorem dX10_far_2 : decode cX10_far 2 = .ok (.invokevirtual 217, 3) := by decide +kernel
theorem dX10_far_5 : decode cX10_far 5 = .ok (.astore_n 2, 1) := by decide +kernel
theorem dX10_far_6 : decode cX10_far 6 = .ok (.aload_n 2, 1) := by decide +kernel
theorem dX10_far_7 : decode cX10_far 7 = .ok (.ifnonnull 6, 3) := by decide +kernel
theorem dX10_far_10 : decode cX10_far 10 = .ok (.bipush (-2), 2) := by decide +kernel
theorem dX10_far_12 : decode cX10_far 12 = .ok (.ireturn, 1) := by decide +kernel
theorem dX10_far_13 : decode cX10_far 13 = .ok (.aload_n 0, 1) := by decide +kernel
theorem dX10_far_14 : decode cX10_far 14 = .ok (.getfield 38, 3) := by decide +kernel
theorem dX10_far_17 : decode cX10_far 17 = .ok (.ifnonnull 7, 3) := by decide +kernel
theorem dX10_far_20 : decode cX10_far 20 = .ok (.iconst (-1), 1) := by decide +kernel
theorem dX10_far_21 : decode cX10_far 21 = .ok (.goto 17, 3) := by decide +kernel
theorem dX10_far_24 : decode cX10_far 24 = .ok (.aload_n 0, 1) := by decide +kernel
theorem dX10_far_25 : decode cX10_far 25 = .ok (.aload_n 0, 1) := by decide +kernel
theorem dX10_far_26 : decode cX10_far 26 = .ok (.getfield 38, 3) := by decide +kernel
theorem dX10_far_29 : decode cX10_far 29 = .ok (.aload_n 2, 1) := by decide +kernel
theorem dX10_far_30 : decode cX10_far 30 = .ok (.getfield 224, 3) := by decide +kernel
theorem dX10_far_33 : decode cX10_far 33 = .ok (.ldc 254, 2) := by decide +kernel
theorem dX10_far_35 : decode cX10_far 35 = .ok (.invokevirtual 238, 3) := by decide +kernel
theorem dX10_far_38 : decode cX10_far 38 = .ok (.ireturn, 1) := by decide +kernel
theorem dX10_near_0 : decode cX10_near 0 = .ok (.aload_n 0, 1) := by decide +kernel
theorem dX10_near_1 : decode cX10_near 1 = .ok (.iload_n 1, 1) := by decide +kernel
theorem dX10_near_2 : decode cX10_near 2 = .ok (.invokevirtual 192, 3) := by decide +kernel
theorem dX10_near_5 : decode cX10_near 5 = .ok (.ifnull 14, 3) := by decide +kernel
theorem dX10_near_8 : decode cX10_near 8 = .ok (.iload_n 2, 1) := by decide +kernel
theorem dX10_near_9 : decode cX10_near 9 = .ok (.ifCond .lt 10, 3) := by decide +kernel
theorem dX10_near_12 : decode cX10_near 12 = .ok (.iload_n 2, 1) := by decide +kernel
theorem dX10_near_13 : decode cX10_near 13 = .ok (.sipush 200, 3) := by decide +kernel
theorem dX10_near_16 : decode cX10_near 16 = .ok (.if_icmp .le 6, 3) := by decide +kernel
theorem dX10_near_19 : decode cX10_near 19 = .ok (.bipush (-2), 2) := by decide +kernel
theorem dX10_near_21 : decode cX10_near 21 = .ok (.ireturn, 1) := by decide +kernel
theorem dX10_near_22 : decode cX10_near 22 = .ok (.aload_n 0, 1) := by decide +kernel
theorem dX10_near_23 : decode cX10_near 23 = .ok (.getfield 38, 3) := by decide +kernel
theorem dX10_near_26 : decode cX10_near 26 = .ok (.ifnonnull 5, 3) := by decide +kernel
theorem dX10_near_29 : decode cX10_near 29 = .ok (.iconst (-1), 1) := by decide +kernel
theorem dX10_near_30 : decode cX10_near 30 = .ok (.ireturn, 1) := by decide +kernel
theorem dX10_near_31 : decode cX10_near 31 = .ok (.aload_n 0, 1) := by decide +kernel
theorem dX10_near_32 : decode cX10_near 32 = .ok (.getfield 76, 3) := by decide +kernel
theorem dX10_near_35 : decode cX10_near 35 = .ok (.iconst 0, 1) := by decide +kernel
theorem dX10_near_36 : decode cX10_near 36 = .ok (.putfield 255, 3) := by decide +kernel
theorem dX10_near_39 : decode cX10_near 39 = .ok (.iconst 0, 1) := by decide +kernel
theorem dX10_near_40 : decode cX10_near 40 = .ok (.istore_n 3, 1) := by decide +kernel
theorem dX10_near_41 : decode cX10_near 41 = .ok (.iload_n 3, 1) := by decide +kernel
theorem dX10_near_42 : decode cX10_near 42 = .ok (.aload_n 0, 1) := by decide +kernel
theorem dX10_near_43 : decode cX10_near 43 = .ok (.getfield 61, 3) := by decide +kernel
theorem dX10_near_46 : decode cX10_near 46 = .ok (.if_icmp .ge 62, 3) := by decide +kernel
theorem dX10_near_49 : decode cX10_near 49 = .ok (.aload_n 0, 1) := by decide +kernel
theorem dX10_near_50 : decode cX10_near 50 = .ok (.iload_n 3, 1) := by decide +kernel
theorem dX10_near_51 : decode cX10_near 51 = .ok (.invokevirtual 217, 3) := by decide +kernel
theorem dX10_near_54 : decode cX10_near 54 = .ok (.astore 4, 2) := by decide +kernel
theorem dX10_near_56 : decode cX10_near 56 = .ok (.aload 4, 2) := by decide +kernel
theorem dX10_near_58 : decode cX10_near 58 = .ok (.ifnull 44, 3) := by decide +kernel
theorem dX10_near_61 : decode cX10_near 61 = .ok (.aload 4, 2) := by decide +kernel
theorem dX10_near_63 : decode cX10_near 63 = .ok (.getfield 221, 3) := by decide +kernel
theorem dX10_near_66 : decode cX10_near 66 = .ok (.iload_n 1, 1) := by decide +kernel
theorem dX10_near_67 : decode cX10_near 67 = .ok (.if_icmp .ne 35, 3) := by decide +kernel
theorem dX10_near_70 : decode cX10_near 70 = .ok (.aload_n 0, 1) := by decide +kernel
theorem dX10_near_71 : decode cX10_near 71 = .ok (.aload_n 0, 1) := by decide +kernel
theorem dX10_near_72 : decode cX10_near 72 = .ok (.getfield 38, 3) := by decide +kernel
theorem dX10_near_75 : decode cX10_near 75 = .ok (.aload 4, 2) := by decide +kernel
theorem dX10_near_77 : decode cX10_near 77 = .ok (.getfield 224, 3) := by decide +kernel
theorem dX10_near_80 : decode cX10_near 80 = .ok (.iload_n 2, 1) := by decide +kernel
theorem dX10_near_81 : decode cX10_near 81 = .ok (.invokevirtual 238, 3) := by decide +kernel
theorem dX10_near_84 : decode cX10_near 84 = .ok (.istore 5, 2) := by decide +kernel
theorem dX10_near_86 : decode cX10_near 86 = .ok (.iload 5, 2) := by decide +kernel
theorem dX10_near_88 : decode cX10_near 88 = .ok (.iconst (-1), 1) := by decide +kernel
theorem dX10_near_89 : decode cX10_near 89 = .ok (.if_icmp .eq 13, 3) := by decide +kernel
theorem dX10_near_92 : decode cX10_near 92 = .ok (.aload_n 0, 1) := by decide +kernel
theorem dX10_near_93 : decode cX10_near 93 = .ok (.getfield 76, 3) := by decide +kernel
theorem dX10_near_96 : decode cX10_near 96 = .ok (.iload_n 3, 1) := by decide +kernel
theorem dX10_near_97 : decode cX10_near 97 = .ok (.iload 5, 2) := by decide +kernel
theorem dX10_near_99 : decode cX10_near 99 = .ok (.invokevirtual 258, 3) := by decide +kernel
theorem dX10_near_102 : decode cX10_near 102 = .ok (.iinc 3 1, 3) := by decide +kernel
theorem dX10_near_105 : decode cX10_near 105 = .ok (.goto (-64), 3) := by decide +kernel
theorem dX10_near_108 : decode cX10_near 108 = .ok (.aload_n 0, 1) := by decide +kernel
theorem dX10_near_109 : decode cX10_near 109 = .ok (.getfield 76, 3) := by decide +kernel
theorem dX10_near_112 : decode cX10_near 112 = .ok (.getfield 255, 3) := by decide +kernel
theorem dX10_near_115 : decode cX10_near 115 = .ok (.ireturn, 1) := by decide +kernel
theorem dX10_nearest_0 : decode cX10_nearest 0 = .ok (.aload_n 0, 1) := by decide +kernel
theorem dX10_nearest_1 : decode cX10_nearest 1 = .ok (.getfield 76, 3) := by decide +kernel
theorem dX10_nearest_4 : decode cX10_nearest 4 = .ok (.iload_n 1, 1) := by decide +kernel
theorem dX10_nearest_5 : decode cX10_nearest 5 = .ok (.iload_n 2, 1) := by decide +kernel
theorem dX10_nearest_6 : decode cX10_nearest 6 = .ok (.invokevirtual 261, 3) := by decide +kernel
theorem dX10_nearest_9 : decode cX10_nearest 9 = .ok (.ireturn, 1) := by decide +kernel
theorem dX10_ways_0 : decode cX10_ways 0 = .ok (.aload_n 0, 1) := by decide +kernel
theorem dX10_ways_1 : decode cX10_ways 1 = .ok (.iload_n 1, 1) := by decide +kernel
theorem dX10_ways_2 : decode cX10_ways 2 = .ok (.invokevirtual 217, 3) := by decide +kernel
theorem dX10_ways_5 : decode cX10_ways 5 = .ok (.astore_n 2, 1) := by decide +kernel
theorem dX10_ways_6 : decode cX10_ways 6 = .ok (.aload_n 2, 1) := by decide +kernel
theorem dX10_ways_7 : decode cX10_ways 7 = .ok (.ifnonnull 6, 3) := by decide +kernel
theorem dX10_ways_10 : decode cX10_ways 10 = .ok (.bipush (-2), 2) := by decide +kernel
theorem dX10_ways_12 : decode cX10_ways 12 = .ok (.ireturn, 1) := by decide +kernel
theorem dX10_ways_13 : decode cX10_ways 13 = .ok (.aload_n 0, 1) := by decide +kernel
theorem dX10_ways_14 : decode cX10_ways 14 = .ok (.getfield 38, 3) := by decide +kernel
theorem dX10_ways_17 : decode cX10_ways 17 = .ok (.ifnull 21, 3) := by decide +kernel
theorem dX10_ways_20 : decode cX10_ways 20 = .ok (.aload_n 0, 1) := by decide +kernel
theorem dX10_ways_21 : decode cX10_ways 21 = .ok (.aload_n 0, 1) := by decide +kernel
theorem dX10_ways_22 : decode cX10_ways 22 = .ok (.getfield 38, 3) := by decide +kernel
theorem dX10_ways_25 : decode cX10_ways 25 = .ok (.aload_n 2, 1) := by decide +kernel
theorem dX10_ways_26 : decode cX10_ways 26 = .ok (.getfield 224, 3) := by decide +kernel
theorem dX10_ways_29 : decode cX10_ways 29 = .ok (.ldc 254, 2) := by decide +kernel
theorem dX10_ways_31 : decode cX10_ways 31 = .ok (.invokevirtual 238, 3) := by decide +kernel
theorem dX10_ways_34 : decode cX10_ways 34 = .ok (.iconst (-1), 1) := by decide +kernel
theorem dX10_ways_35 : decode cX10_ways 35 = .ok (.if_icmp .ne 5, 3) := by decide +kernel
theorem dX10_ways_38 : decode cX10_ways 38 = .ok (.iconst (-1), 1) := by decide +kernel
theorem dX10_ways_39 : decode cX10_ways 39 = .ok (.ireturn, 1) := by decide +kernel
theorem dX10_ways_40 : decode cX10_ways 40 = .ok (.aload_n 0, 1) := by decide +kernel
theorem dX10_ways_41 : decode cX10_ways 41 = .ok (.getfield 69, 3) := by decide +kernel
theorem dX10_ways_44 : decode cX10_ways 44 = .ok (.aload_n 0, 1) := by decide +kernel
theorem dX10_ways_45 : decode cX10_ways 45 = .ok (.getfield 38, 3) := by decide +kernel
theorem dX10_ways_48 : decode cX10_ways 48 = .ok (.aload_n 2, 1) := by decide +kernel
theorem dX10_ways_49 : decode cX10_ways 49 = .ok (.getfield 224, 3) := by decide +kernel
theorem dX10_ways_52 : decode cX10_ways 52 = .ok (.aload_n 0, 1) := by decide +kernel
theorem dX10_ways_53 : decode cX10_ways 53 = .ok (.getfield 83, 3) := by decide +kernel
theorem dX10_ways_56 : decode cX10_ways 56 = .ok (.invokevirtual 263, 3) := by decide +kernel
theorem dX10_ways_59 : decode cX10_ways 59 = .ok (.aload_n 0, 1) := by decide +kernel
theorem dX10_ways_60 : decode cX10_ways 60 = .ok (.getfield 83, 3) := by decide +kernel
theorem dX10_ways_63 : decode cX10_ways 63 = .ok (.getfield 267, 3) := by decide +kernel
theorem dX10_ways_66 : decode cX10_ways 66 = .ok (.ireturn, 1) := by decide +kernel
theorem dX10_way_0 : decode cX10_way 0 = .ok (.aload_n 0, 1) := by decide +kernel
theorem dX10_way_1 : decode cX10_way 1 = .ok (.getfield 83, 3) := by decide +kernel
theorem dX10_way_4 : decode cX10_way 4 = .ok (.iload_n 1, 1) := by decide +kernel
theorem dX10_way_5 : decode cX10_way 5 = .ok (.iload_n 2, 1) := by decide +kernel
theorem dX10_way_6 : decode cX10_way 6 = .ok (.invokevirtual 268, 3) := by decide +kernel
theorem dX10_way_9 : decode cX10_way 9 = .ok (.ireturn, 1) := by decide +kernel
theorem dX10_likes_0 : decode cX10_likes 0 = .ok (.aload_n 0, 1) := by decide +kernel
theorem dX10_likes_1 : decode cX10_likes 1 = .ok (.iload_n 1, 1) := by decide +kernel
theorem dX10_likes_2 : decode cX10_likes 2 = .ok (.invokevirtual 192, 3) := by decide +kernel
theorem dX10_likes_5 : decode cX10_likes 5 = .ok (.astore_n 2, 1) := by decide +kernel
theorem dX10_likes_6 : decode cX10_likes 6 = .ok (.aload_n 2, 1) := by decide +kernel
theorem dX10_likes_7 : decode cX10_likes 7 = .ok (.ifnonnull 6, 3) := by decide +kernel
theorem dX10_likes_10 : decode cX10_likes 10 = .ok (.bipush (-2), 2) := by decide +kernel
theorem dX10_likes_12 : decode cX10_likes 12 = .ok (.ireturn, 1) := by decide +kernel
theorem dX10_likes_13 : decode cX10_likes 13 = .ok (.aload_n 0, 1) := by decide +kernel
theorem dX10_likes_14 : decode cX10_likes 14 = .ok (.getfield 90, 3) := by decide +kernel
theorem dX10_likes_17 : decode cX10_likes 17 = .ok (.iconst 0, 1) := by decide +kernel
theorem dX10_likes_18 : decode cX10_likes 18 = .ok (.putfield 269, 3) := by decide +kernel
theorem dX10_likes_21 : decode cX10_likes 21 = .ok (.iconst 0, 1) := by decide +kernel
theorem dX10_likes_22 : decode cX10_likes 22 = .ok (.istore_n 3, 1) := by decide +kernel
theorem dX10_likes_23 : decode cX10_likes 23 = .ok (.iload_n 3, 1) := by decide +kernel
theorem dX10_likes_24 : decode cX10_likes 24 = .ok (.aload_n 0, 1) := by decide +kernel
theorem dX10_likes_25 : decode cX10_likes 25 = .ok (.getfield 61, 3) := by decide +kernel
theorem dX10_likes_28 : decode cX10_likes 28 = .ok (.if_icmp .ge 41, 3) := by decide +kernel
theorem dX10_likes_31 : decode cX10_likes 31 = .ok (.aload_n 0, 1) := by decide +kernel
theorem dX10_likes_32 : decode cX10_likes 32 = .ok (.iload_n 3, 1) := by decide +kernel
theorem dX10_likes_33 : decode cX10_likes 33 = .ok (.invokevirtual 217, 3) := by decide +kernel
theorem dX10_likes_36 : decode cX10_likes 36 = .ok (.astore 4, 2) := by decide +kernel
theorem dX10_likes_38 : decode cX10_likes 38 = .ok (.aload 4, 2) := by decide +kernel
theorem dX10_likes_40 : decode cX10_likes 40 = .ok (.ifnull 23, 3) := by decide +kernel
theorem dX10_likes_43 : decode cX10_likes 43 = .ok (.aload 4, 2) := by decide +kernel
theorem dX10_likes_45 : decode cX10_likes 45 = .ok (.getfield 221, 3) := by decide +kernel
theorem dX10_likes_48 : decode cX10_likes 48 = .ok (.iload_n 1, 1) := by decide +kernel
theorem dX10_likes_49 : decode cX10_likes 49 = .ok (.if_icmp .ne 14, 3) := by decide +kernel
theorem dX10_likes_52 : decode cX10_likes 52 = .ok (.aload_n 0, 1) := by decide +kernel
theorem dX10_likes_53 : decode cX10_likes 53 = .ok (.iload_n 3, 1) := by decide +kernel
theorem dX10_likes_54 : decode cX10_likes 54 = .ok (.aload 4, 2) := by decide +kernel
theorem dX10_likes_56 : decode cX10_likes 56 = .ok (.aload_n 2, 1) := by decide +kernel
theorem dX10_likes_57 : decode cX10_likes 57 = .ok (.getfield 196, 3) := by decide +kernel
theorem dX10_likes_60 : decode cX10_likes 60 = .ok (.invokevirtual 272, 3) := by decide +kernel
theorem dX10_likes_63 : decode cX10_likes 63 = .ok (.iinc 3 1, 3) := by decide +kernel
theorem dX10_likes_66 : decode cX10_likes 66 = .ok (.goto (-43), 3) := by decide +kernel
theorem dX10_likes_69 : decode cX10_likes 69 = .ok (.aload_n 0, 1) := by decide +kernel
theorem dX10_likes_70 : decode cX10_likes 70 = .ok (.getfield 90, 3) := by decide +kernel
theorem dX10_likes_73 : decode cX10_likes 73 = .ok (.getfield 269, 3) := by decide +kernel
theorem dX10_likes_76 : decode cX10_likes 76 = .ok (.ireturn, 1) := by decide +kernel
theorem dX10_addPairsOf_0 : decode cX10_addPairsOf 0 = .ok (.iload_n 1, 1) := by decide +kernel
theorem dX10_addPairsOf_1 : decode cX10_addPairsOf 1 = .ok (.iconst 1, 1) := by decide +kernel
theorem dX10_addPairsOf_2 : decode cX10_addPairsOf 2 = .ok (.iadd, 1) := by decide +kernel
theorem dX10_addPairsOf_3 : decode cX10_addPairsOf 3 = .ok (.istore 4, 2) := by decide +kernel
theorem dX10_addPairsOf_5 : decode cX10_addPairsOf 5 = .ok (.iload 4, 2) := by decide +kernel
theorem dX10_addPairsOf_7 : decode cX10_addPairsOf 7 = .ok (.aload_n 0, 1) := by decide +kernel
theorem dX10_addPairsOf_8 : decode cX10_addPairsOf 8 = .ok (.getfield 61, 3) := by decide +kernel
theorem dX10_addPairsOf_11 : decode cX10_addPairsOf 11 = .ok (.if_icmp .ge 80, 3) := by decide +kernel
theorem dX10_addPairsOf_14 : decode cX10_addPairsOf 14 = .ok (.aload_n 0, 1) := by decide +kernel
theorem dX10_addPairsOf_15 : decode cX10_addPairsOf 15 = .ok (.iload 4, 2) := by decide +kernel
theorem dX10_addPairsOf_17 : decode cX10_addPairsOf 17 = .ok (.invokevirtual 217, 3) := by decide +kernel
theorem dX10_addPairsOf_20 : decode cX10_addPairsOf 20 = .ok (.astore 5, 2) := by decide +kernel
theorem dX10_addPairsOf_22 : decode cX10_addPairsOf 22 = .ok (.aload 5, 2) := by decide +kernel
theorem dX10_addPairsOf_24 : decode cX10_addPairsOf 24 = .ok (.ifnull 61, 3) := by decide +kernel
theorem dX10_addPairsOf_27 : decode cX10_addPairsOf 27 = .ok (.aload 5, 2) := by decide +kernel
theorem dX10_addPairsOf_29 : decode cX10_addPairsOf 29 = .ok (.getfield 221, 3) := by decide +kernel
theorem dX10_addPairsOf_32 : decode cX10_addPairsOf 32 = .ok (.aload_n 2, 1) := by decide +kernel
theorem dX10_addPairsOf_33 : decode cX10_addPairsOf 33 = .ok (.getfield 221, 3) := by decide +kernel
theorem dX10_addPairsOf_36 : decode cX10_addPairsOf 36 = .ok (.if_icmp .ne 49, 3) := by decide +kernel
theorem dX10_addPairsOf_39 : decode cX10_addPairsOf 39 = .ok (.aload 5, 2) := by decide +kernel
theorem dX10_addPairsOf_41 : decode cX10_addPairsOf 41 = .ok (.getfield 230, 3) := by decide +kernel
theorem dX10_addPairsOf_44 : decode cX10_addPairsOf 44 = .ok (.aload_n 2, 1) := by decide +kernel
theorem dX10_addPairsOf_45 : decode cX10_addPairsOf 45 = .ok (.getfield 230, 3) := by decide +kernel
theorem dX10_addPairsOf_48 : decode cX10_addPairsOf 48 = .ok (.if_icmp .eq 37, 3) := by decide +kernel
theorem dX10_addPairsOf_51 : decode cX10_addPairsOf 51 = .ok (.aload_n 0, 1) := by decide +kernel
theorem dX10_addPairsOf_52 : decode cX10_addPairsOf 52 = .ok (.aload_n 2, 1) := by decide +kernel
theorem dX10_addPairsOf_53 : decode cX10_addPairsOf 53 = .ok (.getfield 224, 3) := by decide +kernel
theorem dX10_addPairsOf_56 : decode cX10_addPairsOf 56 = .ok (.aload 5, 2) := by decide +kernel
theorem dX10_addPairsOf_58 : decode cX10_addPairsOf 58 = .ok (.getfield 224, 3) := by decide +kernel
theorem dX10_addPairsOf_61 : decode cX10_addPairsOf 61 = .ok (.iload_n 3, 1) := by decide +kernel
theorem dX10_addPairsOf_62 : decode cX10_addPairsOf 62 = .ok (.invokevirtual 238, 3) := by decide +kernel
theorem dX10_addPairsOf_65 : decode cX10_addPairsOf 65 = .ok (.istore 6, 2) := by decide +kernel
theorem dX10_addPairsOf_67 : decode cX10_addPairsOf 67 = .ok (.iload 6, 2) := by decide +kernel
theorem dX10_addPairsOf_69 : decode cX10_addPairsOf 69 = .ok (.iconst (-1), 1) := by decide +kernel
theorem dX10_addPairsOf_70 : decode cX10_addPairsOf 70 = .ok (.if_icmp .eq 15, 3) := by decide +kernel
theorem dX10_addPairsOf_73 : decode cX10_addPairsOf 73 = .ok (.aload_n 0, 1) := by decide +kernel
theorem dX10_addPairsOf_74 : decode cX10_addPairsOf 74 = .ok (.getfield 90, 3) := by decide +kernel
theorem dX10_addPairsOf_77 : decode cX10_addPairsOf 77 = .ok (.iload_n 1, 1) := by decide +kernel
theorem dX10_addPairsOf_78 : decode cX10_addPairsOf 78 = .ok (.iload 4, 2) := by decide +kernel
theorem dX10_addPairsOf_80 : decode cX10_addPairsOf 80 = .ok (.iload 6, 2) := by decide +kernel
theorem dX10_addPairsOf_82 : decode cX10_addPairsOf 82 = .ok (.invokevirtual 276, 3) := by decide +kernel
theorem dX10_addPairsOf_85 : decode cX10_addPairsOf 85 = .ok (.iinc 4 1, 3) := by decide +kernel
theorem dX10_addPairsOf_88 : decode cX10_addPairsOf 88 = .ok (.goto (-83), 3) := by decide +kernel
theorem dX10_addPairsOf_91 : decode cX10_addPairsOf 91 = .ok (.return_, 1) := by decide +kernel
theorem dX10_like_0 : decode cX10_like 0 = .ok (.aload_n 0, 1) := by decide +kernel
theorem dX10_like_1 : decode cX10_like 1 = .ok (.getfield 90, 3) := by decide +kernel
theorem dX10_like_4 : decode cX10_like 4 = .ok (.iload_n 1, 1) := by decide +kernel
theorem dX10_like_5 : decode cX10_like 5 = .ok (.iload_n 2, 1) := by decide +kernel
theorem dX10_like_6 : decode cX10_like 6 = .ok (.invokevirtual 279, 3) := by decide +kernel
theorem dX10_like_9 : decode cX10_like 9 = .ok (.ireturn, 1) := by decide +kernel
theorem dX10_count_0 : decode cX10_count 0 = .ok (.iload_n 1, 1) := by decide +kernel
theorem dX10_count_1 : decode cX10_count 1 = .ok (.tableswitch 78 0 5 #[39, 47, 55, 60, 65, 70], 39) := by decide +kernel
theorem dX10_count_40 : decode cX10_count 40 = .ok (.aload_n 0, 1) := by decide +kernel
theorem dX10_count_41 : decode cX10_count 41 = .ok (.getfield 34, 3) := by decide +kernel
theorem dX10_count_44 : decode cX10_count 44 = .ok (.getfield 280, 3) := by decide +kernel
theorem dX10_count_47 : decode cX10_count 47 = .ok (.ireturn, 1) := by decide +kernel
theorem dX10_count_48 : decode cX10_count 48 = .ok (.aload_n 0, 1) := by decide +kernel
theorem dX10_count_49 : decode cX10_count 49 = .ok (.getfield 27, 3) := by decide +kernel
theorem dX10_count_52 : decode cX10_count 52 = .ok (.getfield 283, 3) := by decide +kernel
theorem dX10_count_55 : decode cX10_count 55 = .ok (.ireturn, 1) := by decide +kernel
theorem dX10_count_56 : decode cX10_count 56 = .ok (.aload_n 0, 1) := by decide +kernel
theorem dX10_count_57 : decode cX10_count 57 = .ok (.getfield 61, 3) := by decide +kernel
theorem dX10_count_60 : decode cX10_count 60 = .ok (.ireturn, 1) := by decide +kernel
theorem dX10_count_61 : decode cX10_count 61 = .ok (.aload_n 0, 1) := by decide +kernel
theorem dX10_count_62 : decode cX10_count 62 = .ok (.invokevirtual 284, 3) := by decide +kernel
theorem dX10_count_65 : decode cX10_count 65 = .ok (.ireturn, 1) := by decide +kernel
theorem dX10_count_66 : decode cX10_count 66 = .ok (.aload_n 0, 1) := by decide +kernel
theorem dX10_count_67 : decode cX10_count 67 = .ok (.getfield 13, 3) := by decide +kernel
theorem dX10_count_70 : decode cX10_count 70 = .ok (.ireturn, 1) := by decide +kernel
theorem dX10_count_71 : decode cX10_count 71 = .ok (.aload_n 0, 1) := by decide +kernel
theorem dX10_count_72 : decode cX10_count 72 = .ok (.getfield 34, 3) := by decide +kernel
theorem dX10_count_75 : decode cX10_count 75 = .ok (.invokevirtual 288, 3) := by decide +kernel
theorem dX10_count_78 : decode cX10_count 78 = .ok (.ireturn, 1) := by decide +kernel
theorem dX10_count_79 : decode cX10_count 79 = .ok (.aload_n 0, 1) := by decide +kernel
theorem dX10_count_80 : decode cX10_count 80 = .ok (.iload_n 1, 1) := by decide +kernel
theorem dX10_count_81 : decode cX10_count 81 = .ok (.invokevirtual 291, 3) := by decide +kernel
theorem dX10_count_84 : decode cX10_count 84 = .ok (.ireturn, 1) := by decide +kernel
theorem dX10_countStanding_0 : decode cX10_countStanding 0 = .ok (.iconst 0, 1) := by decide +kernel
theorem dX10_countStanding_1 : decode cX10_countStanding 1 = .ok (.istore_n 1, 1) := by decide +kernel
theorem dX10_countStanding_2 : decode cX10_countStanding 2 = .ok (.iconst 0, 1) := by decide +kernel
theorem dX10_countStanding_3 : decode cX10_countStanding 3 = .ok (.istore_n 2, 1) := by decide +kernel
theorem dX10_countStanding_4 : decode cX10_countStanding 4 = .ok (.iload_n 2, 1) := by decide +kernel
theorem dX10_countStanding_5 : decode cX10_countStanding 5 = .ok (.aload_n 0, 1) := by decide +kernel
theorem dX10_countStanding_6 : decode cX10_countStanding 6 = .ok (.getfield 61, 3) := by decide +kernel
theorem dX10_countStanding_9 : decode cX10_countStanding 9 = .ok (.if_icmp .ge 25, 3) := by decide +kernel
theorem dX10_countStanding_12 : decode cX10_countStanding 12 = .ok (.iload_n 1, 1) := by decide +kernel
theorem dX10_countStanding_13 : decode cX10_countStanding 13 = .ok (.aload_n 0, 1) := by decide +kernel
theorem dX10_countStanding_14 : decode cX10_countStanding 14 = .ok (.iload_n 2, 1) := by decide +kernel
theorem dX10_countStanding_15 : decode cX10_countStanding 15 = .ok (.invokevirtual 217, 3) := by decide +kernel
theorem dX10_countStanding_18 : decode cX10_countStanding 18 = .ok (.ifnull 7, 3) := by decide +kernel
theorem dX10_countStanding_21 : decode cX10_countStanding 21 = .ok (.iconst 1, 1) := by decide +kernel
theorem dX10_countStanding_22 : decode cX10_countStanding 22 = .ok (.goto 4, 3) := by decide +kernel
theorem dX10_countStanding_25 : decode cX10_countStanding 25 = .ok (.iconst 0, 1) := by decide +kernel
theorem dX10_countStanding_26 : decode cX10_countStanding 26 = .ok (.iadd, 1) := by decide +kernel
theorem dX10_countStanding_27 : decode cX10_countStanding 27 = .ok (.istore_n 1, 1) := by decide +kernel
theorem dX10_countStanding_28 : decode cX10_countStanding 28 = .ok (.iinc 2 1, 3) := by decide +kernel
theorem dX10_countStanding_31 : decode cX10_countStanding 31 = .ok (.goto (-27), 3) := by decide +kernel
theorem dX10_countStanding_34 : decode cX10_countStanding 34 = .ok (.iload_n 1, 1) := by decide +kernel
theorem dX10_countStanding_35 : decode cX10_countStanding 35 = .ok (.ireturn, 1) := by decide +kernel
theorem dX10_countOfRegister_0 : decode cX10_countOfRegister 0 = .ok (.iload_n 1, 1) := by decide +kernel
theorem dX10_countOfRegister_1 : decode cX10_countOfRegister 1 = .ok (.bipush 10, 2) := by decide +kernel
theorem dX10_countOfRegister_3 : decode cX10_countOfRegister 3 = .ok (.if_icmp .ge 5, 3) := by decide +kernel
theorem dX10_countOfRegister_6 : decode cX10_countOfRegister 6 = .ok (.iconst (-1), 1) := by decide +kernel
theorem dX10_countOfRegister_7 : decode cX10_countOfRegister 7 = .ok (.ireturn, 1) := by decide +kernel
theorem dX10_countOfRegister_8 : decode cX10_countOfRegister 8 = .ok (.aload_n 0, 1) := by decide +kernel
theorem dX10_countOfRegister_9 : decode cX10_countOfRegister 9 = .ok (.iload_n 1, 1) := by decide +kernel
theorem dX10_countOfRegister_10 : decode cX10_countOfRegister 10 = .ok (.bipush 10, 2) := by decide +kernel
theorem dX10_countOfRegister_12 : decode cX10_countOfRegister 12 = .ok (.irem, 1) := by decide +kernel
theorem dX10_countOfRegister_13 : decode cX10_countOfRegister 13 = .ok (.invokevirtual 192, 3) := by decide +kernel
theorem dX10_countOfRegister_16 : decode cX10_countOfRegister 16 = .ok (.astore_n 2, 1) := by decide +kernel
theorem dX10_countOfRegister_17 : decode cX10_countOfRegister 17 = .ok (.aload_n 2, 1) := by decide +kernel
theorem dX10_countOfRegister_18 : decode cX10_countOfRegister 18 = .ok (.ifnonnull 5, 3) := by decide +kernel
theorem dX10_countOfRegister_21 : decode cX10_countOfRegister 21 = .ok (.iconst (-1), 1) := by decide +kernel
theorem dX10_countOfRegister_22 : decode cX10_countOfRegister 22 = .ok (.ireturn, 1) := by decide +kernel
theorem dX10_countOfRegister_23 : decode cX10_countOfRegister 23 = .ok (.iload_n 1, 1) := by decide +kernel
theorem dX10_countOfRegister_24 : decode cX10_countOfRegister 24 = .ok (.bipush 10, 2) := by decide +kernel
theorem dX10_countOfRegister_26 : decode cX10_countOfRegister 26 = .ok (.idiv, 1) := by decide +kernel
theorem dX10_countOfRegister_27 : decode cX10_countOfRegister 27 = .ok (.tableswitch 43 1 3 #[25, 30, 35], 25) := by decide +kernel
theorem dX10_countOfRegister_52 : decode cX10_countOfRegister 52 = .ok (.aload_n 2, 1) := by decide +kernel
theorem dX10_countOfRegister_53 : decode cX10_countOfRegister 53 = .ok (.getfield 196, 3) := by decide +kernel
theorem dX10_countOfRegister_56 : decode cX10_countOfRegister 56 = .ok (.ireturn, 1) := by decide +kernel
theorem dX10_countOfRegister_57 : decode cX10_countOfRegister 57 = .ok (.aload_n 2, 1) := by decide +kernel
theorem dX10_countOfRegister_58 : decode cX10_countOfRegister 58 = .ok (.getfield 199, 3) := by decide +kernel
theorem dX10_countOfRegister_61 : decode cX10_countOfRegister 61 = .ok (.ireturn, 1) := by decide +kernel
theorem dX10_countOfRegister_62 : decode cX10_countOfRegister 62 = .ok (.aload_n 2, 1) := by decide +kernel
theorem dX10_countOfRegister_63 : decode cX10_countOfRegister 63 = .ok (.getfield 202, 3) := by decide +kernel
theorem dX10_countOfRegister_66 : decode cX10_countOfRegister 66 = .ok (.invokestatic 169, 3) := by decide +kernel
theorem dX10_countOfRegister_69 : decode cX10_countOfRegister 69 = .ok (.ireturn, 1) := by decide +kernel
theorem dX10_countOfRegister_70 : decode cX10_countOfRegister 70 = .ok (.iconst (-1), 1) := by decide +kernel
theorem dX10_countOfRegister_71 : decode cX10_countOfRegister 71 = .ok (.ireturn, 1) := by decide +kernel
theorem dX10_registerAt_0 : decode cX10_registerAt 0 = .ok (.iload_n 1, 1) := by decide +kernel
theorem dX10_registerAt_1 : decode cX10_registerAt 1 = .ok (.ifCond .lt 17, 3) := by decide +kernel
theorem dX10_registerAt_4 : decode cX10_registerAt 4 = .ok (.iload_n 1, 1) := by decide +kernel
theorem dX10_registerAt_5 : decode cX10_registerAt 5 = .ok (.iconst 4, 1) := by decide +kernel
theorem dX10_registerAt_6 : decode cX10_registerAt 6 = .ok (.if_icmp .ge 12, 3) := by decide +kernel
theorem dX10_registerAt_9 : decode cX10_registerAt 9 = .ok (.aload_n 0, 1) := by decide +kernel
theorem dX10_registerAt_10 : decode cX10_registerAt 10 = .ok (.getfield 50, 3) := by decide +kernel
theorem dX10_registerAt_13 : decode cX10_registerAt 13 = .ok (.iload_n 1, 1) := by decide +kernel
theorem dX10_registerAt_14 : decode cX10_registerAt 14 = .ok (.aaload, 1) := by decide +kernel
theorem dX10_registerAt_15 : decode cX10_registerAt 15 = .ok (.goto 4, 3) := by decide +kernel
theorem dX10_registerAt_18 : decode cX10_registerAt 18 = .ok (.aconst_null, 1) := by decide +kernel
theorem dX10_registerAt_19 : decode cX10_registerAt 19 = .ok (.areturn, 1) := by decide +kernel
theorem dX10_entryAt_0 : decode cX10_entryAt 0 = .ok (.iload_n 1, 1) := by decide +kernel
theorem dX10_entryAt_1 : decode cX10_entryAt 1 = .ok (.ifCond .lt 27, 3) := by decide +kernel
theorem dX10_entryAt_4 : decode cX10_entryAt 4 = .ok (.iload_n 1, 1) := by decide +kernel
theorem dX10_entryAt_5 : decode cX10_entryAt 5 = .ok (.aload_n 0, 1) := by decide +kernel
theorem dX10_entryAt_6 : decode cX10_entryAt 6 = .ok (.getfield 61, 3) := by decide +kernel
theorem dX10_entryAt_9 : decode cX10_entryAt 9 = .ok (.if_icmp .ge 19, 3) := by decide +kernel
theorem dX10_entryAt_12 : decode cX10_entryAt 12 = .ok (.iload_n 1, 1) := by decide +kernel
theorem dX10_entryAt_13 : decode cX10_entryAt 13 = .ok (.sipush 200, 3) := by decide +kernel
theorem dX10_entryAt_16 : decode cX10_entryAt 16 = .ok (.if_icmp .ge 12, 3) := by decide +kernel
theorem dX10_entryAt_19 : decode cX10_entryAt 19 = .ok (.aload_n 0, 1) := by decide +kernel
theorem dX10_entryAt_20 : decode cX10_entryAt 20 = .ok (.getfield 57, 3) := by decide +kernel
theorem dX10_entryAt_23 : decode cX10_entryAt 23 = .ok (.iload_n 1, 1) := by decide +kernel
theorem dX10_entryAt_24 : decode cX10_entryAt 24 = .ok (.aaload, 1) := by decide +kernel
theorem dX10_entryAt_25 : decode cX10_entryAt 25 = .ok (.goto 4, 3) := by decide +kernel
theorem dX10_entryAt_28 : decode cX10_entryAt 28 = .ok (.aconst_null, 1) := by decide +kernel
theorem dX10_entryAt_29 : decode cX10_entryAt 29 = .ok (.areturn, 1) := by decide +kernel
theorem dX10_standingAt_0 : decode cX10_standingAt 0 = .ok (.aload_n 0, 1) := by decide +kernel
theorem dX10_standingAt_1 : decode cX10_standingAt 1 = .ok (.iload_n 1, 1) := by decide +kernel
theorem dX10_standingAt_2 : decode cX10_standingAt 2 = .ok (.invokevirtual 248, 3) := by decide +kernel
theorem dX10_standingAt_5 : decode cX10_standingAt 5 = .ok (.astore_n 2, 1) := by decide +kernel
theorem dX10_standingAt_6 : decode cX10_standingAt 6 = .ok (.aload_n 2, 1) := by decide +kernel
theorem dX10_standingAt_7 : decode cX10_standingAt 7 = .ok (.ifnull 14, 3) := by decide +kernel
theorem dX10_standingAt_10 : decode cX10_standingAt 10 = .ok (.aload_n 2, 1) := by decide +kernel
theorem dX10_standingAt_11 : decode cX10_standingAt 11 = .ok (.getfield 245, 3) := by decide +kernel
theorem dX10_standingAt_14 : decode cX10_standingAt 14 = .ok (.ifCond .eq 7, 3) := by decide +kernel
theorem dX10_standingAt_17 : decode cX10_standingAt 17 = .ok (.aload_n 2, 1) := by decide +kernel
theorem dX10_standingAt_18 : decode cX10_standingAt 18 = .ok (.goto 4, 3) := by decide +kernel
theorem dX10_standingAt_21 : decode cX10_standingAt 21 = .ok (.aconst_null, 1) := by decide +kernel
theorem dX10_standingAt_22 : decode cX10_standingAt 22 = .ok (.areturn, 1) := by decide +kernel
theorem dX10_costBetween_0 : decode cX10_costBetween 0 = .ok (.aload_n 0, 1) := by decide +kernel
theorem dX10_costBetween_1 : decode cX10_costBetween 1 = .ok (.getfield 34, 3) := by decide +kernel
theorem dX10_costBetween_4 : decode cX10_costBetween 4 = .ok (.invokevirtual 119, 3) := by decide +kernel
theorem dX10_costBetween_7 : decode cX10_costBetween 7 = .ok (.aload_n 1, 1) := by decide +kernel
theorem dX10_costBetween_8 : decode cX10_costBetween 8 = .ok (.aload_n 0, 1) := by decide +kernel
theorem dX10_costBetween_9 : decode cX10_costBetween 9 = .ok (.getfield 20, 3) := by decide +kernel
theorem dX10_costBetween_12 : decode cX10_costBetween 12 = .ok (.invokevirtual 144, 3) := by decide +kernel
theorem dX10_costBetween_15 : decode cX10_costBetween 15 = .ok (.aload_n 2, 1) := by decide +kernel
theorem dX10_costBetween_16 : decode cX10_costBetween 16 = .ok (.aload_n 0, 1) := by decide +kernel
theorem dX10_costBetween_17 : decode cX10_costBetween 17 = .ok (.getfield 20, 3) := by decide +kernel
theorem dX10_costBetween_20 : decode cX10_costBetween 20 = .ok (.invokevirtual 144, 3) := by decide +kernel
theorem dX10_costBetween_23 : decode cX10_costBetween 23 = .ok (.aload_n 1, 1) := by decide +kernel
theorem dX10_costBetween_24 : decode cX10_costBetween 24 = .ok (.aload_n 0, 1) := by decide +kernel
theorem dX10_costBetween_25 : decode cX10_costBetween 25 = .ok (.getfield 34, 3) := by decide +kernel
theorem dX10_costBetween_28 : decode cX10_costBetween 28 = .ok (.invokevirtual 294, 3) := by decide +kernel
theorem dX10_costBetween_31 : decode cX10_costBetween 31 = .ok (.aload_n 2, 1) := by decide +kernel
theorem dX10_costBetween_32 : decode cX10_costBetween 32 = .ok (.aload_n 0, 1) := by decide +kernel
theorem dX10_costBetween_33 : decode cX10_costBetween 33 = .ok (.getfield 34, 3) := by decide +kernel
theorem dX10_costBetween_36 : decode cX10_costBetween 36 = .ok (.invokevirtual 294, 3) := by decide +kernel
theorem dX10_costBetween_39 : decode cX10_costBetween 39 = .ok (.aload_n 0, 1) := by decide +kernel
theorem dX10_costBetween_40 : decode cX10_costBetween 40 = .ok (.getfield 69, 3) := by decide +kernel
theorem dX10_costBetween_43 : decode cX10_costBetween 43 = .ok (.aload_n 1, 1) := by decide +kernel
theorem dX10_costBetween_44 : decode cX10_costBetween 44 = .ok (.aload_n 2, 1) := by decide +kernel
theorem dX10_costBetween_45 : decode cX10_costBetween 45 = .ok (.iload_n 3, 1) := by decide +kernel
theorem dX10_costBetween_46 : decode cX10_costBetween 46 = .ok (.invokevirtual 297, 3) := by decide +kernel
theorem dX10_costBetween_49 : decode cX10_costBetween 49 = .ok (.ireturn, 1) := by decide +kernel
end
section
theorem dX11_init_0 : decode cX11_init 0 = .ok (.aload_n 0, 1) := by decide +kernel
theorem dX11_init_1 : decode cX11_init 1 = .ok (.invokespecial 1, 3) := by decide +kernel
theorem dX11_init_4 : decode cX11_init 4 = .ok (.aload_n 0, 1) := by decide +kernel
theorem dX11_init_5 : decode cX11_init 5 = .ok (.bipush 127, 2) := by decide +kernel
theorem dX11_init_7 : decode cX11_init 7 = .ok (.newarray .int, 2) := by decide +kernel
theorem dX11_init_9 : decode cX11_init 9 = .ok (.putfield 7, 3) := by decide +kernel
theorem dX11_init_12 : decode cX11_init 12 = .ok (.aload_n 0, 1) := by decide +kernel
theorem dX11_init_13 : decode cX11_init 13 = .ok (.bipush 127, 2) := by decide +kernel
theorem dX11_init_15 : decode cX11_init 15 = .ok (.newarray .int, 2) := by decide +kernel
theorem dX11_init_17 : decode cX11_init 17 = .ok (.putfield 13, 3) := by decide +kernel
theorem dX11_init_20 : decode cX11_init 20 = .ok (.aload_n 0, 1) := by decide +kernel
theorem dX11_init_21 : decode cX11_init 21 = .ok (.sipush 200, 3) := by decide +kernel
theorem dX11_init_24 : decode cX11_init 24 = .ok (.newarray .byte, 2) := by decide +kernel
theorem dX11_init_26 : decode cX11_init 26 = .ok (.putfield 16, 3) := by decide +kernel
theorem dX11_init_29 : decode cX11_init 29 = .ok (.aload_n 0, 1) := by decide +kernel
theorem dX11_init_30 : decode cX11_init 30 = .ok (.bipush 60, 2) := by decide +kernel
theorem dX11_init_32 : decode cX11_init 32 = .ok (.newarray .int, 2) := by decide +kernel
theorem dX11_init_34 : decode cX11_init 34 = .ok (.putfield 20, 3) := by decide +kernel
theorem dX11_init_37 : decode cX11_init 37 = .ok (.aload_n 0, 1) := by decide +kernel
theorem dX11_init_38 : decode cX11_init 38 = .ok (.bipush 60, 2) := by decide +kernel
theorem dX11_init_40 : decode cX11_init 40 = .ok (.newarray .int, 2) := by decide +kernel
theorem dX11_init_42 : decode cX11_init 42 = .ok (.putfield 23, 3) := by decide +kernel
theorem dX11_init_45 : decode cX11_init 45 = .ok (.aload_n 0, 1) := by decide +kernel
theorem dX11_init_46 : decode cX11_init 46 = .ok (.bipush 60, 2) := by decide +kernel
theorem dX11_init_48 : decode cX11_init 48 = .ok (.newarray .int, 2) := by decide +kernel
theorem dX11_init_50 : decode cX11_init 50 = .ok (.putfield 26, 3) := by decide +kernel
theorem dX11_init_53 : decode cX11_init 53 = .ok (.aload_n 0, 1) := by decide +kernel
theorem dX11_init_54 : decode cX11_init 54 = .ok (.bipush 94, 2) := by decide +kernel
theorem dX11_init_56 : decode cX11_init 56 = .ok (.newarray .int, 2) := by decide +kernel
theorem dX11_init_58 : decode cX11_init 58 = .ok (.putfield 29, 3) := by decide +kernel
theorem dX11_init_61 : decode cX11_init 61 = .ok (.aload_n 0, 1) := by decide +kernel
theorem dX11_init_62 : decode cX11_init 62 = .ok (.sipush 8836, 3) := by decide +kernel
theorem dX11_init_65 : decode cX11_init 65 = .ok (.newarray .int, 2) := by decide +kernel
theorem dX11_init_67 : decode cX11_init 67 = .ok (.putfield 32, 3) := by decide +kernel
theorem dX11_init_70 : decode cX11_init 70 = .ok (.aload_n 0, 1) := by decide +kernel
theorem dX11_init_71 : decode cX11_init 71 = .ok (.sipush 14400, 3) := by decide +kernel
theorem dX11_init_74 : decode cX11_init 74 = .ok (.newarray .int, 2) := by decide +kernel
theorem dX11_init_76 : decode cX11_init 76 = .ok (.putfield 35, 3) := by decide +kernel
theorem dX11_init_79 : decode cX11_init 79 = .ok (.aload_n 0, 1) := by decide +kernel
theorem dX11_init_80 : decode cX11_init 80 = .ok (.bipush 8, 2) := by decide +kernel
theorem dX11_init_82 : decode cX11_init 82 = .ok (.newarray .int, 2) := by decide +kernel
theorem dX11_init_84 : decode cX11_init 84 = .ok (.putfield 38, 3) := by decide +kernel
theorem dX11_init_87 : decode cX11_init 87 = .ok (.aload_n 0, 1) := by decide +kernel
theorem dX11_init_88 : decode cX11_init 88 = .ok (.sipush 8040, 3) := by decide +kernel
theorem dX11_init_91 : decode cX11_init 91 = .ok (.newarray .byte, 2) := by decide +kernel
theorem dX11_init_93 : decode cX11_init 93 = .ok (.putfield 41, 3) := by decide +kernel
theorem dX11_init_96 : decode cX11_init 96 = .ok (.aload_n 0, 1) := by decide +kernel
theorem dX11_init_97 : decode cX11_init 97 = .ok (.sipush 201, 3) := by decide +kernel
theorem dX11_init_100 : decode cX11_init 100 = .ok (.newarray .int, 2) := by decide +kernel
theorem dX11_init_102 : decode cX11_init 102 = .ok (.putfield 44, 3) := by decide +kernel
theorem dX11_init_105 : decode cX11_init 105 = .ok (.aload_n 0, 1) := by decide +kernel
theorem dX11_init_106 : decode cX11_init 106 = .ok (.iconst (-1), 1) := by decide +kernel
theorem dX11_init_107 : decode cX11_init 107 = .ok (.putfield 47, 3) := by decide +kernel
theorem dX11_init_110 : decode cX11_init 110 = .ok (.aload_n 0, 1) := by decide +kernel
theorem dX11_init_111 : decode cX11_init 111 = .ok (.bipush 40, 2) := by decide +kernel
theorem dX11_init_113 : decode cX11_init 113 = .ok (.newarray .int, 2) := by decide +kernel
theorem dX11_init_115 : decode cX11_init 115 = .ok (.putfield 51, 3) := by decide +kernel
theorem dX11_init_118 : decode cX11_init 118 = .ok (.aload_n 0, 1) := by decide +kernel
theorem dX11_init_119 : decode cX11_init 119 = .ok (.bipush 40, 2) := by decide +kernel
theorem dX11_init_121 : decode cX11_init 121 = .ok (.newarray .int, 2) := by decide +kernel
theorem dX11_init_123 : decode cX11_init 123 = .ok (.putfield 54, 3) := by decide +kernel
theorem dX11_init_126 : decode cX11_init 126 = .ok (.aload_n 0, 1) := by decide +kernel
theorem dX11_init_127 : decode cX11_init 127 = .ok (.sipush 1681, 3) := by decide +kernel
theorem dX11_init_130 : decode cX11_init 130 = .ok (.newarray .int, 2) := by decide +kernel
theorem dX11_init_132 : decode cX11_init 132 = .ok (.putfield 57, 3) := by decide +kernel
theorem dX11_init_135 : decode cX11_init 135 = .ok (.aload_n 0, 1) := by decide +kernel
theorem dX11_init_136 : decode cX11_init 136 = .ok (.iconst 4, 1) := by decide +kernel
theorem dX11_init_137 : decode cX11_init 137 = .ok (.newarray .int, 2) := by decide +kernel
theorem dX11_init_139 : decode cX11_init 139 = .ok (.putfield 60, 3) := by decide +kernel
theorem dX11_init_142 : decode cX11_init 142 = .ok (.aload_n 0, 1) := by decide +kernel
theorem dX11_init_143 : decode cX11_init 143 = .ok (.iconst 4, 1) := by decide +kernel
theorem dX11_init_144 : decode cX11_init 144 = .ok (.newarray .int, 2) := by decide +kernel
theorem dX11_init_146 : decode cX11_init 146 = .ok (.putfield 63, 3) := by decide +kernel
theorem dX11_init_149 : decode cX11_init 149 = .ok (.aload_n 0, 1) := by decide +kernel
theorem dX11_init_150 : decode cX11_init 150 = .ok (.iconst 4, 1) := by decide +kernel
theorem dX11_init_151 : decode cX11_init 151 = .ok (.newarray .boolean, 2) := by decide +kernel
theorem dX11_init_153 : decode cX11_init 153 = .ok (.putfield 66, 3) := by decide +kernel
theorem dX11_init_156 : decode cX11_init 156 = .ok (.aload_n 0, 1) := by decide +kernel
theorem dX11_init_157 : decode cX11_init 157 = .ok (.sipush 200, 3) := by decide +kernel
theorem dX11_init_160 : decode cX11_init 160 = .ok (.newarray .int, 2) := by decide +kernel
theorem dX11_init_162 : decode cX11_init 162 = .ok (.putfield 70, 3) := by decide +kernel
theorem dX11_init_165 : decode cX11_init 165 = .ok (.aload_n 0, 1) := by decide +kernel
theorem dX11_init_166 : decode cX11_init 166 = .ok (.sipush 200, 3) := by decide +kernel
theorem dX11_init_169 : decode cX11_init 169 = .ok (.newarray .int, 2) := by decide +kernel
theorem dX11_init_171 : decode cX11_init 171 = .ok (.putfield 73, 3) := by decide +kernel
theorem dX11_init_174 : decode cX11_init 174 = .ok (.aload_n 0, 1) := by decide +kernel
theorem dX11_init_175 : decode cX11_init 175 = .ok (.sipush 200, 3) := by decide +kernel
theorem dX11_init_178 : decode cX11_init 178 = .ok (.newarray .boolean, 2) := by decide +kernel
theorem dX11_init_180 : decode cX11_init 180 = .ok (.putfield 76, 3) := by decide +kernel
theorem dX11_init_183 : decode cX11_init 183 = .ok (.aload_n 0, 1) := by decide +kernel
theorem dX11_init_184 : decode cX11_init 184 = .ok (.sipush 200, 3) := by decide +kernel
theorem dX11_init_187 : decode cX11_init 187 = .ok (.newarray .int, 2) := by decide +kernel
theorem dX11_init_189 : decode cX11_init 189 = .ok (.putfield 79, 3) := by decide +kernel
theorem dX11_init_192 : decode cX11_init 192 = .ok (.aload_n 0, 1) := by decide +kernel
theorem dX11_init_193 : decode cX11_init 193 = .ok (.sipush 200, 3) := by decide +kernel
theorem dX11_init_196 : decode cX11_init 196 = .ok (.newarray .int, 2) := by decide +kernel
theorem dX11_init_198 : decode cX11_init 198 = .ok (.putfield 82, 3) := by decide +kernel
theorem dX11_init_201 : decode cX11_init 201 = .ok (.aload_n 0, 1) := by decide +kernel
theorem dX11_init_202 : decode cX11_init 202 = .ok (.bipush 40, 2) := by decide +kernel
theorem dX11_init_204 : decode cX11_init 204 = .ok (.newarray .int, 2) := by decide +kernel
theorem dX11_init_206 : decode cX11_init 206 = .ok (.putfield 85, 3) := by decide +kernel
theorem dX11_init_209 : decode cX11_init 209 = .ok (.aload_n 0, 1) := by decide +kernel
theorem dX11_init_210 : decode cX11_init 210 = .ok (.bipush 40, 2) := by decide +kernel
theorem dX11_init_212 : decode cX11_init 212 = .ok (.newarray .int, 2) := by decide +kernel
theorem dX11_init_214 : decode cX11_init 214 = .ok (.putfield 88, 3) := by decide +kernel
theorem dX11_init_217 : decode cX11_init 217 = .ok (.aload_n 0, 1) := by decide +kernel
theorem dX11_init_218 : decode cX11_init 218 = .ok (.bipush 40, 2) := by decide +kernel
theorem dX11_init_220 : decode cX11_init 220 = .ok (.newarray .int, 2) := by decide +kernel
theorem dX11_init_222 : decode cX11_init 222 = .ok (.putfield 91, 3) := by decide +kernel
theorem dX11_init_225 : decode cX11_init 225 = .ok (.aload_n 0, 1) := by decide +kernel
theorem dX11_init_226 : decode cX11_init 226 = .ok (.sipush 1000, 3) := by decide +kernel
theorem dX11_init_229 : decode cX11_init 229 = .ok (.newarray .int, 2) := by decide +kernel
theorem dX11_init_231 : decode cX11_init 231 = .ok (.putfield 94, 3) := by decide +kernel
theorem dX11_init_234 : decode cX11_init 234 = .ok (.aload_n 0, 1) := by decide +kernel
theorem dX11_init_235 : decode cX11_init 235 = .ok (.sipush 1000, 3) := by decide +kernel
theorem dX11_init_238 : decode cX11_init 238 = .ok (.newarray .int, 2) := by decide +kernel
theorem dX11_init_240 : decode cX11_init 240 = .ok (.putfield 97, 3) := by decide +kernel
theorem dX11_init_243 : decode cX11_init 243 = .ok (.aload_n 0, 1) := by decide +kernel
theorem dX11_init_244 : decode cX11_init 244 = .ok (.sipush 1000, 3) := by decide +kernel
theorem dX11_init_247 : decode cX11_init 247 = .ok (.newarray .int, 2) := by decide +kernel
theorem dX11_init_249 : decode cX11_init 249 = .ok (.putfield 100, 3) := by decide +kernel
theorem dX11_init_252 : decode cX11_init 252 = .ok (.bipush 33, 2) := by decide +kernel
theorem dX11_init_254 : decode cX11_init 254 = .ok (.istore_n 1, 1) := by decide +kernel
theorem dX11_init_255 : decode cX11_init 255 = .ok (.iload_n 1, 1) := by decide +kernel
theorem dX11_init_256 : decode cX11_init 256 = .ok (.bipush 126, 2) := by decide +kernel
theorem dX11_init_258 : decode cX11_init 258 = .ok (.if_icmp .gt 44, 3) := by decide +kernel
theorem dX11_init_261 : decode cX11_init 261 = .ok (.aload_n 0, 1) := by decide +kernel
theorem dX11_init_262 : decode cX11_init 262 = .ok (.getfield 7, 3) := by decide +kernel
theorem dX11_init_265 : decode cX11_init 265 = .ok (.iload_n 1, 1) := by decide +kernel
theorem dX11_init_266 : decode cX11_init 266 = .ok (.iload_n 1, 1) := by decide +kernel
theorem dX11_init_267 : decode cX11_init 267 = .ok (.bipush 97, 2) := by decide +kernel
theorem dX11_init_269 : decode cX11_init 269 = .ok (.if_icmp .lt 9, 3) := by decide +kernel
theorem dX11_init_272 : decode cX11_init 272 = .ok (.iload_n 1, 1) := by decide +kernel
theorem dX11_init_273 : decode cX11_init 273 = .ok (.bipush 122, 2) := by decide +kernel
theorem dX11_init_275 : decode cX11_init 275 = .ok (.if_icmp .le 15, 3) := by decide +kernel
theorem dX11_init_278 : decode cX11_init 278 = .ok (.iload_n 1, 1) := by decide +kernel
theorem dX11_init_279 : decode cX11_init 279 = .ok (.bipush 65, 2) := by decide +kernel
theorem dX11_init_281 : decode cX11_init 281 = .ok (.if_icmp .lt 13, 3) := by decide +kernel
theorem dX11_init_284 : decode cX11_init 284 = .ok (.iload_n 1, 1) := by decide +kernel
theorem dX11_init_285 : decode cX11_init 285 = .ok (.bipush 90, 2) := by decide +kernel
theorem dX11_init_287 : decode cX11_init 287 = .ok (.if_icmp .gt 7, 3) := by decide +kernel
theorem dX11_init_290 : decode cX11_init 290 = .ok (.iconst 1, 1) := by decide +kernel
theorem dX11_init_291 : decode cX11_init 291 = .ok (.goto 4, 3) := by decide +kernel
theorem dX11_init_294 : decode cX11_init 294 = .ok (.iconst 0, 1) := by decide +kernel
theorem dX11_init_295 : decode cX11_init 295 = .ok (.iastore, 1) := by decide +kernel
theorem dX11_init_296 : decode cX11_init 296 = .ok (.iinc 1 1, 3) := by decide +kernel
theorem dX11_init_299 : decode cX11_init 299 = .ok (.goto (-44), 3) := by decide +kernel
theorem dX11_init_302 : decode cX11_init 302 = .ok (.iconst 0, 1) := by decide +kernel
theorem dX11_init_303 : decode cX11_init 303 = .ok (.istore_n 1, 1) := by decide +kernel
theorem dX11_init_304 : decode cX11_init 304 = .ok (.iload_n 1, 1) := by decide +kernel
theorem dX11_init_305 : decode cX11_init 305 = .ok (.iconst 4, 1) := by decide +kernel
theorem dX11_init_306 : decode cX11_init 306 = .ok (.if_icmp .ge 24, 3) := by decide +kernel
theorem dX11_init_309 : decode cX11_init 309 = .ok (.aload_n 0, 1) := by decide +kernel
theorem dX11_init_310 : decode cX11_init 310 = .ok (.getfield 60, 3) := by decide +kernel
theorem dX11_init_313 : decode cX11_init 313 = .ok (.iload_n 1, 1) := by decide +kernel
theorem dX11_init_314 : decode cX11_init 314 = .ok (.iconst 4, 1) := by decide +kernel
theorem dX11_init_315 : decode cX11_init 315 = .ok (.iastore, 1) := by decide +kernel
theorem dX11_init_316 : decode cX11_init 316 = .ok (.aload_n 0, 1) := by decide +kernel
theorem dX11_init_317 : decode cX11_init 317 = .ok (.getfield 63, 3) := by decide +kernel
theorem dX11_init_320 : decode cX11_init 320 = .ok (.iload_n 1, 1) := by decide +kernel
theorem dX11_init_321 : decode cX11_init 321 = .ok (.bipush 8, 2) := by decide +kernel
theorem dX11_init_323 : decode cX11_init 323 = .ok (.iastore, 1) := by decide +kernel
theorem dX11_init_324 : decode cX11_init 324 = .ok (.iinc 1 1, 3) := by decide +kernel
theorem dX11_init_327 : decode cX11_init 327 = .ok (.goto (-23), 3) := by decide +kernel
theorem dX11_init_330 : decode cX11_init 330 = .ok (.aload_n 0, 1) := by decide +kernel
theorem dX11_init_331 : decode cX11_init 331 = .ok (.invokevirtual 103, 3) := by decide +kernel
theorem dX11_init_334 : decode cX11_init 334 = .ok (.return_, 1) := by decide +kernel
theorem dX11_in_0 : decode cX11_in 0 = .ok (.iload_n 0, 1) := by decide +kernel
theorem dX11_in_1 : decode cX11_in 1 = .ok (.iload_n 1, 1) := by decide +kernel
theorem dX11_in_2 : decode cX11_in 2 = .ok (.if_icmp .lt 12, 3) := by decide +kernel
theorem dX11_in_5 : decode cX11_in 5 = .ok (.iload_n 0, 1) := by decide +kernel
theorem dX11_in_6 : decode cX11_in 6 = .ok (.iload_n 2, 1) := by decide +kernel
theorem dX11_in_7 : decode cX11_in 7 = .ok (.if_icmp .gt 7, 3) := by decide +kernel
theorem dX11_in_10 : decode cX11_in 10 = .ok (.iconst 1, 1) := by decide +kernel
theorem dX11_in_11 : decode cX11_in 11 = .ok (.goto 4, 3) := by decide +kernel
theorem dX11_in_14 : decode cX11_in 14 = .ok (.iconst 0, 1) := by decide +kernel
theorem dX11_in_15 : decode cX11_in 15 = .ok (.ireturn, 1) := by decide +kernel
theorem dX11_isSign_0 : decode cX11_isSign 0 = .ok (.iload_n 0, 1) := by decide +kernel
theorem dX11_isSign_1 : decode cX11_isSign 1 = .ok (.bipush 33, 2) := by decide +kernel
theorem dX11_isSign_3 : decode cX11_isSign 3 = .ok (.bipush 126, 2) := by decide +kernel
theorem dX11_isSign_5 : decode cX11_isSign 5 = .ok (.invokestatic 106, 3) := by decide +kernel
theorem dX11_isSign_8 : decode cX11_isSign 8 = .ok (.ireturn, 1) := by decide +kernel
theorem dX11_feed_0 : decode cX11_feed 0 = .ok (.aload_n 0, 1) := by decide +kernel
theorem dX11_feed_1 : decode cX11_feed 1 = .ok (.getfield 110, 3) := by decide +kernel
theorem dX11_feed_4 : decode cX11_feed 4 = .ok (.bipush 20, 2) := by decide +kernel
theorem dX11_feed_6 : decode cX11_feed 6 = .ok (.iadd, 1) := by decide +kernel
theorem dX11_feed_7 : decode cX11_feed 7 = .ok (.sipush 200, 3) := by decide +kernel
theorem dX11_feed_10 : decode cX11_feed 10 = .ok (.if_icmp .le 6, 3) := by decide +kernel
theorem dX11_feed_13 : decode cX11_feed 13 = .ok (.bipush (-3), 2) := by decide +kernel
theorem dX11_feed_15 : decode cX11_feed 15 = .ok (.ireturn, 1) := by decide +kernel
theorem dX11_feed_16 : decode cX11_feed 16 = .ok (.iconst 0, 1) := by decide +kernel
theorem dX11_feed_17 : decode cX11_feed 17 = .ok (.istore 6, 2) := by decide +kernel
theorem dX11_feed_19 : decode cX11_feed 19 = .ok (.iload 6, 2) := by decide +kernel
theorem dX11_feed_21 : decode cX11_feed 21 = .ok (.iconst 5, 1) := by decide +kernel
theorem dX11_feed_22 : decode cX11_feed 22 = .ok (.if_icmp .ge 93, 3) := by decide +kernel
theorem dX11_feed_25 : decode cX11_feed 25 = .ok (.iload 6, 2) := by decide +kernel
theorem dX11_feed_27 : decode cX11_feed 27 = .ok (.ifCond .ne 7, 3) := by decide +kernel
theorem dX11_feed_30 : decode cX11_feed 30 = .ok (.iload_n 1, 1) := by decide +kernel
theorem dX11_feed_31 : decode cX11_feed 31 = .ok (.goto 36, 3) := by decide +kernel
theorem dX11_feed_34 : decode cX11_feed 34 = .ok (.iload 6, 2) := by decide +kernel
theorem dX11_feed_36 : decode cX11_feed 36 = .ok (.iconst 1, 1) := by decide +kernel
theorem dX11_feed_37 : decode cX11_feed 37 = .ok (.if_icmp .ne 7, 3) := by decide +kernel
theorem dX11_feed_40 : decode cX11_feed 40 = .ok (.iload_n 2, 1) := by decide +kernel
theorem dX11_feed_41 : decode cX11_feed 41 = .ok (.goto 26, 3) := by decide +kernel
theorem dX11_feed_44 : decode cX11_feed 44 = .ok (.iload 6, 2) := by decide +kernel
theorem dX11_feed_46 : decode cX11_feed 46 = .ok (.iconst 2, 1) := by decide +kernel
theorem dX11_feed_47 : decode cX11_feed 47 = .ok (.if_icmp .ne 7, 3) := by decide +kernel
theorem dX11_feed_50 : decode cX11_feed 50 = .ok (.iload_n 3, 1) := by decide +kernel
theorem dX11_feed_51 : decode cX11_feed 51 = .ok (.goto 16, 3) := by decide +kernel
theorem dX11_feed_54 : decode cX11_feed 54 = .ok (.iload 6, 2) := by decide +kernel
theorem dX11_feed_56 : decode cX11_feed 56 = .ok (.iconst 3, 1) := by decide +kernel
theorem dX11_feed_57 : decode cX11_feed 57 = .ok (.if_icmp .ne 8, 3) := by decide +kernel
theorem dX11_feed_60 : decode cX11_feed 60 = .ok (.iload 4, 2) := by decide +kernel
theorem dX11_feed_62 : decode cX11_feed 62 = .ok (.goto 5, 3) := by decide +kernel
theorem dX11_feed_65 : decode cX11_feed 65 = .ok (.iload 5, 2) := by decide +kernel
theorem dX11_feed_67 : decode cX11_feed 67 = .ok (.istore 7, 2) := by decide +kernel
theorem dX11_feed_69 : decode cX11_feed 69 = .ok (.bipush 24, 2) := by decide +kernel
theorem dX11_feed_71 : decode cX11_feed 71 = .ok (.istore 8, 2) := by decide +kernel
theorem dX11_feed_73 : decode cX11_feed 73 = .ok (.iload 8, 2) := by decide +kernel
theorem dX11_feed_75 : decode cX11_feed 75 = .ok (.ifCond .lt 34, 3) := by decide +kernel
theorem dX11_feed_78 : decode cX11_feed 78 = .ok (.aload_n 0, 1) := by decide +kernel
theorem dX11_feed_79 : decode cX11_feed 79 = .ok (.getfield 16, 3) := by decide +kernel
theorem dX11_feed_82 : decode cX11_feed 82 = .ok (.aload_n 0, 1) := by decide +kernel
theorem dX11_feed_83 : decode cX11_feed 83 = .ok (.getfield 110, 3) := by decide +kernel
theorem dX11_feed_86 : decode cX11_feed 86 = .ok (.iload 7, 2) := by decide +kernel
theorem dX11_feed_88 : decode cX11_feed 88 = .ok (.iload 8, 2) := by decide +kernel
theorem dX11_feed_90 : decode cX11_feed 90 = .ok (.ishr, 1) := by decide +kernel
theorem dX11_feed_91 : decode cX11_feed 91 = .ok (.i2b, 1) := by decide +kernel
theorem dX11_feed_92 : decode cX11_feed 92 = .ok (.bastore, 1) := by decide +kernel
theorem dX11_feed_93 : decode cX11_feed 93 = .ok (.aload_n 0, 1) := by decide +kernel
theorem dX11_feed_94 : decode cX11_feed 94 = .ok (.dup, 1) := by decide +kernel
theorem dX11_feed_95 : decode cX11_feed 95 = .ok (.getfield 110, 3) := by decide +kernel
theorem dX11_feed_98 : decode cX11_feed 98 = .ok (.iconst 1, 1) := by decide +kernel
theorem dX11_feed_99 : decode cX11_feed 99 = .ok (.iadd, 1) := by decide +kernel
theorem dX11_feed_100 : decode cX11_feed 100 = .ok (.putfield 110, 3) := by decide +kernel
theorem dX11_feed_103 : decode cX11_feed 103 = .ok (.iinc 8 (-8), 3) := by decide +kernel
theorem dX11_feed_106 : decode cX11_feed 106 = .ok (.goto (-33), 3) := by decide +kernel
theorem dX11_feed_109 : decode cX11_feed 109 = .ok (.iinc 6 1, 3) := by decide +kernel
theorem dX11_feed_112 : decode cX11_feed 112 = .ok (.goto (-93), 3) := by decide +kernel
theorem dX11_feed_115 : decode cX11_feed 115 = .ok (.aload_n 0, 1) := by decide +kernel
theorem dX11_feed_116 : decode cX11_feed 116 = .ok (.getfield 110, 3) := by decide +kernel
theorem dX11_feed_119 : decode cX11_feed 119 = .ok (.ireturn, 1) := by decide +kernel
theorem dX11_end_0 : decode cX11_end 0 = .ok (.iload_n 1, 1) := by decide +kernel
theorem dX11_end_1 : decode cX11_end 1 = .ok (.ifCond .lt 11, 3) := by decide +kernel
theorem dX11_end_4 : decode cX11_end 4 = .ok (.iload_n 1, 1) := by decide +kernel
theorem dX11_end_5 : decode cX11_end 5 = .ok (.aload_n 0, 1) := by decide +kernel
theorem dX11_end_6 : decode cX11_end 6 = .ok (.getfield 110, 3) := by decide +kernel
theorem dX11_end_9 : decode cX11_end 9 = .ok (.if_icmp .le 5, 3) := by decide +kernel
theorem dX11_end_12 : decode cX11_end 12 = .ok (.iconst (-1), 1) := by decide +kernel
theorem dX11_end_13 : decode cX11_end 13 = .ok (.ireturn, 1) := by decide +kernel
theorem dX11_end_14 : decode cX11_end 14 = .ok (.aload_n 0, 1) := by decide +kernel
theorem dX11_end_15 : decode cX11_end 15 = .ok (.iload_n 1, 1) := by decide +kernel
theorem dX11_end_16 : decode cX11_end 16 = .ok (.putfield 110, 3) := by decide +kernel
theorem dX11_end_19 : decode cX11_end 19 = .ok (.iload_n 1, 1) := by decide +kernel
theorem dX11_end_20 : decode cX11_end 20 = .ok (.ireturn, 1) := by decide +kernel
theorem dX11_script_0 : decode cX11_script 0 = .ok (.iload_n 1, 1) := by decide +kernel
theorem dX11_script_1 : decode cX11_script 1 = .ok (.invokestatic 113, 3) := by decide +kernel
theorem dX11_script_4 : decode cX11_script 4 = .ok (.ifCond .eq 13, 3) := by decide +kernel
theorem dX11_script_7 : decode cX11_script 7 = .ok (.iload_n 2, 1) := by decide +kernel
theorem dX11_script_8 : decode cX11_script 8 = .ok (.iconst 0, 1) := by decide +kernel
theorem dX11_script_9 : decode cX11_script 9 = .ok (.bipush 7, 2) := by decide +kernel
theorem dX11_script_11 : decode cX11_script 11 = .ok (.invokestatic 106, 3) := by decide +kernel
theorem dX11_script_14 : decode cX11_script 14 = .ok (.ifCond .ne 6, 3) := by decide +kernel
theorem dX11_script_17 : decode cX11_script 17 = .ok (.bipush (-2), 2) := by decide +kernel
theorem dX11_script_19 : decode cX11_script 19 = .ok (.ireturn, 1) := by decide +kernel
theorem dX11_script_20 : decode cX11_script 20 = .ok (.aload_n 0, 1) := by decide +kernel
theorem dX11_script_21 : decode cX11_script 21 = .ok (.getfield 7, 3) := by decide +kernel
theorem dX11_script_24 : decode cX11_script 24 = .ok (.iload_n 1, 1) := by decide +kernel
theorem dX11_script_25 : decode cX11_script 25 = .ok (.iaload, 1) := by decide +kernel
theorem dX11_script_26 : decode cX11_script 26 = .ok (.istore_n 3, 1) := by decide +kernel
theorem dX11_script_27 : decode cX11_script 27 = .ok (.aload_n 0, 1) := by decide +kernel
theorem dX11_script_28 : decode cX11_script 28 = .ok (.getfield 7, 3) := by decide +kernel
theorem dX11_script_31 : decode cX11_script 31 = .ok (.iload_n 1, 1) := by decide +kernel
theorem dX11_script_32 : decode cX11_script 32 = .ok (.iload_n 2, 1) := by decide +kernel
theorem dX11_script_33 : decode cX11_script 33 = .ok (.iastore, 1) := by decide +kernel
theorem dX11_script_34 : decode cX11_script 34 = .ok (.iload_n 3, 1) := by decide +kernel
theorem dX11_script_35 : decode cX11_script 35 = .ok (.ireturn, 1) := by decide +kernel
theorem dX11_seen_0 : decode cX11_seen 0 = .ok (.iload_n 1, 1) := by decide +kernel
theorem dX11_seen_1 : decode cX11_seen 1 = .ok (.invokestatic 113, 3) := by decide +kernel
theorem dX11_seen_4 : decode cX11_seen 4 = .ok (.ifCond .eq 12, 3) := by decide +kernel
theorem dX11_seen_7 : decode cX11_seen 7 = .ok (.iload_n 2, 1) := by decide +kernel
theorem dX11_seen_8 : decode cX11_seen 8 = .ok (.iconst 0, 1) := by decide +kernel
theorem dX11_seen_9 : decode cX11_seen 9 = .ok (.iconst 2, 1) := by decide +kernel
theorem dX11_seen_10 : decode cX11_seen 10 = .ok (.invokestatic 106, 3) := by decide +kernel
theorem dX11_seen_13 : decode cX11_seen 13 = .ok (.ifCond .ne 6, 3) := by decide +kernel
theorem dX11_seen_16 : decode cX11_seen 16 = .ok (.bipush (-2), 2) := by decide +kernel
theorem dX11_seen_18 : decode cX11_seen 18 = .ok (.ireturn, 1) := by decide +kernel
theorem dX11_seen_19 : decode cX11_seen 19 = .ok (.aload_n 0, 1) := by decide +kernel
theorem dX11_seen_20 : decode cX11_seen 20 = .ok (.getfield 13, 3) := by decide +kernel
theorem dX11_seen_23 : decode cX11_seen 23 = .ok (.iload_n 1, 1) := by decide +kernel
theorem dX11_seen_24 : decode cX11_seen 24 = .ok (.iaload, 1) := by decide +kernel
theorem dX11_seen_25 : decode cX11_seen 25 = .ok (.istore_n 3, 1) := by decide +kernel
theorem dX11_seen_26 : decode cX11_seen 26 = .ok (.aload_n 0, 1) := by decide +kernel
theorem dX11_seen_27 : decode cX11_seen 27 = .ok (.getfield 13, 3) := by decide +kernel
theorem dX11_seen_30 : decode cX11_seen 30 = .ok (.iload_n 1, 1) := by decide +kernel
theorem dX11_seen_31 : decode cX11_seen 31 = .ok (.iload_n 2, 1) := by decide +kernel
theorem dX11_seen_32 : decode cX11_seen 32 = .ok (.iastore, 1) := by decide +kernel
theorem dX11_seen_33 : decode cX11_seen 33 = .ok (.iload_n 3, 1) := by decide +kernel
theorem dX11_seen_34 : decode cX11_seen 34 = .ok (.ireturn, 1) := by decide +kernel
theorem dX11_isPiece_0 : decode cX11_isPiece 0 = .ok (.iload_n 0, 1) := by decide +kernel
theorem dX11_isPiece_1 : decode cX11_isPiece 1 = .ok (.invokestatic 113, 3) := by decide +kernel
theorem dX11_isPiece_4 : decode cX11_isPiece 4 = .ok (.ifCond .ne 25, 3) := by decide +kernel
theorem dX11_isPiece_7 : decode cX11_isPiece 7 = .ok (.iload_n 0, 1) := by decide +kernel
theorem dX11_isPiece_8 : decode cX11_isPiece 8 = .ok (.sipush 256, 3) := by decide +kernel
theorem dX11_isPiece_11 : decode cX11_isPiece 11 = .ok (.idiv, 1) := by decide +kernel
theorem dX11_isPiece_12 : decode cX11_isPiece 12 = .ok (.invokestatic 113, 3) := by decide +kernel
theorem dX11_isPiece_15 : decode cX11_isPiece 15 = .ok (.ifCond .eq 18, 3) := by decide +kernel
theorem dX11_isPiece_18 : decode cX11_isPiece 18 = .ok (.iload_n 0, 1) := by decide +kernel
theorem dX11_isPiece_19 : decode cX11_isPiece 19 = .ok (.sipush 256, 3) := by decide +kernel
theorem dX11_isPiece_22 : decode cX11_isPiece 22 = .ok (.irem, 1) := by decide +kernel
theorem dX11_isPiece_23 : decode cX11_isPiece 23 = .ok (.invokestatic 113, 3) := by decide +kernel
theorem dX11_isPiece_26 : decode cX11_isPiece 26 = .ok (.ifCond .eq 7, 3) := by decide +kernel
theorem dX11_isPiece_29 : decode cX11_isPiece 29 = .ok (.iconst 1, 1) := by decide +kernel
theorem dX11_isPiece_30 : decode cX11_isPiece 30 = .ok (.goto 4, 3) := by decide +kernel
theorem dX11_isPiece_33 : decode cX11_isPiece 33 = .ok (.iconst 0, 1) := by decide +kernel
theorem dX11_isPiece_34 : decode cX11_isPiece 34 = .ok (.ireturn, 1) := by decide +kernel
theorem dX11_find_0 : decode cX11_find 0 = .ok (.iconst 0, 1) := by decide +kernel
theorem dX11_find_1 : decode cX11_find 1 = .ok (.istore_n 3, 1) := by decide +kernel
theorem dX11_find_2 : decode cX11_find 2 = .ok (.iload_n 3, 1) := by decide +kernel
theorem dX11_find_3 : decode cX11_find 3 = .ok (.aload_n 0, 1) := by decide +kernel
theorem dX11_find_4 : decode cX11_find 4 = .ok (.getfield 117, 3) := by decide +kernel
theorem dX11_find_7 : decode cX11_find 7 = .ok (.if_icmp .ge 51, 3) := by decide +kernel
theorem dX11_find_10 : decode cX11_find 10 = .ok (.aload_n 0, 1) := by decide +kernel
theorem dX11_find_11 : decode cX11_find 11 = .ok (.getfield 20, 3) := by decide +kernel
theorem dX11_find_14 : decode cX11_find 14 = .ok (.iload_n 3, 1) := by decide +kernel
theorem dX11_find_15 : decode cX11_find 15 = .ok (.iaload, 1) := by decide +kernel
theorem dX11_find_16 : decode cX11_find 16 = .ok (.iload_n 1, 1) := by decide +kernel
theorem dX11_find_17 : decode cX11_find 17 = .ok (.if_icmp .ne 13, 3) := by decide +kernel
theorem dX11_find_20 : decode cX11_find 20 = .ok (.aload_n 0, 1) := by decide +kernel
theorem dX11_find_21 : decode cX11_find 21 = .ok (.getfield 23, 3) := by decide +kernel
theorem dX11_find_24 : decode cX11_find 24 = .ok (.iload_n 3, 1) := by decide +kernel
theorem dX11_find_25 : decode cX11_find 25 = .ok (.iaload, 1) := by decide +kernel
theorem dX11_find_26 : decode cX11_find 26 = .ok (.iload_n 2, 1) := by decide +kernel
theorem dX11_find_27 : decode cX11_find 27 = .ok (.if_icmp .eq 23, 3) := by decide +kernel
theorem dX11_find_30 : decode cX11_find 30 = .ok (.aload_n 0, 1) := by decide +kernel
theorem dX11_find_31 : decode cX11_find 31 = .ok (.getfield 20, 3) := by decide +kernel
theorem dX11_find_34 : decode cX11_find 34 = .ok (.iload_n 3, 1) := by decide +kernel
theorem dX11_find_35 : decode cX11_find 35 = .ok (.iaload, 1) := by decide +kernel
theorem dX11_find_36 : decode cX11_find 36 = .ok (.iload_n 2, 1) := by decide +kernel
theorem dX11_find_37 : decode cX11_find 37 = .ok (.if_icmp .ne 15, 3) := by decide +kernel
theorem dX11_find_40 : decode cX11_find 40 = .ok (.aload_n 0, 1) := by decide +kernel
theorem dX11_find_41 : decode cX11_find 41 = .ok (.getfield 23, 3) := by decide +kernel
theorem dX11_find_44 : decode cX11_find 44 = .ok (.iload_n 3, 1) := by decide +kernel
theorem dX11_find_45 : decode cX11_find 45 = .ok (.iaload, 1) := by decide +kernel
theorem dX11_find_46 : decode cX11_find 46 = .ok (.iload_n 1, 1) := by decide +kernel
theorem dX11_find_47 : decode cX11_find 47 = .ok (.if_icmp .ne 5, 3) := by decide +kernel
theorem dX11_find_50 : decode cX11_find 50 = .ok (.iload_n 3, 1) := by decide +kernel
theorem dX11_find_51 : decode cX11_find 51 = .ok (.ireturn, 1) := by decide +kernel
theorem dX11_find_52 : decode cX11_find 52 = .ok (.iinc 3 1, 3) := by decide +kernel
theorem dX11_find_55 : decode cX11_find 55 = .ok (.goto (-53), 3) := by decide +kernel
theorem dX11_find_58 : decode cX11_find 58 = .ok (.iconst (-1), 1) := by decide +kernel
theorem dX11_find_59 : decode cX11_find 59 = .ok (.ireturn, 1) := by decide +kernel
theorem dX11_confuse_0 : decode cX11_confuse 0 = .ok (.iload_n 1, 1) := by decide +kernel
theorem dX11_confuse_1 : decode cX11_confuse 1 = .ok (.invokestatic 120, 3) := by decide +kernel
theorem dX11_confuse_4 : decode cX11_confuse 4 = .ok (.ifCond .eq 25, 3) := by decide +kernel
theorem dX11_confuse_7 : decode cX11_confuse 7 = .ok (.iload_n 2, 1) := by decide +kernel
theorem dX11_confuse_8 : decode cX11_confuse 8 = .ok (.invokestatic 120, 3) := by decide +kernel
theorem dX11_confuse_11 : decode cX11_confuse 11 = .ok (.ifCond .eq 18, 3) := by decide +kernel
theorem dX11_confuse_14 : decode cX11_confuse 14 = .ok (.iload_n 1, 1) := by decide +kernel
theorem dX11_confuse_15 : decode cX11_confuse 15 = .ok (.iload_n 2, 1) := by decide +kernel
theorem dX11_confuse_16 : decode cX11_confuse 16 = .ok (.if_icmp .eq 13, 3) := by decide +kernel
theorem dX11_confuse_19 : decode cX11_confuse 19 = .ok (.iload_n 3, 1) := by decide +kernel
theorem dX11_confuse_20 : decode cX11_confuse 20 = .ok (.iconst (-1), 1) := by decide +kernel
theorem dX11_confuse_21 : decode cX11_confuse 21 = .ok (.bipush 20, 2) := by decide +kernel
theorem dX11_confuse_23 : decode cX11_confuse 23 = .ok (.invokestatic 106, 3) := by decide +kernel
theorem dX11_confuse_26 : decode cX11_confuse 26 = .ok (.ifCond .ne 6, 3) := by decide +kernel
theorem dX11_confuse_29 : decode cX11_confuse 29 = .ok (.bipush (-2), 2) := by decide +kernel
theorem dX11_confuse_31 : decode cX11_confuse 31 = .ok (.ireturn, 1) := by decide +kernel
theorem dX11_confuse_32 : decode cX11_confuse 32 = .ok (.aload_n 0, 1) := by decide +kernel
theorem dX11_confuse_33 : decode cX11_confuse 33 = .ok (.iload_n 1, 1) := by decide +kernel
theorem dX11_confuse_34 : decode cX11_confuse 34 = .ok (.iload_n 2, 1) := by decide +kernel
theorem dX11_confuse_35 : decode cX11_confuse 35 = .ok (.invokevirtual 123, 3) := by decide +kernel
theorem dX11_confuse_38 : decode cX11_confuse 38 = .ok (.istore 4, 2) := by decide +kernel
theorem dX11_confuse_40 : decode cX11_confuse 40 = .ok (.iload 4, 2) := by decide +kernel
theorem dX11_confuse_42 : decode cX11_confuse 42 = .ok (.iconst (-1), 1) := by decide +kernel
theorem dX11_confuse_43 : decode cX11_confuse 43 = .ok (.if_icmp .ne 7, 3) := by decide +kernel
theorem dX11_confuse_46 : decode cX11_confuse 46 = .ok (.iconst (-1), 1) := by decide +kernel
theorem dX11_confuse_47 : decode cX11_confuse 47 = .ok (.goto 10, 3) := by decide +kernel
theorem dX11_confuse_50 : decode cX11_confuse 50 = .ok (.aload_n 0, 1) := by decide +kernel
theorem dX11_confuse_51 : decode cX11_confuse 51 = .ok (.getfield 26, 3) := by decide +kernel
theorem dX11_confuse_54 : decode cX11_confuse 54 = .ok (.iload 4, 2) := by decide +kernel
theorem dX11_confuse_56 : decode cX11_confuse 56 = .ok (.iaload, 1) := by decide +kernel
theorem dX11_confuse_57 : decode cX11_confuse 57 = .ok (.istore 5, 2) := by decide +kernel
theorem dX11_confuse_59 : decode cX11_confuse 59 = .ok (.iload_n 3, 1) := by decide +kernel
theorem dX11_confuse_60 : decode cX11_confuse 60 = .ok (.iconst (-1), 1) := by decide +kernel
theorem dX11_confuse_61 : decode cX11_confuse 61 = .ok (.if_icmp .ne 72, 3) := by decide +kernel
theorem dX11_confuse_64 : decode cX11_confuse 64 = .ok (.iload 4, 2) := by decide +kernel
theorem dX11_confuse_66 : decode cX11_confuse 66 = .ok (.iconst (-1), 1) := by decide +kernel
theorem dX11_confuse_67 : decode cX11_confuse 67 = .ok (.if_icmp .ne 5, 3) := by decide +kernel
theorem dX11_confuse_70 : decode cX11_confuse 70 = .ok (.iconst (-1), 1) := by decide +kernel
theorem dX11_confuse_71 : decode cX11_confuse 71 = .ok (.ireturn, 1) := by decide +kernel
theorem dX11_confuse_72 : decode cX11_confuse 72 = .ok (.aload_n 0, 1) := by decide +kernel
theorem dX11_confuse_73 : decode cX11_confuse 73 = .ok (.dup, 1) := by decide +kernel
theorem dX11_confuse_74 : decode cX11_confuse 74 = .ok (.getfield 117, 3) := by decide +kernel
theorem dX11_confuse_77 : decode cX11_confuse 77 = .ok (.iconst 1, 1) := by decide +kernel
theorem dX11_confuse_78 : decode cX11_confuse 78 = .ok (.isub, 1) := by decide +kernel
theorem dX11_confuse_79 : decode cX11_confuse 79 = .ok (.putfield 117, 3) := by decide +kernel
theorem dX11_confuse_82 : decode cX11_confuse 82 = .ok (.aload_n 0, 1) := by decide +kernel
theorem dX11_confuse_83 : decode cX11_confuse 83 = .ok (.getfield 20, 3) := by decide +kernel
theorem dX11_confuse_86 : decode cX11_confuse 86 = .ok (.iload 4, 2) := by decide +kernel
theorem dX11_confuse_88 : decode cX11_confuse 88 = .ok (.aload_n 0, 1) := by decide +kernel
theorem dX11_confuse_89 : decode cX11_confuse 89 = .ok (.getfield 20, 3) := by decide +kernel
theorem dX11_confuse_92 : decode cX11_confuse 92 = .ok (.aload_n 0, 1) := by decide +kernel
theorem dX11_confuse_93 : decode cX11_confuse 93 = .ok (.getfield 117, 3) := by decide +kernel
theorem dX11_confuse_96 : decode cX11_confuse 96 = .ok (.iaload, 1) := by decide +kernel
theorem dX11_confuse_97 : decode cX11_confuse 97 = .ok (.iastore, 1) := by decide +kernel
theorem dX11_confuse_98 : decode cX11_confuse 98 = .ok (.aload_n 0, 1) := by decide +kernel
theorem dX11_confuse_99 : decode cX11_confuse 99 = .ok (.getfield 23, 3) := by decide +kernel
theorem dX11_confuse_102 : decode cX11_confuse 102 = .ok (.iload 4, 2) := by decide +kernel
theorem dX11_confuse_104 : decode cX11_confuse 104 = .ok (.aload_n 0, 1) := by decide +kernel
theorem dX11_confuse_105 : decode cX11_confuse 105 = .ok (.getfield 23, 3) := by decide +kernel
theorem dX11_confuse_108 : decode cX11_confuse 108 = .ok (.aload_n 0, 1) := by decide +kernel
theorem dX11_confuse_109 : decode cX11_confuse 109 = .ok (.getfield 117, 3) := by decide +kernel
theorem dX11_confuse_112 : decode cX11_confuse 112 = .ok (.iaload, 1) := by decide +kernel
theorem dX11_confuse_113 : decode cX11_confuse 113 = .ok (.iastore, 1) := by decide +kernel
theorem dX11_confuse_114 : decode cX11_confuse 114 = .ok (.aload_n 0, 1) := by decide +kernel
theorem dX11_confuse_115 : decode cX11_confuse 115 = .ok (.getfield 26, 3) := by decide +kernel
theorem dX11_confuse_118 : decode cX11_confuse 118 = .ok (.iload 4, 2) := by decide +kernel
theorem dX11_confuse_120 : decode cX11_confuse 120 = .ok (.aload_n 0, 1) := by decide +kernel
theorem dX11_confuse_121 : decode cX11_confuse 121 = .ok (.getfield 26, 3) := by decide +kernel
theorem dX11_confuse_124 : decode cX11_confuse 124 = .ok (.aload_n 0, 1) := by decide +kernel
theorem dX11_confuse_125 : decode cX11_confuse 125 = .ok (.getfield 117, 3) := by decide +kernel
theorem dX11_confuse_128 : decode cX11_confuse 128 = .ok (.iaload, 1) := by decide +kernel
theorem dX11_confuse_129 : decode cX11_confuse 129 = .ok (.iastore, 1) := by decide +kernel
theorem dX11_confuse_130 : decode cX11_confuse 130 = .ok (.goto 72, 3) := by decide +kernel
theorem dX11_confuse_133 : decode cX11_confuse 133 = .ok (.iload 4, 2) := by decide +kernel
theorem dX11_confuse_135 : decode cX11_confuse 135 = .ok (.iconst (-1), 1) := by decide +kernel
theorem dX11_confuse_136 : decode cX11_confuse 136 = .ok (.if_icmp .eq 14, 3) := by decide +kernel
theorem dX11_confuse_139 : decode cX11_confuse 139 = .ok (.aload_n 0, 1) := by decide +kernel
theorem dX11_confuse_140 : decode cX11_confuse 140 = .ok (.getfield 26, 3) := by decide +kernel
theorem dX11_confuse_143 : decode cX11_confuse 143 = .ok (.iload 4, 2) := by decide +kernel
theorem dX11_confuse_145 : decode cX11_confuse 145 = .ok (.iload_n 3, 1) := by decide +kernel
theorem dX11_confuse_146 : decode cX11_confuse 146 = .ok (.iastore, 1) := by decide +kernel
theorem dX11_confuse_147 : decode cX11_confuse 147 = .ok (.goto 55, 3) := by decide +kernel
theorem dX11_confuse_150 : decode cX11_confuse 150 = .ok (.aload_n 0, 1) := by decide +kernel
theorem dX11_confuse_151 : decode cX11_confuse 151 = .ok (.getfield 117, 3) := by decide +kernel
theorem dX11_confuse_154 : decode cX11_confuse 154 = .ok (.bipush 60, 2) := by decide +kernel
theorem dX11_confuse_156 : decode cX11_confuse 156 = .ok (.if_icmp .ne 6, 3) := by decide +kernel
theorem dX11_confuse_159 : decode cX11_confuse 159 = .ok (.bipush (-3), 2) := by decide +kernel
theorem dX11_confuse_161 : decode cX11_confuse 161 = .ok (.ireturn, 1) := by decide +kernel
theorem dX11_confuse_162 : decode cX11_confuse 162 = .ok (.aload_n 0, 1) := by decide +kernel
theorem dX11_confuse_163 : decode cX11_confuse 163 = .ok (.getfield 20, 3) := by decide +kernel
theorem dX11_confuse_166 : decode cX11_confuse 166 = .ok (.aload_n 0, 1) := by decide +kernel
theorem dX11_confuse_167 : decode cX11_confuse 167 = .ok (.getfield 117, 3) := by decide +kernel
theorem dX11_confuse_170 : decode cX11_confuse 170 = .ok (.iload_n 1, 1) := by decide +kernel
theorem dX11_confuse_171 : decode cX11_confuse 171 = .ok (.iastore, 1) := by decide +kernel
theorem dX11_confuse_172 : decode cX11_confuse 172 = .ok (.aload_n 0, 1) := by decide +kernel
theorem dX11_confuse_173 : decode cX11_confuse 173 = .ok (.getfield 23, 3) := by decide +kernel
theorem dX11_confuse_176 : decode cX11_confuse 176 = .ok (.aload_n 0, 1) := by decide +kernel
theorem dX11_confuse_177 : decode cX11_confuse 177 = .ok (.getfield 117, 3) := by decide +kernel
theorem dX11_confuse_180 : decode cX11_confuse 180 = .ok (.iload_n 2, 1) := by decide +kernel
theorem dX11_confuse_181 : decode cX11_confuse 181 = .ok (.iastore, 1) := by decide +kernel
theorem dX11_confuse_182 : decode cX11_confuse 182 = .ok (.aload_n 0, 1) := by decide +kernel
theorem dX11_confuse_183 : decode cX11_confuse 183 = .ok (.getfield 26, 3) := by decide +kernel
theorem dX11_confuse_186 : decode cX11_confuse 186 = .ok (.aload_n 0, 1) := by decide +kernel
theorem dX11_confuse_187 : decode cX11_confuse 187 = .ok (.getfield 117, 3) := by decide +kernel
theorem dX11_confuse_190 : decode cX11_confuse 190 = .ok (.iload_n 3, 1) := by decide +kernel
theorem dX11_confuse_191 : decode cX11_confuse 191 = .ok (.iastore, 1) := by decide +kernel
theorem dX11_confuse_192 : decode cX11_confuse 192 = .ok (.aload_n 0, 1) := by decide +kernel
theorem dX11_confuse_193 : decode cX11_confuse 193 = .ok (.dup, 1) := by decide +kernel
theorem dX11_confuse_194 : decode cX11_confuse 194 = .ok (.getfield 117, 3) := by decide +kernel
theorem dX11_confuse_197 : decode cX11_confuse 197 = .ok (.iconst 1, 1) := by decide +kernel
theorem dX11_confuse_198 : decode cX11_confuse 198 = .ok (.iadd, 1) := by decide +kernel
theorem dX11_confuse_199 : decode cX11_confuse 199 = .ok (.putfield 117, 3) := by decide +kernel
theorem dX11_confuse_202 : decode cX11_confuse 202 = .ok (.aload_n 0, 1) := by decide +kernel
theorem dX11_confuse_203 : decode cX11_confuse 203 = .ok (.invokevirtual 103, 3) := by decide +kernel
theorem dX11_confuse_206 : decode cX11_confuse 206 = .ok (.iload 5, 2) := by decide +kernel
theorem dX11_confuse_208 : decode cX11_confuse 208 = .ok (.ireturn, 1) := by decide +kernel
theorem dX11_nodeOf_0 : decode cX11_nodeOf 0 = .ok (.iload_n 1, 1) := by decide +kernel
theorem dX11_nodeOf_1 : decode cX11_nodeOf 1 = .ok (.sipush 256, 3) := by decide +kernel
theorem dX11_nodeOf_4 : decode cX11_nodeOf 4 = .ok (.if_icmp .ge 15, 3) := by decide +kernel
theorem dX11_nodeOf_7 : decode cX11_nodeOf 7 = .ok (.aload_n 0, 1) := by decide +kernel
theorem dX11_nodeOf_8 : decode cX11_nodeOf 8 = .ok (.getfield 29, 3) := by decide +kernel
theorem dX11_nodeOf_11 : decode cX11_nodeOf 11 = .ok (.iload_n 1, 1) := by decide +kernel
theorem dX11_nodeOf_12 : decode cX11_nodeOf 12 = .ok (.bipush 33, 2) := by decide +kernel
theorem dX11_nodeOf_14 : decode cX11_nodeOf 14 = .ok (.isub, 1) := by decide +kernel
theorem dX11_nodeOf_15 : decode cX11_nodeOf 15 = .ok (.iaload, 1) := by decide +kernel
theorem dX11_nodeOf_16 : decode cX11_nodeOf 16 = .ok (.goto 28, 3) := by decide +kernel
theorem dX11_nodeOf_19 : decode cX11_nodeOf 19 = .ok (.aload_n 0, 1) := by decide +kernel
theorem dX11_nodeOf_20 : decode cX11_nodeOf 20 = .ok (.getfield 32, 3) := by decide +kernel
theorem dX11_nodeOf_23 : decode cX11_nodeOf 23 = .ok (.bipush 94, 2) := by decide +kernel
theorem dX11_nodeOf_25 : decode cX11_nodeOf 25 = .ok (.iload_n 1, 1) := by decide +kernel
theorem dX11_nodeOf_26 : decode cX11_nodeOf 26 = .ok (.sipush 256, 3) := by decide +kernel
theorem dX11_nodeOf_29 : decode cX11_nodeOf 29 = .ok (.idiv, 1) := by decide +kernel
theorem dX11_nodeOf_30 : decode cX11_nodeOf 30 = .ok (.bipush 33, 2) := by decide +kernel
theorem dX11_nodeOf_32 : decode cX11_nodeOf 32 = .ok (.isub, 1) := by decide +kernel
theorem dX11_nodeOf_33 : decode cX11_nodeOf 33 = .ok (.imul, 1) := by decide +kernel
theorem dX11_nodeOf_34 : decode cX11_nodeOf 34 = .ok (.iload_n 1, 1) := by decide +kernel
theorem dX11_nodeOf_35 : decode cX11_nodeOf 35 = .ok (.sipush 256, 3) := by decide +kernel
theorem dX11_nodeOf_38 : decode cX11_nodeOf 38 = .ok (.irem, 1) := by decide +kernel
theorem dX11_nodeOf_39 : decode cX11_nodeOf 39 = .ok (.iadd, 1) := by decide +kernel
theorem dX11_nodeOf_40 : decode cX11_nodeOf 40 = .ok (.bipush 33, 2) := by decide +kernel
theorem dX11_nodeOf_42 : decode cX11_nodeOf 42 = .ok (.isub, 1) := by decide +kernel
theorem dX11_nodeOf_43 : decode cX11_nodeOf 43 = .ok (.iaload, 1) := by decide +kernel
theorem dX11_nodeOf_44 : decode cX11_nodeOf 44 = .ok (.ireturn, 1) := by decide +kernel
theorem dX11_node_0 : decode cX11_node 0 = .ok (.aload_n 0, 1) := by decide +kernel
theorem dX11_node_1 : decode cX11_node 1 = .ok (.iload_n 1, 1) := by decide +kernel
theorem dX11_node_2 : decode cX11_node 2 = .ok (.invokevirtual 127, 3) := by decide +kernel
theorem dX11_node_5 : decode cX11_node 5 = .ok (.iconst (-1), 1) := by decide +kernel
theorem dX11_node_6 : decode cX11_node 6 = .ok (.if_icmp .eq 9, 3) := by decide +kernel
theorem dX11_node_9 : decode cX11_node 9 = .ok (.aload_n 0, 1) := by decide +kernel
theorem dX11_node_10 : decode cX11_node 10 = .ok (.iload_n 1, 1) := by decide +kernel
theorem dX11_node_11 : decode cX11_node 11 = .ok (.invokevirtual 127, 3) := by decide +kernel
theorem dX11_node_14 : decode cX11_node 14 = .ok (.ireturn, 1) := by decide +kernel
theorem dX11_node_15 : decode cX11_node 15 = .ok (.iload_n 1, 1) := by decide +kernel
theorem dX11_node_16 : decode cX11_node 16 = .ok (.sipush 256, 3) := by decide +kernel
theorem dX11_node_19 : decode cX11_node 19 = .ok (.if_icmp .ge 19, 3) := by decide +kernel
theorem dX11_node_22 : decode cX11_node 22 = .ok (.aload_n 0, 1) := by decide +kernel
theorem dX11_node_23 : decode cX11_node 23 = .ok (.getfield 29, 3) := by decide +kernel
theorem dX11_node_26 : decode cX11_node 26 = .ok (.iload_n 1, 1) := by decide +kernel
theorem dX11_node_27 : decode cX11_node 27 = .ok (.bipush 33, 2) := by decide +kernel
theorem dX11_node_29 : decode cX11_node 29 = .ok (.isub, 1) := by decide +kernel
theorem dX11_node_30 : decode cX11_node 30 = .ok (.aload_n 0, 1) := by decide +kernel
theorem dX11_node_31 : decode cX11_node 31 = .ok (.getfield 131, 3) := by decide +kernel
theorem dX11_node_34 : decode cX11_node 34 = .ok (.iastore, 1) := by decide +kernel
theorem dX11_node_35 : decode cX11_node 35 = .ok (.goto 32, 3) := by decide +kernel
theorem dX11_node_38 : decode cX11_node 38 = .ok (.aload_n 0, 1) := by decide +kernel
theorem dX11_node_39 : decode cX11_node 39 = .ok (.getfield 32, 3) := by decide +kernel
theorem dX11_node_42 : decode cX11_node 42 = .ok (.bipush 94, 2) := by decide +kernel
theorem dX11_node_44 : decode cX11_node 44 = .ok (.iload_n 1, 1) := by decide +kernel
theorem dX11_node_45 : decode cX11_node 45 = .ok (.sipush 256, 3) := by decide +kernel
theorem dX11_node_48 : decode cX11_node 48 = .ok (.idiv, 1) := by decide +kernel
theorem dX11_node_49 : decode cX11_node 49 = .ok (.bipush 33, 2) := by decide +kernel
theorem dX11_node_51 : decode cX11_node 51 = .ok (.isub, 1) := by decide +kernel
theorem dX11_node_52 : decode cX11_node 52 = .ok (.imul, 1) := by decide +kernel
theorem dX11_node_53 : decode cX11_node 53 = .ok (.iload_n 1, 1) := by decide +kernel
theorem dX11_node_54 : decode cX11_node 54 = .ok (.sipush 256, 3) := by decide +kernel
theorem dX11_node_57 : decode cX11_node 57 = .ok (.irem, 1) := by decide +kernel
theorem dX11_node_58 : decode cX11_node 58 = .ok (.iadd, 1) := by decide +kernel
theorem dX11_node_59 : decode cX11_node 59 = .ok (.bipush 33, 2) := by decide +kernel
theorem dX11_node_61 : decode cX11_node 61 = .ok (.isub, 1) := by decide +kernel
theorem dX11_node_62 : decode cX11_node 62 = .ok (.aload_n 0, 1) := by decide +kernel
theorem dX11_node_63 : decode cX11_node 63 = .ok (.getfield 131, 3) := by decide +kernel
theorem dX11_node_66 : decode cX11_node 66 = .ok (.iastore, 1) := by decide +kernel
theorem dX11_node_67 : decode cX11_node 67 = .ok (.aload_n 0, 1) := by decide +kernel
theorem dX11_node_68 : decode cX11_node 68 = .ok (.dup, 1) := by decide +kernel
theorem dX11_node_69 : decode cX11_node 69 = .ok (.getfield 131, 3) := by decide +kernel
theorem dX11_node_72 : decode cX11_node 72 = .ok (.iconst 1, 1) := by decide +kernel
theorem dX11_node_73 : decode cX11_node 73 = .ok (.iadd, 1) := by decide +kernel
theorem dX11_node_74 : decode cX11_node 74 = .ok (.putfield 131, 3) := by decide +kernel
theorem dX11_node_77 : decode cX11_node 77 = .ok (.aload_n 0, 1) := by decide +kernel
theorem dX11_node_78 : decode cX11_node 78 = .ok (.getfield 131, 3) := by decide +kernel
theorem dX11_node_81 : decode cX11_node 81 = .ok (.iconst 1, 1) := by decide +kernel
theorem dX11_node_82 : decode cX11_node 82 = .ok (.isub, 1) := by decide +kernel
theorem dX11_node_83 : decode cX11_node 83 = .ok (.ireturn, 1) := by decide +kernel
theorem dX11_makeNodes_0 : decode cX11_makeNodes 0 = .ok (.aload_n 0, 1) := by decide +kernel
theorem dX11_makeNodes_1 : decode cX11_makeNodes 1 = .ok (.iconst 0, 1) := by decide +kernel
theorem dX11_makeNodes_2 : decode cX11_makeNodes 2 = .ok (.putfield 131, 3) := by decide +kernel
theorem dX11_makeNodes_5 : decode cX11_makeNodes 5 = .ok (.iconst 0, 1) := by decide +kernel
theorem dX11_makeNodes_6 : decode cX11_makeNodes 6 = .ok (.istore_n 1, 1) := by decide +kernel
theorem dX11_makeNodes_7 : decode cX11_makeNodes 7 = .ok (.iload_n 1, 1) := by decide +kernel
theorem dX11_makeNodes_8 : decode cX11_makeNodes 8 = .ok (.bipush 94, 2) := by decide +kernel
theorem dX11_makeNodes_10 : decode cX11_makeNodes 10 = .ok (.if_icmp .ge 16, 3) := by decide +kernel
theorem dX11_makeNodes_13 : decode cX11_makeNodes 13 = .ok (.aload_n 0, 1) := by decide +kernel
theorem dX11_makeNodes_14 : decode cX11_makeNodes 14 = .ok (.getfield 29, 3) := by decide +kernel
theorem dX11_makeNodes_17 : decode cX11_makeNodes 17 = .ok (.iload_n 1, 1) := by decide +kernel
theorem dX11_makeNodes_18 : decode cX11_makeNodes 18 = .ok (.iconst (-1), 1) := by decide +kernel
theorem dX11_makeNodes_19 : decode cX11_makeNodes 19 = .ok (.iastore, 1) := by decide +kernel
theorem dX11_makeNodes_20 : decode cX11_makeNodes 20 = .ok (.iinc 1 1, 3) := by decide +kernel
theorem dX11_makeNodes_23 : decode cX11_makeNodes 23 = .ok (.goto (-16), 3) := by decide +kernel
theorem dX11_makeNodes_26 : decode cX11_makeNodes 26 = .ok (.iconst 0, 1) := by decide +kernel
theorem dX11_makeNodes_27 : decode cX11_makeNodes 27 = .ok (.istore_n 1, 1) := by decide +kernel
theorem dX11_makeNodes_28 : decode cX11_makeNodes 28 = .ok (.iload_n 1, 1) := by decide +kernel
theorem dX11_makeNodes_29 : decode cX11_makeNodes 29 = .ok (.sipush 8836, 3) := by decide +kernel
theorem dX11_makeNodes_32 : decode cX11_makeNodes 32 = .ok (.if_icmp .ge 16, 3) := by decide +kernel
theorem dX11_makeNodes_35 : decode cX11_makeNodes 35 = .ok (.aload_n 0, 1) := by decide +kernel
theorem dX11_makeNodes_36 : decode cX11_makeNodes 36 = .ok (.getfield 32, 3) := by decide +kernel
theorem dX11_makeNodes_39 : decode cX11_makeNodes 39 = .ok (.iload_n 1, 1) := by decide +kernel
theorem dX11_makeNodes_40 : decode cX11_makeNodes 40 = .ok (.iconst (-1), 1) := by decide +kernel
theorem dX11_makeNodes_41 : decode cX11_makeNodes 41 = .ok (.iastore, 1) := by decide +kernel
theorem dX11_makeNodes_42 : decode cX11_makeNodes 42 = .ok (.iinc 1 1, 3) := by decide +kernel
theorem dX11_makeNodes_45 : decode cX11_makeNodes 45 = .ok (.goto (-17), 3) := by decide +kernel
theorem dX11_makeNodes_48 : decode cX11_makeNodes 48 = .ok (.iconst 0, 1) := by decide +kernel
theorem dX11_makeNodes_49 : decode cX11_makeNodes 49 = .ok (.istore_n 1, 1) := by decide +kernel
theorem dX11_makeNodes_50 : decode cX11_makeNodes 50 = .ok (.iload_n 1, 1) := by decide +kernel
theorem dX11_makeNodes_51 : decode cX11_makeNodes 51 = .ok (.sipush 14400, 3) := by decide +kernel
theorem dX11_makeNodes_54 : decode cX11_makeNodes 54 = .ok (.if_icmp .ge 28, 3) := by decide +kernel
theorem dX11_makeNodes_57 : decode cX11_makeNodes 57 = .ok (.aload_n 0, 1) := by decide +kernel
theorem dX11_makeNodes_58 : decode cX11_makeNodes 58 = .ok (.getfield 35, 3) := by decide +kernel
theorem dX11_makeNodes_61 : decode cX11_makeNodes 61 = .ok (.iload_n 1, 1) := by decide +kernel
theorem dX11_makeNodes_62 : decode cX11_makeNodes 62 = .ok (.iload_n 1, 1) := by decide +kernel
theorem dX11_makeNodes_63 : decode cX11_makeNodes 63 = .ok (.bipush 121, 2) := by decide +kernel
theorem dX11_makeNodes_65 : decode cX11_makeNodes 65 = .ok (.irem, 1) := by decide +kernel
theorem dX11_makeNodes_66 : decode cX11_makeNodes 66 = .ok (.ifCond .ne 7, 3) := by decide +kernel
theorem dX11_makeNodes_69 : decode cX11_makeNodes 69 = .ok (.iconst 0, 1) := by decide +kernel
theorem dX11_makeNodes_70 : decode cX11_makeNodes 70 = .ok (.goto 5, 3) := by decide +kernel
theorem dX11_makeNodes_73 : decode cX11_makeNodes 73 = .ok (.ldc 134, 2) := by decide +kernel
theorem dX11_makeNodes_75 : decode cX11_makeNodes 75 = .ok (.iastore, 1) := by decide +kernel
theorem dX11_makeNodes_76 : decode cX11_makeNodes 76 = .ok (.iinc 1 1, 3) := by decide +kernel
theorem dX11_makeNodes_79 : decode cX11_makeNodes 79 = .ok (.goto (-29), 3) := by decide +kernel
theorem dX11_makeNodes_82 : decode cX11_makeNodes 82 = .ok (.iconst 0, 1) := by decide +kernel
theorem dX11_makeNodes_83 : decode cX11_makeNodes 83 = .ok (.istore_n 1, 1) := by decide +kernel
theorem dX11_makeNodes_84 : decode cX11_makeNodes 84 = .ok (.iload_n 1, 1) := by decide +kernel
theorem dX11_makeNodes_85 : decode cX11_makeNodes 85 = .ok (.aload_n 0, 1) := by decide +kernel
theorem dX11_makeNodes_86 : decode cX11_makeNodes 86 = .ok (.getfield 117, 3) := by decide +kernel
theorem dX11_makeNodes_89 : decode cX11_makeNodes 89 = .ok (.if_icmp .ge 65, 3) := by decide +kernel
theorem dX11_makeNodes_92 : decode cX11_makeNodes 92 = .ok (.aload_n 0, 1) := by decide +kernel
theorem dX11_makeNodes_93 : decode cX11_makeNodes 93 = .ok (.aload_n 0, 1) := by decide +kernel
theorem dX11_makeNodes_94 : decode cX11_makeNodes 94 = .ok (.getfield 20, 3) := by decide +kernel
theorem dX11_makeNodes_97 : decode cX11_makeNodes 97 = .ok (.iload_n 1, 1) := by decide +kernel
theorem dX11_makeNodes_98 : decode cX11_makeNodes 98 = .ok (.iaload, 1) := by decide +kernel
theorem dX11_makeNodes_99 : decode cX11_makeNodes 99 = .ok (.invokevirtual 135, 3) := by decide +kernel
theorem dX11_makeNodes_102 : decode cX11_makeNodes 102 = .ok (.istore_n 2, 1) := by decide +kernel
theorem dX11_makeNodes_103 : decode cX11_makeNodes 103 = .ok (.aload_n 0, 1) := by decide +kernel
theorem dX11_makeNodes_104 : decode cX11_makeNodes 104 = .ok (.aload_n 0, 1) := by decide +kernel
theorem dX11_makeNodes_105 : decode cX11_makeNodes 105 = .ok (.getfield 23, 3) := by decide +kernel
theorem dX11_makeNodes_108 : decode cX11_makeNodes 108 = .ok (.iload_n 1, 1) := by decide +kernel
theorem dX11_makeNodes_109 : decode cX11_makeNodes 109 = .ok (.iaload, 1) := by decide +kernel
theorem dX11_makeNodes_110 : decode cX11_makeNodes 110 = .ok (.invokevirtual 135, 3) := by decide +kernel
theorem dX11_makeNodes_113 : decode cX11_makeNodes 113 = .ok (.istore_n 3, 1) := by decide +kernel
theorem dX11_makeNodes_114 : decode cX11_makeNodes 114 = .ok (.aload_n 0, 1) := by decide +kernel
theorem dX11_makeNodes_115 : decode cX11_makeNodes 115 = .ok (.getfield 35, 3) := by decide +kernel
theorem dX11_makeNodes_118 : decode cX11_makeNodes 118 = .ok (.bipush 120, 2) := by decide +kernel
theorem dX11_makeNodes_120 : decode cX11_makeNodes 120 = .ok (.iload_n 2, 1) := by decide +kernel
theorem dX11_makeNodes_121 : decode cX11_makeNodes 121 = .ok (.imul, 1) := by decide +kernel
theorem dX11_makeNodes_122 : decode cX11_makeNodes 122 = .ok (.iload_n 3, 1) := by decide +kernel
theorem dX11_makeNodes_123 : decode cX11_makeNodes 123 = .ok (.iadd, 1) := by decide +kernel
theorem dX11_makeNodes_124 : decode cX11_makeNodes 124 = .ok (.aload_n 0, 1) := by decide +kernel
theorem dX11_makeNodes_125 : decode cX11_makeNodes 125 = .ok (.getfield 26, 3) := by decide +kernel
theorem dX11_makeNodes_128 : decode cX11_makeNodes 128 = .ok (.iload_n 1, 1) := by decide +kernel
theorem dX11_makeNodes_129 : decode cX11_makeNodes 129 = .ok (.iaload, 1) := by decide +kernel
theorem dX11_makeNodes_130 : decode cX11_makeNodes 130 = .ok (.iastore, 1) := by decide +kernel
theorem dX11_makeNodes_131 : decode cX11_makeNodes 131 = .ok (.aload_n 0, 1) := by decide +kernel
theorem dX11_makeNodes_132 : decode cX11_makeNodes 132 = .ok (.getfield 35, 3) := by decide +kernel
theorem dX11_makeNodes_135 : decode cX11_makeNodes 135 = .ok (.bipush 120, 2) := by decide +kernel
theorem dX11_makeNodes_137 : decode cX11_makeNodes 137 = .ok (.iload_n 3, 1) := by decide +kernel
theorem dX11_makeNodes_138 : decode cX11_makeNodes 138 = .ok (.imul, 1) := by decide +kernel
theorem dX11_makeNodes_139 : decode cX11_makeNodes 139 = .ok (.iload_n 2, 1) := by decide +kernel
theorem dX11_makeNodes_140 : decode cX11_makeNodes 140 = .ok (.iadd, 1) := by decide +kernel
theorem dX11_makeNodes_141 : decode cX11_makeNodes 141 = .ok (.aload_n 0, 1) := by decide +kernel
theorem dX11_makeNodes_142 : decode cX11_makeNodes 142 = .ok (.getfield 26, 3) := by decide +kernel
theorem dX11_makeNodes_145 : decode cX11_makeNodes 145 = .ok (.iload_n 1, 1) := by decide +kernel
theorem dX11_makeNodes_146 : decode cX11_makeNodes 146 = .ok (.iaload, 1) := by decide +kernel
theorem dX11_makeNodes_147 : decode cX11_makeNodes 147 = .ok (.iastore, 1) := by decide +kernel
theorem dX11_makeNodes_148 : decode cX11_makeNodes 148 = .ok (.iinc 1 1, 3) := by decide +kernel
theorem dX11_makeNodes_151 : decode cX11_makeNodes 151 = .ok (.goto (-67), 3) := by decide +kernel
theorem dX11_makeNodes_154 : decode cX11_makeNodes 154 = .ok (.iconst 0, 1) := by decide +kernel
theorem dX11_makeNodes_155 : decode cX11_makeNodes 155 = .ok (.istore_n 1, 1) := by decide +kernel
theorem dX11_makeNodes_156 : decode cX11_makeNodes 156 = .ok (.iload_n 1, 1) := by decide +kernel
theorem dX11_makeNodes_157 : decode cX11_makeNodes 157 = .ok (.aload_n 0, 1) := by decide +kernel
theorem dX11_makeNodes_158 : decode cX11_makeNodes 158 = .ok (.getfield 131, 3) := by decide +kernel
theorem dX11_makeNodes_161 : decode cX11_makeNodes 161 = .ok (.if_icmp .ge 95, 3) := by decide +kernel
theorem dX11_makeNodes_164 : decode cX11_makeNodes 164 = .ok (.iconst 0, 1) := by decide +kernel
theorem dX11_makeNodes_165 : decode cX11_makeNodes 165 = .ok (.istore_n 2, 1) := by decide +kernel
theorem dX11_makeNodes_166 : decode cX11_makeNodes 166 = .ok (.iload_n 2, 1) := by decide +kernel
theorem dX11_makeNodes_167 : decode cX11_makeNodes 167 = .ok (.aload_n 0, 1) := by decide +kernel
theorem dX11_makeNodes_168 : decode cX11_makeNodes 168 = .ok (.getfield 131, 3) := by decide +kernel
theorem dX11_makeNodes_171 : decode cX11_makeNodes 171 = .ok (.if_icmp .ge 79, 3) := by decide +kernel
theorem dX11_makeNodes_174 : decode cX11_makeNodes 174 = .ok (.iconst 0, 1) := by decide +kernel
theorem dX11_makeNodes_175 : decode cX11_makeNodes 175 = .ok (.istore_n 3, 1) := by decide +kernel
theorem dX11_makeNodes_176 : decode cX11_makeNodes 176 = .ok (.iload_n 3, 1) := by decide +kernel
theorem dX11_makeNodes_177 : decode cX11_makeNodes 177 = .ok (.aload_n 0, 1) := by decide +kernel
theorem dX11_makeNodes_178 : decode cX11_makeNodes 178 = .ok (.getfield 131, 3) := by decide +kernel
theorem dX11_makeNodes_181 : decode cX11_makeNodes 181 = .ok (.if_icmp .ge 63, 3) := by decide +kernel
theorem dX11_makeNodes_184 : decode cX11_makeNodes 184 = .ok (.aload_n 0, 1) := by decide +kernel
theorem dX11_makeNodes_185 : decode cX11_makeNodes 185 = .ok (.getfield 35, 3) := by decide +kernel
theorem dX11_makeNodes_188 : decode cX11_makeNodes 188 = .ok (.bipush 120, 2) := by decide +kernel
theorem dX11_makeNodes_190 : decode cX11_makeNodes 190 = .ok (.iload_n 2, 1) := by decide +kernel
theorem dX11_makeNodes_191 : decode cX11_makeNodes 191 = .ok (.imul, 1) := by decide +kernel
theorem dX11_makeNodes_192 : decode cX11_makeNodes 192 = .ok (.iload_n 1, 1) := by decide +kernel
theorem dX11_makeNodes_193 : decode cX11_makeNodes 193 = .ok (.iadd, 1) := by decide +kernel
theorem dX11_makeNodes_194 : decode cX11_makeNodes 194 = .ok (.iaload, 1) := by decide +kernel
theorem dX11_makeNodes_195 : decode cX11_makeNodes 195 = .ok (.aload_n 0, 1) := by decide +kernel
theorem dX11_makeNodes_196 : decode cX11_makeNodes 196 = .ok (.getfield 35, 3) := by decide +kernel
theorem dX11_makeNodes_199 : decode cX11_makeNodes 199 = .ok (.bipush 120, 2) := by decide +kernel
theorem dX11_makeNodes_201 : decode cX11_makeNodes 201 = .ok (.iload_n 1, 1) := by decide +kernel
theorem dX11_makeNodes_202 : decode cX11_makeNodes 202 = .ok (.imul, 1) := by decide +kernel
theorem dX11_makeNodes_203 : decode cX11_makeNodes 203 = .ok (.iload_n 3, 1) := by decide +kernel
theorem dX11_makeNodes_204 : decode cX11_makeNodes 204 = .ok (.iadd, 1) := by decide +kernel
theorem dX11_makeNodes_205 : decode cX11_makeNodes 205 = .ok (.iaload, 1) := by decide +kernel
theorem dX11_makeNodes_206 : decode cX11_makeNodes 206 = .ok (.iadd, 1) := by decide +kernel
theorem dX11_makeNodes_207 : decode cX11_makeNodes 207 = .ok (.istore 4, 2) := by decide +kernel
theorem dX11_makeNodes_209 : decode cX11_makeNodes 209 = .ok (.iload 4, 2) := by decide +kernel
theorem dX11_makeNodes_211 : decode cX11_makeNodes 211 = .ok (.aload_n 0, 1) := by decide +kernel
theorem dX11_makeNodes_212 : decode cX11_makeNodes 212 = .ok (.getfield 35, 3) := by decide +kernel
theorem dX11_makeNodes_215 : decode cX11_makeNodes 215 = .ok (.bipush 120, 2) := by decide +kernel
theorem dX11_makeNodes_217 : decode cX11_makeNodes 217 = .ok (.iload_n 2, 1) := by decide +kernel
theorem dX11_makeNodes_218 : decode cX11_makeNodes 218 = .ok (.imul, 1) := by decide +kernel
theorem dX11_makeNodes_219 : decode cX11_makeNodes 219 = .ok (.iload_n 3, 1) := by decide +kernel
theorem dX11_makeNodes_220 : decode cX11_makeNodes 220 = .ok (.iadd, 1) := by decide +kernel
theorem dX11_makeNodes_221 : decode cX11_makeNodes 221 = .ok (.iaload, 1) := by decide +kernel
theorem dX11_makeNodes_222 : decode cX11_makeNodes 222 = .ok (.if_icmp .ge 16, 3) := by decide +kernel
theorem dX11_makeNodes_225 : decode cX11_makeNodes 225 = .ok (.aload_n 0, 1) := by decide +kernel
theorem dX11_makeNodes_226 : decode cX11_makeNodes 226 = .ok (.getfield 35, 3) := by decide +kernel
theorem dX11_makeNodes_229 : decode cX11_makeNodes 229 = .ok (.bipush 120, 2) := by decide +kernel
theorem dX11_makeNodes_231 : decode cX11_makeNodes 231 = .ok (.iload_n 2, 1) := by decide +kernel
theorem dX11_makeNodes_232 : decode cX11_makeNodes 232 = .ok (.imul, 1) := by decide +kernel
theorem dX11_makeNodes_233 : decode cX11_makeNodes 233 = .ok (.iload_n 3, 1) := by decide +kernel
theorem dX11_makeNodes_234 : decode cX11_makeNodes 234 = .ok (.iadd, 1) := by decide +kernel
theorem dX11_makeNodes_235 : decode cX11_makeNodes 235 = .ok (.iload 4, 2) := by decide +kernel
theorem dX11_makeNodes_237 : decode cX11_makeNodes 237 = .ok (.iastore, 1) := by decide +kernel
theorem dX11_makeNodes_238 : decode cX11_makeNodes 238 = .ok (.iinc 3 1, 3) := by decide +kernel
theorem dX11_makeNodes_241 : decode cX11_makeNodes 241 = .ok (.goto (-65), 3) := by decide +kernel
theorem dX11_makeNodes_244 : decode cX11_makeNodes 244 = .ok (.iinc 2 1, 3) := by decide +kernel
theorem dX11_makeNodes_247 : decode cX11_makeNodes 247 = .ok (.goto (-81), 3) := by decide +kernel
theorem dX11_makeNodes_250 : decode cX11_makeNodes 250 = .ok (.iinc 1 1, 3) := by decide +kernel
theorem dX11_makeNodes_253 : decode cX11_makeNodes 253 = .ok (.goto (-97), 3) := by decide +kernel
theorem dX11_makeNodes_256 : decode cX11_makeNodes 256 = .ok (.return_, 1) := by decide +kernel
theorem dX11_chainOf_0 : decode cX11_chainOf 0 = .ok (.iload_n 1, 1) := by decide +kernel
theorem dX11_chainOf_1 : decode cX11_chainOf 1 = .ok (.iload_n 2, 1) := by decide +kernel
theorem dX11_chainOf_2 : decode cX11_chainOf 2 = .ok (.if_icmp .ne 5, 3) := by decide +kernel
theorem dX11_chainOf_5 : decode cX11_chainOf 5 = .ok (.iconst 0, 1) := by decide +kernel
theorem dX11_chainOf_6 : decode cX11_chainOf 6 = .ok (.ireturn, 1) := by decide +kernel
theorem dX11_chainOf_7 : decode cX11_chainOf 7 = .ok (.aload_n 0, 1) := by decide +kernel
theorem dX11_chainOf_8 : decode cX11_chainOf 8 = .ok (.iload_n 1, 1) := by decide +kernel
theorem dX11_chainOf_9 : decode cX11_chainOf 9 = .ok (.invokevirtual 127, 3) := by decide +kernel
theorem dX11_chainOf_12 : decode cX11_chainOf 12 = .ok (.istore_n 3, 1) := by decide +kernel
theorem dX11_chainOf_13 : decode cX11_chainOf 13 = .ok (.aload_n 0, 1) := by decide +kernel
theorem dX11_chainOf_14 : decode cX11_chainOf 14 = .ok (.iload_n 2, 1) := by decide +kernel
theorem dX11_chainOf_15 : decode cX11_chainOf 15 = .ok (.invokevirtual 127, 3) := by decide +kernel
theorem dX11_chainOf_18 : decode cX11_chainOf 18 = .ok (.istore 4, 2) := by decide +kernel
theorem dX11_chainOf_20 : decode cX11_chainOf 20 = .ok (.iload_n 3, 1) := by decide +kernel
theorem dX11_chainOf_21 : decode cX11_chainOf 21 = .ok (.iconst (-1), 1) := by decide +kernel
theorem dX11_chainOf_22 : decode cX11_chainOf 22 = .ok (.if_icmp .eq 9, 3) := by decide +kernel
theorem dX11_chainOf_25 : decode cX11_chainOf 25 = .ok (.iload 4, 2) := by decide +kernel
theorem dX11_chainOf_27 : decode cX11_chainOf 27 = .ok (.iconst (-1), 1) := by decide +kernel
theorem dX11_chainOf_28 : decode cX11_chainOf 28 = .ok (.if_icmp .ne 8, 3) := by decide +kernel
theorem dX11_chainOf_31 : decode cX11_chainOf 31 = .ok (.ldc 134, 2) := by decide +kernel
theorem dX11_chainOf_33 : decode cX11_chainOf 33 = .ok (.goto 15, 3) := by decide +kernel
theorem dX11_chainOf_36 : decode cX11_chainOf 36 = .ok (.aload_n 0, 1) := by decide +kernel
theorem dX11_chainOf_37 : decode cX11_chainOf 37 = .ok (.getfield 35, 3) := by decide +kernel
theorem dX11_chainOf_40 : decode cX11_chainOf 40 = .ok (.bipush 120, 2) := by decide +kernel
theorem dX11_chainOf_42 : decode cX11_chainOf 42 = .ok (.iload_n 3, 1) := by decide +kernel
theorem dX11_chainOf_43 : decode cX11_chainOf 43 = .ok (.imul, 1) := by decide +kernel
theorem dX11_chainOf_44 : decode cX11_chainOf 44 = .ok (.iload 4, 2) := by decide +kernel
theorem dX11_chainOf_46 : decode cX11_chainOf 46 = .ok (.iadd, 1) := by decide +kernel
theorem dX11_chainOf_47 : decode cX11_chainOf 47 = .ok (.iaload, 1) := by decide +kernel
theorem dX11_chainOf_48 : decode cX11_chainOf 48 = .ok (.ireturn, 1) := by decide +kernel
theorem dX11_chain_0 : decode cX11_chain 0 = .ok (.iload_n 1, 1) := by decide +kernel
theorem dX11_chain_1 : decode cX11_chain 1 = .ok (.invokestatic 120, 3) := by decide +kernel
theorem dX11_chain_4 : decode cX11_chain 4 = .ok (.ifCond .eq 10, 3) := by decide +kernel
theorem dX11_chain_7 : decode cX11_chain 7 = .ok (.iload_n 2, 1) := by decide +kernel
theorem dX11_chain_8 : decode cX11_chain 8 = .ok (.invokestatic 120, 3) := by decide +kernel
theorem dX11_chain_11 : decode cX11_chain 11 = .ok (.ifCond .ne 6, 3) := by decide +kernel
theorem dX11_chain_14 : decode cX11_chain 14 = .ok (.bipush (-2), 2) := by decide +kernel
theorem dX11_chain_16 : decode cX11_chain 16 = .ok (.ireturn, 1) := by decide +kernel
theorem dX11_chain_17 : decode cX11_chain 17 = .ok (.aload_n 0, 1) := by decide +kernel
theorem dX11_chain_18 : decode cX11_chain 18 = .ok (.iload_n 1, 1) := by decide +kernel
theorem dX11_chain_19 : decode cX11_chain 19 = .ok (.iload_n 2, 1) := by decide +kernel
theorem dX11_chain_20 : decode cX11_chain 20 = .ok (.invokevirtual 138, 3) := by decide +kernel
theorem dX11_chain_23 : decode cX11_chain 23 = .ok (.istore_n 3, 1) := by decide +kernel
theorem dX11_chain_24 : decode cX11_chain 24 = .ok (.iload_n 3, 1) := by decide +kernel
theorem dX11_chain_25 : decode cX11_chain 25 = .ok (.ldc 134, 2) := by decide +kernel
theorem dX11_chain_27 : decode cX11_chain 27 = .ok (.if_icmp .lt 7, 3) := by decide +kernel
theorem dX11_chain_30 : decode cX11_chain 30 = .ok (.iconst (-1), 1) := by decide +kernel
theorem dX11_chain_31 : decode cX11_chain 31 = .ok (.goto 4, 3) := by decide +kernel
theorem dX11_chain_34 : decode cX11_chain 34 = .ok (.iload_n 3, 1) := by decide +kernel
theorem dX11_chain_35 : decode cX11_chain 35 = .ok (.ireturn, 1) := by decide +kernel
theorem dX11_allow_0 : decode cX11_allow 0 = .ok (.iload_n 1, 1) := by decide +kernel
theorem dX11_allow_1 : decode cX11_allow 1 = .ok (.iconst 2, 1) := by decide +kernel
theorem dX11_allow_2 : decode cX11_allow 2 = .ok (.sipush 254, 3) := by decide +kernel
theorem dX11_allow_5 : decode cX11_allow 5 = .ok (.invokestatic 106, 3) := by decide +kernel
theorem dX11_allow_8 : decode cX11_allow 8 = .ok (.ifCond .eq 9, 3) := by decide +kernel
theorem dX11_allow_11 : decode cX11_allow 11 = .ok (.iload_n 1, 1) := by decide +kernel
theorem dX11_allow_12 : decode cX11_allow 12 = .ok (.iconst 1, 1) := by decide +kernel
theorem dX11_allow_13 : decode cX11_allow 13 = .ok (.iand, 1) := by decide +kernel
theorem dX11_allow_14 : decode cX11_allow 14 = .ok (.ifCond .eq 6, 3) := by decide +kernel
theorem dX11_allow_17 : decode cX11_allow 17 = .ok (.bipush (-2), 2) := by decide +kernel
theorem dX11_allow_19 : decode cX11_allow 19 = .ok (.ireturn, 1) := by decide +kernel
theorem dX11_allow_20 : decode cX11_allow 20 = .ok (.iconst 0, 1) := by decide +kernel
theorem dX11_allow_21 : decode cX11_allow 21 = .ok (.istore_n 2, 1) := by decide +kernel
theorem dX11_allow_22 : decode cX11_allow 22 = .ok (.iload_n 2, 1) := by decide +kernel
theorem dX11_allow_23 : decode cX11_allow 23 = .ok (.aload_n 0, 1) := by decide +kernel
theorem dX11_allow_24 : decode cX11_allow 24 = .ok (.getfield 141, 3) := by decide +kernel
theorem dX11_allow_27 : decode cX11_allow 27 = .ok (.if_icmp .ge 24, 3) := by decide +kernel
theorem dX11_allow_30 : decode cX11_allow 30 = .ok (.aload_n 0, 1) := by decide +kernel
theorem dX11_allow_31 : decode cX11_allow 31 = .ok (.getfield 38, 3) := by decide +kernel
theorem dX11_allow_34 : decode cX11_allow 34 = .ok (.iload_n 2, 1) := by decide +kernel
theorem dX11_allow_35 : decode cX11_allow 35 = .ok (.iaload, 1) := by decide +kernel
theorem dX11_allow_36 : decode cX11_allow 36 = .ok (.iload_n 1, 1) := by decide +kernel
theorem dX11_allow_37 : decode cX11_allow 37 = .ok (.if_icmp .ne 8, 3) := by decide +kernel
theorem dX11_allow_40 : decode cX11_allow 40 = .ok (.aload_n 0, 1) := by decide +kernel
theorem dX11_allow_41 : decode cX11_allow 41 = .ok (.getfield 141, 3) := by decide +kernel
theorem dX11_allow_44 : decode cX11_allow 44 = .ok (.ireturn, 1) := by decide +kernel
theorem dX11_allow_45 : decode cX11_allow 45 = .ok (.iinc 2 1, 3) := by decide +kernel
theorem dX11_allow_48 : decode cX11_allow 48 = .ok (.goto (-26), 3) := by decide +kernel
theorem dX11_allow_51 : decode cX11_allow 51 = .ok (.aload_n 0, 1) := by decide +kernel
theorem dX11_allow_52 : decode cX11_allow 52 = .ok (.getfield 141, 3) := by decide +kernel
theorem dX11_allow_55 : decode cX11_allow 55 = .ok (.bipush 8, 2) := by decide +kernel
theorem dX11_allow_57 : decode cX11_allow 57 = .ok (.if_icmp .ne 6, 3) := by decide +kernel
theorem dX11_allow_60 : decode cX11_allow 60 = .ok (.bipush (-3), 2) := by decide +kernel
theorem dX11_allow_62 : decode cX11_allow 62 = .ok (.ireturn, 1) := by decide +kernel
theorem dX11_allow_63 : decode cX11_allow 63 = .ok (.aload_n 0, 1) := by decide +kernel
theorem dX11_allow_64 : decode cX11_allow 64 = .ok (.getfield 38, 3) := by decide +kernel
theorem dX11_allow_67 : decode cX11_allow 67 = .ok (.aload_n 0, 1) := by decide +kernel
theorem dX11_allow_68 : decode cX11_allow 68 = .ok (.getfield 141, 3) := by decide +kernel
theorem dX11_allow_71 : decode cX11_allow 71 = .ok (.iload_n 1, 1) := by decide +kernel
theorem dX11_allow_72 : decode cX11_allow 72 = .ok (.iastore, 1) := by decide +kernel
theorem dX11_allow_73 : decode cX11_allow 73 = .ok (.aload_n 0, 1) := by decide +kernel
theorem dX11_allow_74 : decode cX11_allow 74 = .ok (.dup, 1) := by decide +kernel
theorem dX11_allow_75 : decode cX11_allow 75 = .ok (.getfield 141, 3) := by decide +kernel
theorem dX11_allow_78 : decode cX11_allow 78 = .ok (.iconst 1, 1) := by decide +kernel
theorem dX11_allow_79 : decode cX11_allow 79 = .ok (.iadd, 1) := by decide +kernel
theorem dX11_allow_80 : decode cX11_allow 80 = .ok (.putfield 141, 3) := by decide +kernel
theorem dX11_allow_83 : decode cX11_allow 83 = .ok (.aload_n 0, 1) := by decide +kernel
theorem dX11_allow_84 : decode cX11_allow 84 = .ok (.getfield 141, 3) := by decide +kernel
theorem dX11_allow_87 : decode cX11_allow 87 = .ok (.ireturn, 1) := by decide +kernel
theorem dX11_see_0 : decode cX11_see 0 = .ok (.iconst 0, 1) := by decide +kernel
theorem dX11_see_1 : decode cX11_see 1 = .ok (.istore_n 3, 1) := by decide +kernel
theorem dX11_see_2 : decode cX11_see 2 = .ok (.iconst 0, 1) := by decide +kernel
theorem dX11_see_3 : decode cX11_see 3 = .ok (.istore 4, 2) := by decide +kernel
theorem dX11_see_5 : decode cX11_see 5 = .ok (.iconst 0, 1) := by decide +kernel
theorem dX11_see_6 : decode cX11_see 6 = .ok (.istore 5, 2) := by decide +kernel
theorem dX11_see_8 : decode cX11_see 8 = .ok (.iconst 0, 1) := by decide +kernel
theorem dX11_see_9 : decode cX11_see 9 = .ok (.istore 6, 2) := by decide +kernel
theorem dX11_see_11 : decode cX11_see 11 = .ok (.iload 6, 2) := by decide +kernel
theorem dX11_see_13 : decode cX11_see 13 = .ok (.aload_n 0, 1) := by decide +kernel
theorem dX11_see_14 : decode cX11_see 14 = .ok (.getfield 44, 3) := by decide +kernel
theorem dX11_see_17 : decode cX11_see 17 = .ok (.iload_n 1, 1) := by decide +kernel
theorem dX11_see_18 : decode cX11_see 18 = .ok (.iaload, 1) := by decide +kernel
theorem dX11_see_19 : decode cX11_see 19 = .ok (.if_icmp .ge 82, 3) := by decide +kernel
theorem dX11_see_22 : decode cX11_see 22 = .ok (.aload_n 0, 1) := by decide +kernel
theorem dX11_see_23 : decode cX11_see 23 = .ok (.getfield 41, 3) := by decide +kernel
theorem dX11_see_26 : decode cX11_see 26 = .ok (.bipush 40, 2) := by decide +kernel
theorem dX11_see_28 : decode cX11_see 28 = .ok (.iload_n 1, 1) := by decide +kernel
theorem dX11_see_29 : decode cX11_see 29 = .ok (.imul, 1) := by decide +kernel
theorem dX11_see_30 : decode cX11_see 30 = .ok (.iload 6, 2) := by decide +kernel
theorem dX11_see_32 : decode cX11_see 32 = .ok (.iadd, 1) := by decide +kernel
theorem dX11_see_33 : decode cX11_see 33 = .ok (.baload, 1) := by decide +kernel
theorem dX11_see_34 : decode cX11_see 34 = .ok (.istore 7, 2) := by decide +kernel
theorem dX11_see_36 : decode cX11_see 36 = .ok (.aload_n 0, 1) := by decide +kernel
theorem dX11_see_37 : decode cX11_see 37 = .ok (.getfield 13, 3) := by decide +kernel
theorem dX11_see_40 : decode cX11_see 40 = .ok (.iload 7, 2) := by decide +kernel
theorem dX11_see_42 : decode cX11_see 42 = .ok (.iaload, 1) := by decide +kernel
theorem dX11_see_43 : decode cX11_see 43 = .ok (.iconst 2, 1) := by decide +kernel
theorem dX11_see_44 : decode cX11_see 44 = .ok (.if_icmp .ne 33, 3) := by decide +kernel
theorem dX11_see_47 : decode cX11_see 47 = .ok (.iload 5, 2) := by decide +kernel
theorem dX11_see_49 : decode cX11_see 49 = .ok (.ifCond .eq 10, 3) := by decide +kernel
theorem dX11_see_52 : decode cX11_see 52 = .ok (.aload_n 2, 1) := by decide +kernel
theorem dX11_see_53 : decode cX11_see 53 = .ok (.iload 4, 2) := by decide +kernel
theorem dX11_see_55 : decode cX11_see 55 = .ok (.iload_n 3, 1) := by decide +kernel
theorem dX11_see_56 : decode cX11_see 56 = .ok (.invokestatic 144, 3) := by decide +kernel
theorem dX11_see_59 : decode cX11_see 59 = .ok (.iload 5, 2) := by decide +kernel
theorem dX11_see_61 : decode cX11_see 61 = .ok (.ifCond .ne 7, 3) := by decide +kernel
theorem dX11_see_64 : decode cX11_see 64 = .ok (.iconst 1, 1) := by decide +kernel
theorem dX11_see_65 : decode cX11_see 65 = .ok (.goto 4, 3) := by decide +kernel
theorem dX11_see_68 : decode cX11_see 68 = .ok (.iconst 0, 1) := by decide +kernel
theorem dX11_see_69 : decode cX11_see 69 = .ok (.istore 5, 2) := by decide +kernel
theorem dX11_see_71 : decode cX11_see 71 = .ok (.iload_n 3, 1) := by decide +kernel
theorem dX11_see_72 : decode cX11_see 72 = .ok (.istore 4, 2) := by decide +kernel
theorem dX11_see_74 : decode cX11_see 74 = .ok (.goto 21, 3) := by decide +kernel
theorem dX11_see_77 : decode cX11_see 77 = .ok (.aload_n 0, 1) := by decide +kernel
theorem dX11_see_78 : decode cX11_see 78 = .ok (.getfield 13, 3) := by decide +kernel
theorem dX11_see_81 : decode cX11_see 81 = .ok (.iload 7, 2) := by decide +kernel
theorem dX11_see_83 : decode cX11_see 83 = .ok (.iaload, 1) := by decide +kernel
theorem dX11_see_84 : decode cX11_see 84 = .ok (.ifCond .ne 11, 3) := by decide +kernel
theorem dX11_see_87 : decode cX11_see 87 = .ok (.aload_n 2, 1) := by decide +kernel
theorem dX11_see_88 : decode cX11_see 88 = .ok (.iload_n 3, 1) := by decide +kernel
theorem dX11_see_89 : decode cX11_see 89 = .ok (.iload 7, 2) := by decide +kernel
theorem dX11_see_91 : decode cX11_see 91 = .ok (.iastore, 1) := by decide +kernel
theorem dX11_see_92 : decode cX11_see 92 = .ok (.iinc 3 1, 3) := by decide +kernel
theorem dX11_see_95 : decode cX11_see 95 = .ok (.iinc 6 1, 3) := by decide +kernel
theorem dX11_see_98 : decode cX11_see 98 = .ok (.goto (-87), 3) := by decide +kernel
theorem dX11_see_101 : decode cX11_see 101 = .ok (.iload 5, 2) := by decide +kernel
theorem dX11_see_103 : decode cX11_see 103 = .ok (.ifCond .eq 10, 3) := by decide +kernel
theorem dX11_see_106 : decode cX11_see 106 = .ok (.aload_n 2, 1) := by decide +kernel
theorem dX11_see_107 : decode cX11_see 107 = .ok (.iload 4, 2) := by decide +kernel
theorem dX11_see_109 : decode cX11_see 109 = .ok (.iload_n 3, 1) := by decide +kernel
theorem dX11_see_110 : decode cX11_see 110 = .ok (.invokestatic 144, 3) := by decide +kernel
theorem dX11_see_113 : decode cX11_see 113 = .ok (.iload_n 3, 1) := by decide +kernel
theorem dX11_see_114 : decode cX11_see 114 = .ok (.ireturn, 1) := by decide +kernel
theorem dX11_turn_0 : decode cX11_turn 0 = .ok (.iload_n 1, 1) := by decide +kernel
theorem dX11_turn_1 : decode cX11_turn 1 = .ok (.istore_n 3, 1) := by decide +kernel
theorem dX11_turn_2 : decode cX11_turn 2 = .ok (.iload_n 2, 1) := by decide +kernel
theorem dX11_turn_3 : decode cX11_turn 3 = .ok (.iconst 1, 1) := by decide +kernel
theorem dX11_turn_4 : decode cX11_turn 4 = .ok (.isub, 1) := by decide +kernel
theorem dX11_turn_5 : decode cX11_turn 5 = .ok (.istore 4, 2) := by decide +kernel
theorem dX11_turn_7 : decode cX11_turn 7 = .ok (.iload_n 3, 1) := by decide +kernel
theorem dX11_turn_8 : decode cX11_turn 8 = .ok (.iload 4, 2) := by decide +kernel
theorem dX11_turn_10 : decode cX11_turn 10 = .ok (.if_icmp .ge 30, 3) := by decide +kernel
theorem dX11_turn_13 : decode cX11_turn 13 = .ok (.aload_n 0, 1) := by decide +kernel
theorem dX11_turn_14 : decode cX11_turn 14 = .ok (.iload_n 3, 1) := by decide +kernel
theorem dX11_turn_15 : decode cX11_turn 15 = .ok (.iaload, 1) := by decide +kernel
theorem dX11_turn_16 : decode cX11_turn 16 = .ok (.istore 5, 2) := by decide +kernel
theorem dX11_turn_18 : decode cX11_turn 18 = .ok (.aload_n 0, 1) := by decide +kernel
theorem dX11_turn_19 : decode cX11_turn 19 = .ok (.iload_n 3, 1) := by decide +kernel
theorem dX11_turn_20 : decode cX11_turn 20 = .ok (.aload_n 0, 1) := by decide +kernel
theorem dX11_turn_21 : decode cX11_turn 21 = .ok (.iload 4, 2) := by decide +kernel
theorem dX11_turn_23 : decode cX11_turn 23 = .ok (.iaload, 1) := by decide +kernel
theorem dX11_turn_24 : decode cX11_turn 24 = .ok (.iastore, 1) := by decide +kernel
theorem dX11_turn_25 : decode cX11_turn 25 = .ok (.aload_n 0, 1) := by decide +kernel
theorem dX11_turn_26 : decode cX11_turn 26 = .ok (.iload 4, 2) := by decide +kernel
theorem dX11_turn_28 : decode cX11_turn 28 = .ok (.iload 5, 2) := by decide +kernel
theorem dX11_turn_30 : decode cX11_turn 30 = .ok (.iastore, 1) := by decide +kernel
theorem dX11_turn_31 : decode cX11_turn 31 = .ok (.iinc 3 1, 3) := by decide +kernel
theorem dX11_turn_34 : decode cX11_turn 34 = .ok (.iinc 4 (-1), 3) := by decide +kernel
theorem dX11_turn_37 : decode cX11_turn 37 = .ok (.goto (-30), 3) := by decide +kernel
theorem dX11_turn_40 : decode cX11_turn 40 = .ok (.return_, 1) := by decide +kernel
theorem dX11_wrong_0 : decode cX11_wrong 0 = .ok (.aload_n 0, 1) := by decide +kernel
theorem dX11_wrong_1 : decode cX11_wrong 1 = .ok (.iload_n 1, 1) := by decide +kernel
theorem dX11_wrong_2 : decode cX11_wrong 2 = .ok (.putfield 148, 3) := by decide +kernel
theorem dX11_wrong_5 : decode cX11_wrong 5 = .ok (.aload_n 0, 1) := by decide +kernel
theorem dX11_wrong_6 : decode cX11_wrong 6 = .ok (.iload_n 2, 1) := by decide +kernel
theorem dX11_wrong_7 : decode cX11_wrong 7 = .ok (.putfield 47, 3) := by decide +kernel
theorem dX11_wrong_10 : decode cX11_wrong 10 = .ok (.iconst 0, 1) := by decide +kernel
theorem dX11_wrong_11 : decode cX11_wrong 11 = .ok (.ireturn, 1) := by decide +kernel
theorem dX11_readName_0 : decode cX11_readName 0 = .ok (.iconst 0, 1) := by decide +kernel
theorem dX11_readName_1 : decode cX11_readName 1 = .ok (.istore_n 2, 1) := by decide +kernel
theorem dX11_readName_2 : decode cX11_readName 2 = .ok (.iload_n 2, 1) := by decide +kernel
theorem dX11_readName_3 : decode cX11_readName 3 = .ok (.iload_n 1, 1) := by decide +kernel
theorem dX11_readName_4 : decode cX11_readName 4 = .ok (.if_icmp .ge 41, 3) := by decide +kernel
theorem dX11_readName_7 : decode cX11_readName 7 = .ok (.aload_n 0, 1) := by decide +kernel
theorem dX11_readName_8 : decode cX11_readName 8 = .ok (.getfield 16, 3) := by decide +kernel
theorem dX11_readName_11 : decode cX11_readName 11 = .ok (.iload_n 2, 1) := by decide +kernel
theorem dX11_readName_12 : decode cX11_readName 12 = .ok (.baload, 1) := by decide +kernel
theorem dX11_readName_13 : decode cX11_readName 13 = .ok (.invokestatic 113, 3) := by decide +kernel
theorem dX11_readName_16 : decode cX11_readName 16 = .ok (.ifCond .ne 10, 3) := by decide +kernel
theorem dX11_readName_19 : decode cX11_readName 19 = .ok (.aload_n 0, 1) := by decide +kernel
theorem dX11_readName_20 : decode cX11_readName 20 = .ok (.iconst 1, 1) := by decide +kernel
theorem dX11_readName_21 : decode cX11_readName 21 = .ok (.iload_n 2, 1) := by decide +kernel
theorem dX11_readName_22 : decode cX11_readName 22 = .ok (.invokevirtual 151, 3) := by decide +kernel
theorem dX11_readName_25 : decode cX11_readName 25 = .ok (.ireturn, 1) := by decide +kernel
theorem dX11_readName_26 : decode cX11_readName 26 = .ok (.iload_n 2, 1) := by decide +kernel
theorem dX11_readName_27 : decode cX11_readName 27 = .ok (.bipush 40, 2) := by decide +kernel
theorem dX11_readName_29 : decode cX11_readName 29 = .ok (.if_icmp .ne 10, 3) := by decide +kernel
theorem dX11_readName_32 : decode cX11_readName 32 = .ok (.aload_n 0, 1) := by decide +kernel
theorem dX11_readName_33 : decode cX11_readName 33 = .ok (.iconst 2, 1) := by decide +kernel
theorem dX11_readName_34 : decode cX11_readName 34 = .ok (.iload_n 2, 1) := by decide +kernel
theorem dX11_readName_35 : decode cX11_readName 35 = .ok (.invokevirtual 151, 3) := by decide +kernel
theorem dX11_readName_38 : decode cX11_readName 38 = .ok (.ireturn, 1) := by decide +kernel
theorem dX11_readName_39 : decode cX11_readName 39 = .ok (.iinc 2 1, 3) := by decide +kernel
theorem dX11_readName_42 : decode cX11_readName 42 = .ok (.goto (-40), 3) := by decide +kernel
theorem dX11_readName_45 : decode cX11_readName 45 = .ok (.iconst 0, 1) := by decide +kernel
theorem dX11_readName_46 : decode cX11_readName 46 = .ok (.istore_n 2, 1) := by decide +kernel
theorem dX11_readName_47 : decode cX11_readName 47 = .ok (.iconst 0, 1) := by decide +kernel
theorem dX11_readName_48 : decode cX11_readName 48 = .ok (.istore_n 3, 1) := by decide +kernel
theorem dX11_readName_49 : decode cX11_readName 49 = .ok (.iload_n 3, 1) := by decide +kernel
theorem dX11_readName_50 : decode cX11_readName 50 = .ok (.iload_n 1, 1) := by decide +kernel
theorem dX11_readName_51 : decode cX11_readName 51 = .ok (.if_icmp .ge 31, 3) := by decide +kernel
theorem dX11_readName_54 : decode cX11_readName 54 = .ok (.iload_n 2, 1) := by decide +kernel
theorem dX11_readName_55 : decode cX11_readName 55 = .ok (.aload_n 0, 1) := by decide +kernel
theorem dX11_readName_56 : decode cX11_readName 56 = .ok (.getfield 13, 3) := by decide +kernel
theorem dX11_readName_59 : decode cX11_readName 59 = .ok (.aload_n 0, 1) := by decide +kernel
theorem dX11_readName_60 : decode cX11_readName 60 = .ok (.getfield 16, 3) := by decide +kernel
theorem dX11_readName_63 : decode cX11_readName 63 = .ok (.iload_n 3, 1) := by decide +kernel
theorem dX11_readName_64 : decode cX11_readName 64 = .ok (.baload, 1) := by decide +kernel
theorem dX11_readName_65 : decode cX11_readName 65 = .ok (.iaload, 1) := by decide +kernel
theorem dX11_readName_66 : decode cX11_readName 66 = .ok (.ifCond .ne 7, 3) := by decide +kernel
theorem dX11_readName_69 : decode cX11_readName 69 = .ok (.iconst 1, 1) := by decide +kernel
theorem dX11_readName_70 : decode cX11_readName 70 = .ok (.goto 4, 3) := by decide +kernel
theorem dX11_readName_73 : decode cX11_readName 73 = .ok (.iconst 0, 1) := by decide +kernel
theorem dX11_readName_74 : decode cX11_readName 74 = .ok (.iadd, 1) := by decide +kernel
theorem dX11_readName_75 : decode cX11_readName 75 = .ok (.istore_n 2, 1) := by decide +kernel
theorem dX11_readName_76 : decode cX11_readName 76 = .ok (.iinc 3 1, 3) := by decide +kernel
theorem dX11_readName_79 : decode cX11_readName 79 = .ok (.goto (-30), 3) := by decide +kernel
theorem dX11_readName_82 : decode cX11_readName 82 = .ok (.iload_n 2, 1) := by decide +kernel
theorem dX11_readName_83 : decode cX11_readName 83 = .ok (.ifCond .ne 10, 3) := by decide +kernel
theorem dX11_readName_86 : decode cX11_readName 86 = .ok (.aload_n 0, 1) := by decide +kernel
theorem dX11_readName_87 : decode cX11_readName 87 = .ok (.iconst 3, 1) := by decide +kernel
theorem dX11_readName_88 : decode cX11_readName 88 = .ok (.iload_n 1, 1) := by decide +kernel
theorem dX11_readName_89 : decode cX11_readName 89 = .ok (.invokevirtual 151, 3) := by decide +kernel
theorem dX11_readName_92 : decode cX11_readName 92 = .ok (.ireturn, 1) := by decide +kernel
theorem dX11_readName_93 : decode cX11_readName 93 = .ok (.iload_n 2, 1) := by decide +kernel
theorem dX11_readName_94 : decode cX11_readName 94 = .ok (.bipush 24, 2) := by decide +kernel
theorem dX11_readName_96 : decode cX11_readName 96 = .ok (.if_icmp .le 12, 3) := by decide +kernel
theorem dX11_readName_99 : decode cX11_readName 99 = .ok (.aload_n 0, 1) := by decide +kernel
theorem dX11_readName_100 : decode cX11_readName 100 = .ok (.iconst 4, 1) := by decide +kernel
theorem dX11_readName_101 : decode cX11_readName 101 = .ok (.iload_n 1, 1) := by decide +kernel
theorem dX11_readName_102 : decode cX11_readName 102 = .ok (.invokevirtual 151, 3) := by decide +kernel
theorem dX11_readName_105 : decode cX11_readName 105 = .ok (.ifCond .eq 7, 3) := by decide +kernel
theorem dX11_readName_108 : decode cX11_readName 108 = .ok (.iconst 1, 1) := by decide +kernel
theorem dX11_readName_109 : decode cX11_readName 109 = .ok (.goto 4, 3) := by decide +kernel
theorem dX11_readName_112 : decode cX11_readName 112 = .ok (.iconst 0, 1) := by decide +kernel
theorem dX11_readName_113 : decode cX11_readName 113 = .ok (.ireturn, 1) := by decide +kernel
theorem dX11_name_0 : decode cX11_name 0 = .ok (.aload_n 0, 1) := by decide +kernel
theorem dX11_name_1 : decode cX11_name 1 = .ok (.getfield 110, 3) := by decide +kernel
theorem dX11_name_4 : decode cX11_name 4 = .ok (.istore_n 1, 1) := by decide +kernel
theorem dX11_name_5 : decode cX11_name 5 = .ok (.aload_n 0, 1) := by decide +kernel
theorem dX11_name_6 : decode cX11_name 6 = .ok (.iconst 0, 1) := by decide +kernel
theorem dX11_name_7 : decode cX11_name 7 = .ok (.putfield 110, 3) := by decide +kernel
theorem dX11_name_10 : decode cX11_name 10 = .ok (.aload_n 0, 1) := by decide +kernel
theorem dX11_name_11 : decode cX11_name 11 = .ok (.iconst 0, 1) := by decide +kernel
theorem dX11_name_12 : decode cX11_name 12 = .ok (.putfield 148, 3) := by decide +kernel
theorem dX11_name_15 : decode cX11_name 15 = .ok (.aload_n 0, 1) := by decide +kernel
theorem dX11_name_16 : decode cX11_name 16 = .ok (.iconst (-1), 1) := by decide +kernel
theorem dX11_name_17 : decode cX11_name 17 = .ok (.putfield 47, 3) := by decide +kernel
theorem dX11_name_20 : decode cX11_name 20 = .ok (.aload_n 0, 1) := by decide +kernel
theorem dX11_name_21 : decode cX11_name 21 = .ok (.iload_n 1, 1) := by decide +kernel
theorem dX11_name_22 : decode cX11_name 22 = .ok (.invokevirtual 155, 3) := by decide +kernel
theorem dX11_name_25 : decode cX11_name 25 = .ok (.ifCond .ne 5, 3) := by decide +kernel
theorem dX11_name_28 : decode cX11_name 28 = .ok (.iconst (-1), 1) := by decide +kernel
theorem dX11_name_29 : decode cX11_name 29 = .ok (.ireturn, 1) := by decide +kernel
theorem dX11_name_30 : decode cX11_name 30 = .ok (.iconst 0, 1) := by decide +kernel
theorem dX11_name_31 : decode cX11_name 31 = .ok (.istore_n 2, 1) := by decide +kernel
theorem dX11_name_32 : decode cX11_name 32 = .ok (.iload_n 2, 1) := by decide +kernel
theorem dX11_name_33 : decode cX11_name 33 = .ok (.iload_n 1, 1) := by decide +kernel
theorem dX11_name_34 : decode cX11_name 34 = .ok (.if_icmp .ge 25, 3) := by decide +kernel
theorem dX11_name_37 : decode cX11_name 37 = .ok (.aload_n 0, 1) := by decide +kernel
theorem dX11_name_38 : decode cX11_name 38 = .ok (.getfield 41, 3) := by decide +kernel
theorem dX11_name_41 : decode cX11_name 41 = .ok (.sipush 8000, 3) := by decide +kernel
theorem dX11_name_44 : decode cX11_name 44 = .ok (.iload_n 2, 1) := by decide +kernel
theorem dX11_name_45 : decode cX11_name 45 = .ok (.iadd, 1) := by decide +kernel
theorem dX11_name_46 : decode cX11_name 46 = .ok (.aload_n 0, 1) := by decide +kernel
theorem dX11_name_47 : decode cX11_name 47 = .ok (.getfield 16, 3) := by decide +kernel
theorem dX11_name_50 : decode cX11_name 50 = .ok (.iload_n 2, 1) := by decide +kernel
theorem dX11_name_51 : decode cX11_name 51 = .ok (.baload, 1) := by decide +kernel
theorem dX11_name_52 : decode cX11_name 52 = .ok (.bastore, 1) := by decide +kernel
theorem dX11_name_53 : decode cX11_name 53 = .ok (.iinc 2 1, 3) := by decide +kernel
theorem dX11_name_56 : decode cX11_name 56 = .ok (.goto (-24), 3) := by decide +kernel
theorem dX11_name_59 : decode cX11_name 59 = .ok (.aload_n 0, 1) := by decide +kernel
theorem dX11_name_60 : decode cX11_name 60 = .ok (.getfield 44, 3) := by decide +kernel
theorem dX11_name_63 : decode cX11_name 63 = .ok (.sipush 200, 3) := by decide +kernel
theorem dX11_name_66 : decode cX11_name 66 = .ok (.iload_n 1, 1) := by decide +kernel
theorem dX11_name_67 : decode cX11_name 67 = .ok (.iastore, 1) := by decide +kernel
theorem dX11_name_68 : decode cX11_name 68 = .ok (.aload_n 0, 1) := by decide +kernel
theorem dX11_name_69 : decode cX11_name 69 = .ok (.iconst 1, 1) := by decide +kernel
theorem dX11_name_70 : decode cX11_name 70 = .ok (.putfield 158, 3) := by decide +kernel
theorem dX11_name_73 : decode cX11_name 73 = .ok (.aload_n 0, 1) := by decide +kernel
theorem dX11_name_74 : decode cX11_name 74 = .ok (.sipush 200, 3) := by decide +kernel
theorem dX11_name_77 : decode cX11_name 77 = .ok (.aload_n 0, 1) := by decide +kernel
theorem dX11_name_78 : decode cX11_name 78 = .ok (.getfield 51, 3) := by decide +kernel
theorem dX11_name_81 : decode cX11_name 81 = .ok (.invokevirtual 162, 3) := by decide +kernel
theorem dX11_name_84 : decode cX11_name 84 = .ok (.ireturn, 1) := by decide +kernel
theorem dX11_fault_0 : decode cX11_fault 0 = .ok (.iload_n 1, 1) := by decide +kernel
theorem dX11_fault_1 : decode cX11_fault 1 = .ok (.ifCond .ne 10, 3) := by decide +kernel
theorem dX11_fault_4 : decode cX11_fault 4 = .ok (.aload_n 0, 1) := by decide +kernel
theorem dX11_fault_5 : decode cX11_fault 5 = .ok (.getfield 148, 3) := by decide +kernel
theorem dX11_fault_8 : decode cX11_fault 8 = .ok (.goto 16, 3) := by decide +kernel
theorem dX11_fault_11 : decode cX11_fault 11 = .ok (.iload_n 1, 1) := by decide +kernel
theorem dX11_fault_12 : decode cX11_fault 12 = .ok (.iconst 1, 1) := by decide +kernel
theorem dX11_fault_13 : decode cX11_fault 13 = .ok (.if_icmp .ne 10, 3) := by decide +kernel
theorem dX11_fault_16 : decode cX11_fault 16 = .ok (.aload_n 0, 1) := by decide +kernel
theorem dX11_fault_17 : decode cX11_fault 17 = .ok (.getfield 47, 3) := by decide +kernel
theorem dX11_fault_20 : decode cX11_fault 20 = .ok (.goto 4, 3) := by decide +kernel
theorem dX11_fault_23 : decode cX11_fault 23 = .ok (.iconst (-1), 1) := by decide +kernel
theorem dX11_fault_24 : decode cX11_fault 24 = .ok (.ireturn, 1) := by decide +kernel
theorem dX11_scripts_0 : decode cX11_scripts 0 = .ok (.iconst 0, 1) := by decide +kernel
theorem dX11_scripts_1 : decode cX11_scripts 1 = .ok (.istore_n 1, 1) := by decide +kernel
theorem dX11_scripts_2 : decode cX11_scripts 2 = .ok (.aload_n 0, 1) := by decide +kernel
theorem dX11_scripts_3 : decode cX11_scripts 3 = .ok (.sipush 200, 3) := by decide +kernel
theorem dX11_scripts_6 : decode cX11_scripts 6 = .ok (.aload_n 0, 1) := by decide +kernel
theorem dX11_scripts_7 : decode cX11_scripts 7 = .ok (.getfield 51, 3) := by decide +kernel
theorem dX11_scripts_10 : decode cX11_scripts 10 = .ok (.invokevirtual 162, 3) := by decide +kernel
theorem dX11_scripts_13 : decode cX11_scripts 13 = .ok (.istore_n 2, 1) := by decide +kernel
theorem dX11_scripts_14 : decode cX11_scripts 14 = .ok (.iconst 0, 1) := by decide +kernel
theorem dX11_scripts_15 : decode cX11_scripts 15 = .ok (.istore_n 3, 1) := by decide +kernel
theorem dX11_scripts_16 : decode cX11_scripts 16 = .ok (.iload_n 3, 1) := by decide +kernel
theorem dX11_scripts_17 : decode cX11_scripts 17 = .ok (.iload_n 2, 1) := by decide +kernel
theorem dX11_scripts_18 : decode cX11_scripts 18 = .ok (.if_icmp .ge 25, 3) := by decide +kernel
theorem dX11_scripts_21 : decode cX11_scripts 21 = .ok (.iload_n 1, 1) := by decide +kernel
theorem dX11_scripts_22 : decode cX11_scripts 22 = .ok (.iconst 1, 1) := by decide +kernel
theorem dX11_scripts_23 : decode cX11_scripts 23 = .ok (.aload_n 0, 1) := by decide +kernel
theorem dX11_scripts_24 : decode cX11_scripts 24 = .ok (.getfield 7, 3) := by decide +kernel
theorem dX11_scripts_27 : decode cX11_scripts 27 = .ok (.aload_n 0, 1) := by decide +kernel
theorem dX11_scripts_28 : decode cX11_scripts 28 = .ok (.getfield 51, 3) := by decide +kernel
theorem dX11_scripts_31 : decode cX11_scripts 31 = .ok (.iload_n 3, 1) := by decide +kernel
theorem dX11_scripts_32 : decode cX11_scripts 32 = .ok (.iaload, 1) := by decide +kernel
theorem dX11_scripts_33 : decode cX11_scripts 33 = .ok (.iaload, 1) := by decide +kernel
theorem dX11_scripts_34 : decode cX11_scripts 34 = .ok (.ishl, 1) := by decide +kernel
theorem dX11_scripts_35 : decode cX11_scripts 35 = .ok (.ior, 1) := by decide +kernel
theorem dX11_scripts_36 : decode cX11_scripts 36 = .ok (.istore_n 1, 1) := by decide +kernel
theorem dX11_scripts_37 : decode cX11_scripts 37 = .ok (.iinc 3 1, 3) := by decide +kernel
theorem dX11_scripts_40 : decode cX11_scripts 40 = .ok (.goto (-24), 3) := by decide +kernel
theorem dX11_scripts_43 : decode cX11_scripts 43 = .ok (.iload_n 1, 1) := by decide +kernel
theorem dX11_scripts_44 : decode cX11_scripts 44 = .ok (.sipush 254, 3) := by decide +kernel
theorem dX11_scripts_47 : decode cX11_scripts 47 = .ok (.iand, 1) := by decide +kernel
theorem dX11_scripts_48 : decode cX11_scripts 48 = .ok (.ireturn, 1) := by decide +kernel
theorem dX11_isMixed_0 : decode cX11_isMixed 0 = .ok (.aload_n 0, 1) := by decide +kernel
theorem dX11_isMixed_1 : decode cX11_isMixed 1 = .ok (.invokevirtual 166, 3) := by decide +kernel
theorem dX11_isMixed_4 : decode cX11_isMixed 4 = .ok (.istore_n 1, 1) := by decide +kernel
theorem dX11_isMixed_5 : decode cX11_isMixed 5 = .ok (.iload_n 1, 1) := by decide +kernel
theorem dX11_isMixed_6 : decode cX11_isMixed 6 = .ok (.iload_n 1, 1) := by decide +kernel
theorem dX11_isMixed_7 : decode cX11_isMixed 7 = .ok (.iconst 1, 1) := by decide +kernel
theorem dX11_isMixed_8 : decode cX11_isMixed 8 = .ok (.isub, 1) := by decide +kernel
theorem dX11_isMixed_9 : decode cX11_isMixed 9 = .ok (.iand, 1) := by decide +kernel
theorem dX11_isMixed_10 : decode cX11_isMixed 10 = .ok (.ifCond .ne 5, 3) := by decide +kernel
theorem dX11_isMixed_13 : decode cX11_isMixed 13 = .ok (.iconst 0, 1) := by decide +kernel
theorem dX11_isMixed_14 : decode cX11_isMixed 14 = .ok (.ireturn, 1) := by decide +kernel
theorem dX11_isMixed_15 : decode cX11_isMixed 15 = .ok (.iconst 0, 1) := by decide +kernel
theorem dX11_isMixed_16 : decode cX11_isMixed 16 = .ok (.istore_n 2, 1) := by decide +kernel
theorem dX11_isMixed_17 : decode cX11_isMixed 17 = .ok (.iload_n 2, 1) := by decide +kernel
theorem dX11_isMixed_18 : decode cX11_isMixed 18 = .ok (.aload_n 0, 1) := by decide +kernel
theorem dX11_isMixed_19 : decode cX11_isMixed 19 = .ok (.getfield 141, 3) := by decide +kernel
theorem dX11_isMixed_22 : decode cX11_isMixed 22 = .ok (.if_icmp .ge 24, 3) := by decide +kernel
theorem dX11_isMixed_25 : decode cX11_isMixed 25 = .ok (.iload_n 1, 1) := by decide +kernel
theorem dX11_isMixed_26 : decode cX11_isMixed 26 = .ok (.aload_n 0, 1) := by decide +kernel
theorem dX11_isMixed_27 : decode cX11_isMixed 27 = .ok (.getfield 38, 3) := by decide +kernel
theorem dX11_isMixed_30 : decode cX11_isMixed 30 = .ok (.iload_n 2, 1) := by decide +kernel
theorem dX11_isMixed_31 : decode cX11_isMixed 31 = .ok (.iaload, 1) := by decide +kernel
theorem dX11_isMixed_32 : decode cX11_isMixed 32 = .ok (.iconst (-1), 1) := by decide +kernel
theorem dX11_isMixed_33 : decode cX11_isMixed 33 = .ok (.ixor, 1) := by decide +kernel
theorem dX11_isMixed_34 : decode cX11_isMixed 34 = .ok (.iand, 1) := by decide +kernel
theorem dX11_isMixed_35 : decode cX11_isMixed 35 = .ok (.ifCond .ne 5, 3) := by decide +kernel
theorem dX11_isMixed_38 : decode cX11_isMixed 38 = .ok (.iconst 0, 1) := by decide +kernel
theorem dX11_isMixed_39 : decode cX11_isMixed 39 = .ok (.ireturn, 1) := by decide +kernel
theorem dX11_isMixed_40 : decode cX11_isMixed 40 = .ok (.iinc 2 1, 3) := by decide +kernel
theorem dX11_isMixed_43 : decode cX11_isMixed 43 = .ok (.goto (-26), 3) := by decide +kernel
theorem dX11_isMixed_46 : decode cX11_isMixed 46 = .ok (.iconst 1, 1) := by decide +kernel
theorem dX11_isMixed_47 : decode cX11_isMixed 47 = .ok (.ireturn, 1) := by decide +kernel
theorem dX11_has_0 : decode cX11_has 0 = .ok (.iconst 0, 1) := by decide +kernel
theorem dX11_has_1 : decode cX11_has 1 = .ok (.istore_n 2, 1) := by decide +kernel
theorem dX11_has_2 : decode cX11_has 2 = .ok (.iload_n 2, 1) := by decide +kernel
theorem dX11_has_3 : decode cX11_has 3 = .ok (.aload_n 0, 1) := by decide +kernel
theorem dX11_has_4 : decode cX11_has 4 = .ok (.getfield 44, 3) := by decide +kernel
theorem dX11_has_7 : decode cX11_has 7 = .ok (.sipush 200, 3) := by decide +kernel
theorem dX11_has_10 : decode cX11_has 10 = .ok (.iaload, 1) := by decide +kernel
theorem dX11_has_11 : decode cX11_has 11 = .ok (.if_icmp .ge 30, 3) := by decide +kernel
theorem dX11_has_14 : decode cX11_has 14 = .ok (.aload_n 0, 1) := by decide +kernel
theorem dX11_has_15 : decode cX11_has 15 = .ok (.getfield 13, 3) := by decide +kernel
theorem dX11_has_18 : decode cX11_has 18 = .ok (.aload_n 0, 1) := by decide +kernel
theorem dX11_has_19 : decode cX11_has 19 = .ok (.getfield 41, 3) := by decide +kernel
theorem dX11_has_22 : decode cX11_has 22 = .ok (.sipush 8000, 3) := by decide +kernel
theorem dX11_has_25 : decode cX11_has 25 = .ok (.iload_n 2, 1) := by decide +kernel
theorem dX11_has_26 : decode cX11_has 26 = .ok (.iadd, 1) := by decide +kernel
theorem dX11_has_27 : decode cX11_has 27 = .ok (.baload, 1) := by decide +kernel
theorem dX11_has_28 : decode cX11_has 28 = .ok (.iaload, 1) := by decide +kernel
theorem dX11_has_29 : decode cX11_has 29 = .ok (.iload_n 1, 1) := by decide +kernel
theorem dX11_has_30 : decode cX11_has 30 = .ok (.if_icmp .ne 5, 3) := by decide +kernel
theorem dX11_has_33 : decode cX11_has 33 = .ok (.iconst 1, 1) := by decide +kernel
theorem dX11_has_34 : decode cX11_has 34 = .ok (.ireturn, 1) := by decide +kernel
theorem dX11_has_35 : decode cX11_has 35 = .ok (.iinc 2 1, 3) := by decide +kernel
theorem dX11_has_38 : decode cX11_has 38 = .ok (.goto (-36), 3) := by decide +kernel
theorem dX11_has_41 : decode cX11_has 41 = .ok (.iconst 0, 1) := by decide +kernel
theorem dX11_has_42 : decode cX11_has 42 = .ok (.ireturn, 1) := by decide +kernel
theorem dX11_about_0 : decode cX11_about 0 = .ok (.aload_n 0, 1) := by decide +kernel
theorem dX11_about_1 : decode cX11_about 1 = .ok (.getfield 158, 3) := by decide +kernel
theorem dX11_about_4 : decode cX11_about 4 = .ok (.ifCond .ne 5, 3) := by decide +kernel
theorem dX11_about_7 : decode cX11_about 7 = .ok (.iconst (-1), 1) := by decide +kernel
theorem dX11_about_8 : decode cX11_about 8 = .ok (.ireturn, 1) := by decide +kernel
theorem dX11_about_9 : decode cX11_about 9 = .ok (.aload_n 0, 1) := by decide +kernel
theorem dX11_about_10 : decode cX11_about 10 = .ok (.sipush 200, 3) := by decide +kernel
theorem dX11_about_13 : decode cX11_about 13 = .ok (.aload_n 0, 1) := by decide +kernel
theorem dX11_about_14 : decode cX11_about 14 = .ok (.getfield 51, 3) := by decide +kernel
theorem dX11_about_17 : decode cX11_about 17 = .ok (.invokevirtual 162, 3) := by decide +kernel
theorem dX11_about_20 : decode cX11_about 20 = .ok (.istore_n 2, 1) := by decide +kernel
theorem dX11_about_21 : decode cX11_about 21 = .ok (.iload_n 1, 1) := by decide +kernel
theorem dX11_about_22 : decode cX11_about 22 = .ok (.tableswitch 150 0 6 #[42, 51, 53, 58, 71, 85, 99], 42) := by decide +kernel
theorem dX11_about_64 : decode cX11_about 64 = .ok (.aload_n 0, 1) := by decide +kernel
theorem dX11_about_65 : decode cX11_about 65 = .ok (.getfield 44, 3) := by decide +kernel
theorem dX11_about_68 : decode cX11_about 68 = .ok (.sipush 200, 3) := by decide +kernel
theorem dX11_about_71 : decode cX11_about 71 = .ok (.iaload, 1) := by decide +kernel
theorem dX11_about_72 : decode cX11_about 72 = .ok (.ireturn, 1) := by decide +kernel
theorem dX11_about_73 : decode cX11_about 73 = .ok (.iload_n 2, 1) := by decide +kernel
theorem dX11_about_74 : decode cX11_about 74 = .ok (.ireturn, 1) := by decide +kernel
theorem dX11_about_75 : decode cX11_about 75 = .ok (.aload_n 0, 1) := by decide +kernel
theorem dX11_about_76 : decode cX11_about 76 = .ok (.invokevirtual 166, 3) := by decide +kernel
theorem dX11_about_79 : decode cX11_about 79 = .ok (.ireturn, 1) := by decide +kernel
theorem dX11_about_80 : decode cX11_about 80 = .ok (.aload_n 0, 1) := by decide +kernel
theorem dX11_about_81 : decode cX11_about 81 = .ok (.invokevirtual 170, 3) := by decide +kernel
theorem dX11_about_84 : decode cX11_about 84 = .ok (.ifCond .eq 7, 3) := by decide +kernel
theorem dX11_about_87 : decode cX11_about 87 = .ok (.iconst 1, 1) := by decide +kernel
theorem dX11_about_88 : decode cX11_about 88 = .ok (.goto 4, 3) := by decide +kernel
theorem dX11_about_91 : decode cX11_about 91 = .ok (.iconst 0, 1) := by decide +kernel
theorem dX11_about_92 : decode cX11_about 92 = .ok (.ireturn, 1) := by decide +kernel
theorem dX11_about_93 : decode cX11_about 93 = .ok (.aload_n 0, 1) := by decide +kernel
theorem dX11_about_94 : decode cX11_about 94 = .ok (.iconst 1, 1) := by decide +kernel
theorem dX11_about_95 : decode cX11_about 95 = .ok (.invokevirtual 174, 3) := by decide +kernel
theorem dX11_about_98 : decode cX11_about 98 = .ok (.ifCond .eq 7, 3) := by decide +kernel
theorem dX11_about_101 : decode cX11_about 101 = .ok (.iconst 1, 1) := by decide +kernel
theorem dX11_about_102 : decode cX11_about 102 = .ok (.goto 4, 3) := by decide +kernel
theorem dX11_about_105 : decode cX11_about 105 = .ok (.iconst 0, 1) := by decide +kernel
theorem dX11_about_106 : decode cX11_about 106 = .ok (.ireturn, 1) := by decide +kernel
theorem dX11_about_107 : decode cX11_about 107 = .ok (.aload_n 0, 1) := by decide +kernel
theorem dX11_about_108 : decode cX11_about 108 = .ok (.iconst 2, 1) := by decide +kernel
theorem dX11_about_109 : decode cX11_about 109 = .ok (.invokevirtual 174, 3) := by decide +kernel
theorem dX11_about_112 : decode cX11_about 112 = .ok (.ifCond .eq 7, 3) := by decide +kernel
theorem dX11_about_115 : decode cX11_about 115 = .ok (.iconst 1, 1) := by decide +kernel
theorem dX11_about_116 : decode cX11_about 116 = .ok (.goto 4, 3) := by decide +kernel
theorem dX11_about_119 : decode cX11_about 119 = .ok (.iconst 0, 1) := by decide +kernel
theorem dX11_about_120 : decode cX11_about 120 = .ok (.ireturn, 1) := by decide +kernel
theorem dX11_about_121 : decode cX11_about 121 = .ok (.aload_n 0, 1) := by decide +kernel
theorem dX11_about_122 : decode cX11_about 122 = .ok (.getfield 13, 3) := by decide +kernel
theorem dX11_about_125 : decode cX11_about 125 = .ok (.aload_n 0, 1) := by decide +kernel
theorem dX11_about_126 : decode cX11_about 126 = .ok (.getfield 41, 3) := by decide +kernel
theorem dX11_about_129 : decode cX11_about 129 = .ok (.sipush 8000, 3) := by decide +kernel
theorem dX11_about_132 : decode cX11_about 132 = .ok (.baload, 1) := by decide +kernel
theorem dX11_about_133 : decode cX11_about 133 = .ok (.iaload, 1) := by decide +kernel
theorem dX11_about_134 : decode cX11_about 134 = .ok (.iconst 1, 1) := by decide +kernel
theorem dX11_about_135 : decode cX11_about 135 = .ok (.if_icmp .eq 31, 3) := by decide +kernel
theorem dX11_about_138 : decode cX11_about 138 = .ok (.aload_n 0, 1) := by decide +kernel
theorem dX11_about_139 : decode cX11_about 139 = .ok (.getfield 13, 3) := by decide +kernel
theorem dX11_about_142 : decode cX11_about 142 = .ok (.aload_n 0, 1) := by decide +kernel
theorem dX11_about_143 : decode cX11_about 143 = .ok (.getfield 41, 3) := by decide +kernel
theorem dX11_about_146 : decode cX11_about 146 = .ok (.sipush 8000, 3) := by decide +kernel
theorem dX11_about_149 : decode cX11_about 149 = .ok (.aload_n 0, 1) := by decide +kernel
theorem dX11_about_150 : decode cX11_about 150 = .ok (.getfield 44, 3) := by decide +kernel
theorem dX11_about_153 : decode cX11_about 153 = .ok (.sipush 200, 3) := by decide +kernel
theorem dX11_about_156 : decode cX11_about 156 = .ok (.iaload, 1) := by decide +kernel
theorem dX11_about_157 : decode cX11_about 157 = .ok (.iadd, 1) := by decide +kernel
theorem dX11_about_158 : decode cX11_about 158 = .ok (.iconst 1, 1) := by decide +kernel
theorem dX11_about_159 : decode cX11_about 159 = .ok (.isub, 1) := by decide +kernel
theorem dX11_about_160 : decode cX11_about 160 = .ok (.baload, 1) := by decide +kernel
theorem dX11_about_161 : decode cX11_about 161 = .ok (.iaload, 1) := by decide +kernel
theorem dX11_about_162 : decode cX11_about 162 = .ok (.iconst 1, 1) := by decide +kernel
theorem dX11_about_163 : decode cX11_about 163 = .ok (.if_icmp .ne 7, 3) := by decide +kernel
theorem dX11_about_166 : decode cX11_about 166 = .ok (.iconst 1, 1) := by decide +kernel
theorem dX11_about_167 : decode cX11_about 167 = .ok (.goto 4, 3) := by decide +kernel
theorem dX11_about_170 : decode cX11_about 170 = .ok (.iconst 0, 1) := by decide +kernel
theorem dX11_about_171 : decode cX11_about 171 = .ok (.ireturn, 1) := by decide +kernel
theorem dX11_about_172 : decode cX11_about 172 = .ok (.iload_n 1, 1) := by decide +kernel
theorem dX11_about_173 : decode cX11_about 173 = .ok (.bipush 20, 2) := by decide +kernel
theorem dX11_about_175 : decode cX11_about 175 = .ok (.bipush 19, 2) := by decide +kernel
theorem dX11_about_177 : decode cX11_about 177 = .ok (.iload_n 2, 1) := by decide +kernel
theorem dX11_about_178 : decode cX11_about 178 = .ok (.iadd, 1) := by decide +kernel
theorem dX11_about_179 : decode cX11_about 179 = .ok (.invokestatic 106, 3) := by decide +kernel
theorem dX11_about_182 : decode cX11_about 182 = .ok (.ifCond .eq 15, 3) := by decide +kernel
theorem dX11_about_185 : decode cX11_about 185 = .ok (.aload_n 0, 1) := by decide +kernel
theorem dX11_about_186 : decode cX11_about 186 = .ok (.getfield 51, 3) := by decide +kernel
theorem dX11_about_189 : decode cX11_about 189 = .ok (.iload_n 1, 1) := by decide +kernel
theorem dX11_about_190 : decode cX11_about 190 = .ok (.bipush 20, 2) := by decide +kernel
theorem dX11_about_192 : decode cX11_about 192 = .ok (.isub, 1) := by decide +kernel
theorem dX11_about_193 : decode cX11_about 193 = .ok (.iaload, 1) := by decide +kernel
theorem dX11_about_194 : decode cX11_about 194 = .ok (.goto 4, 3) := by decide +kernel
theorem dX11_about_197 : decode cX11_about 197 = .ok (.iconst (-1), 1) := by decide +kernel
theorem dX11_about_198 : decode cX11_about 198 = .ok (.ireturn, 1) := by decide +kernel
theorem dX11_piece_0 : decode cX11_piece 0 = .ok (.iload_n 2, 1) := by decide +kernel
theorem dX11_piece_1 : decode cX11_piece 1 = .ok (.iconst 1, 1) := by decide +kernel
theorem dX11_piece_2 : decode cX11_piece 2 = .ok (.if_icmp .ne 9, 3) := by decide +kernel
theorem dX11_piece_5 : decode cX11_piece 5 = .ok (.aload_n 0, 1) := by decide +kernel
theorem dX11_piece_6 : decode cX11_piece 6 = .ok (.iload_n 1, 1) := by decide +kernel
theorem dX11_piece_7 : decode cX11_piece 7 = .ok (.iaload, 1) := by decide +kernel
theorem dX11_piece_8 : decode cX11_piece 8 = .ok (.goto 16, 3) := by decide +kernel
theorem dX11_piece_11 : decode cX11_piece 11 = .ok (.sipush 256, 3) := by decide +kernel
theorem dX11_piece_14 : decode cX11_piece 14 = .ok (.aload_n 0, 1) := by decide +kernel
theorem dX11_piece_15 : decode cX11_piece 15 = .ok (.iload_n 1, 1) := by decide +kernel
theorem dX11_piece_16 : decode cX11_piece 16 = .ok (.iaload, 1) := by decide +kernel
theorem dX11_piece_17 : decode cX11_piece 17 = .ok (.imul, 1) := by decide +kernel
theorem dX11_piece_18 : decode cX11_piece 18 = .ok (.aload_n 0, 1) := by decide +kernel
theorem dX11_piece_19 : decode cX11_piece 19 = .ok (.iload_n 1, 1) := by decide +kernel
theorem dX11_piece_20 : decode cX11_piece 20 = .ok (.iconst 1, 1) := by decide +kernel
theorem dX11_piece_21 : decode cX11_piece 21 = .ok (.iadd, 1) := by decide +kernel
theorem dX11_piece_22 : decode cX11_piece 22 = .ok (.iaload, 1) := by decide +kernel
theorem dX11_piece_23 : decode cX11_piece 23 = .ok (.iadd, 1) := by decide +kernel
theorem dX11_piece_24 : decode cX11_piece 24 = .ok (.ireturn, 1) := by decide +kernel
theorem dX11_reckon_0 : decode cX11_reckon 0 = .ok (.aload_n 0, 1) := by decide +kernel
theorem dX11_reckon_1 : decode cX11_reckon 1 = .ok (.aload_n 0, 1) := by decide +kernel
theorem dX11_reckon_2 : decode cX11_reckon 2 = .ok (.iload_n 1, 1) := by decide +kernel
theorem dX11_reckon_3 : decode cX11_reckon 3 = .ok (.aload_n 0, 1) := by decide +kernel
theorem dX11_reckon_4 : decode cX11_reckon 4 = .ok (.getfield 51, 3) := by decide +kernel
theorem dX11_reckon_7 : decode cX11_reckon 7 = .ok (.invokevirtual 162, 3) := by decide +kernel
theorem dX11_reckon_10 : decode cX11_reckon 10 = .ok (.putfield 177, 3) := by decide +kernel
theorem dX11_reckon_13 : decode cX11_reckon 13 = .ok (.aload_n 0, 1) := by decide +kernel
theorem dX11_reckon_14 : decode cX11_reckon 14 = .ok (.aload_n 0, 1) := by decide +kernel
theorem dX11_reckon_15 : decode cX11_reckon 15 = .ok (.iload_n 2, 1) := by decide +kernel
theorem dX11_reckon_16 : decode cX11_reckon 16 = .ok (.aload_n 0, 1) := by decide +kernel
theorem dX11_reckon_17 : decode cX11_reckon 17 = .ok (.getfield 54, 3) := by decide +kernel
theorem dX11_reckon_20 : decode cX11_reckon 20 = .ok (.invokevirtual 162, 3) := by decide +kernel
theorem dX11_reckon_23 : decode cX11_reckon 23 = .ok (.putfield 180, 3) := by decide +kernel
theorem dX11_reckon_26 : decode cX11_reckon 26 = .ok (.aload_n 0, 1) := by decide +kernel
theorem dX11_reckon_27 : decode cX11_reckon 27 = .ok (.getfield 177, 3) := by decide +kernel
theorem dX11_reckon_30 : decode cX11_reckon 30 = .ok (.istore_n 3, 1) := by decide +kernel
theorem dX11_reckon_31 : decode cX11_reckon 31 = .ok (.iload_n 3, 1) := by decide +kernel
theorem dX11_reckon_32 : decode cX11_reckon 32 = .ok (.ifCond .lt 194, 3) := by decide +kernel
theorem dX11_reckon_35 : decode cX11_reckon 35 = .ok (.aload_n 0, 1) := by decide +kernel
theorem dX11_reckon_36 : decode cX11_reckon 36 = .ok (.getfield 180, 3) := by decide +kernel
theorem dX11_reckon_39 : decode cX11_reckon 39 = .ok (.istore 4, 2) := by decide +kernel
theorem dX11_reckon_41 : decode cX11_reckon 41 = .ok (.iload 4, 2) := by decide +kernel
theorem dX11_reckon_43 : decode cX11_reckon 43 = .ok (.ifCond .lt 177, 3) := by decide +kernel
theorem dX11_reckon_46 : decode cX11_reckon 46 = .ok (.iload_n 3, 1) := by decide +kernel
theorem dX11_reckon_47 : decode cX11_reckon 47 = .ok (.aload_n 0, 1) := by decide +kernel
theorem dX11_reckon_48 : decode cX11_reckon 48 = .ok (.getfield 177, 3) := by decide +kernel
theorem dX11_reckon_51 : decode cX11_reckon 51 = .ok (.if_icmp .ne 16, 3) := by decide +kernel
theorem dX11_reckon_54 : decode cX11_reckon 54 = .ok (.iload 4, 2) := by decide +kernel
theorem dX11_reckon_56 : decode cX11_reckon 56 = .ok (.aload_n 0, 1) := by decide +kernel
theorem dX11_reckon_57 : decode cX11_reckon 57 = .ok (.getfield 180, 3) := by decide +kernel
theorem dX11_reckon_60 : decode cX11_reckon 60 = .ok (.if_icmp .ne 7, 3) := by decide +kernel
theorem dX11_reckon_63 : decode cX11_reckon 63 = .ok (.iconst 0, 1) := by decide +kernel
theorem dX11_reckon_64 : decode cX11_reckon 64 = .ok (.goto 5, 3) := by decide +kernel
theorem dX11_reckon_67 : decode cX11_reckon 67 = .ok (.ldc 134, 2) := by decide +kernel
theorem dX11_reckon_69 : decode cX11_reckon 69 = .ok (.istore 5, 2) := by decide +kernel
theorem dX11_reckon_71 : decode cX11_reckon 71 = .ok (.iconst 1, 1) := by decide +kernel
theorem dX11_reckon_72 : decode cX11_reckon 72 = .ok (.istore 6, 2) := by decide +kernel
theorem dX11_reckon_74 : decode cX11_reckon 74 = .ok (.iload 6, 2) := by decide +kernel
theorem dX11_reckon_76 : decode cX11_reckon 76 = .ok (.iconst 2, 1) := by decide +kernel
theorem dX11_reckon_77 : decode cX11_reckon 77 = .ok (.if_icmp .gt 123, 3) := by decide +kernel
theorem dX11_reckon_80 : decode cX11_reckon 80 = .ok (.iload_n 3, 1) := by decide +kernel
theorem dX11_reckon_81 : decode cX11_reckon 81 = .ok (.iload 6, 2) := by decide +kernel
theorem dX11_reckon_83 : decode cX11_reckon 83 = .ok (.iadd, 1) := by decide +kernel
theorem dX11_reckon_84 : decode cX11_reckon 84 = .ok (.aload_n 0, 1) := by decide +kernel
theorem dX11_reckon_85 : decode cX11_reckon 85 = .ok (.getfield 177, 3) := by decide +kernel
theorem dX11_reckon_88 : decode cX11_reckon 88 = .ok (.if_icmp .gt 112, 3) := by decide +kernel
theorem dX11_reckon_91 : decode cX11_reckon 91 = .ok (.iconst 1, 1) := by decide +kernel
theorem dX11_reckon_92 : decode cX11_reckon 92 = .ok (.istore 7, 2) := by decide +kernel
theorem dX11_reckon_94 : decode cX11_reckon 94 = .ok (.iload 7, 2) := by decide +kernel
theorem dX11_reckon_96 : decode cX11_reckon 96 = .ok (.iconst 2, 1) := by decide +kernel
theorem dX11_reckon_97 : decode cX11_reckon 97 = .ok (.if_icmp .gt 97, 3) := by decide +kernel
theorem dX11_reckon_100 : decode cX11_reckon 100 = .ok (.iload 4, 2) := by decide +kernel
theorem dX11_reckon_102 : decode cX11_reckon 102 = .ok (.iload 7, 2) := by decide +kernel
theorem dX11_reckon_104 : decode cX11_reckon 104 = .ok (.iadd, 1) := by decide +kernel
theorem dX11_reckon_105 : decode cX11_reckon 105 = .ok (.aload_n 0, 1) := by decide +kernel
theorem dX11_reckon_106 : decode cX11_reckon 106 = .ok (.getfield 180, 3) := by decide +kernel
theorem dX11_reckon_109 : decode cX11_reckon 109 = .ok (.if_icmp .gt 85, 3) := by decide +kernel
theorem dX11_reckon_112 : decode cX11_reckon 112 = .ok (.aload_n 0, 1) := by decide +kernel
theorem dX11_reckon_113 : decode cX11_reckon 113 = .ok (.getfield 57, 3) := by decide +kernel
theorem dX11_reckon_116 : decode cX11_reckon 116 = .ok (.bipush 41, 2) := by decide +kernel
theorem dX11_reckon_118 : decode cX11_reckon 118 = .ok (.iload_n 3, 1) := by decide +kernel
theorem dX11_reckon_119 : decode cX11_reckon 119 = .ok (.iload 6, 2) := by decide +kernel
theorem dX11_reckon_121 : decode cX11_reckon 121 = .ok (.iadd, 1) := by decide +kernel
theorem dX11_reckon_122 : decode cX11_reckon 122 = .ok (.imul, 1) := by decide +kernel
theorem dX11_reckon_123 : decode cX11_reckon 123 = .ok (.iload 4, 2) := by decide +kernel
theorem dX11_reckon_125 : decode cX11_reckon 125 = .ok (.iadd, 1) := by decide +kernel
theorem dX11_reckon_126 : decode cX11_reckon 126 = .ok (.iload 7, 2) := by decide +kernel
theorem dX11_reckon_128 : decode cX11_reckon 128 = .ok (.iadd, 1) := by decide +kernel
theorem dX11_reckon_129 : decode cX11_reckon 129 = .ok (.iaload, 1) := by decide +kernel
theorem dX11_reckon_130 : decode cX11_reckon 130 = .ok (.istore 8, 2) := by decide +kernel
theorem dX11_reckon_132 : decode cX11_reckon 132 = .ok (.iload 8, 2) := by decide +kernel
theorem dX11_reckon_134 : decode cX11_reckon 134 = .ok (.iload 5, 2) := by decide +kernel
theorem dX11_reckon_136 : decode cX11_reckon 136 = .ok (.if_icmp .lt 6, 3) := by decide +kernel
theorem dX11_reckon_139 : decode cX11_reckon 139 = .ok (.goto 49, 3) := by decide +kernel
theorem dX11_reckon_142 : decode cX11_reckon 142 = .ok (.aload_n 0, 1) := by decide +kernel
theorem dX11_reckon_143 : decode cX11_reckon 143 = .ok (.aload_n 0, 1) := by decide +kernel
theorem dX11_reckon_144 : decode cX11_reckon 144 = .ok (.getfield 51, 3) := by decide +kernel
theorem dX11_reckon_147 : decode cX11_reckon 147 = .ok (.iload_n 3, 1) := by decide +kernel
theorem dX11_reckon_148 : decode cX11_reckon 148 = .ok (.iload 6, 2) := by decide +kernel
theorem dX11_reckon_150 : decode cX11_reckon 150 = .ok (.invokestatic 183, 3) := by decide +kernel
theorem dX11_reckon_153 : decode cX11_reckon 153 = .ok (.aload_n 0, 1) := by decide +kernel
theorem dX11_reckon_154 : decode cX11_reckon 154 = .ok (.getfield 54, 3) := by decide +kernel
theorem dX11_reckon_157 : decode cX11_reckon 157 = .ok (.iload 4, 2) := by decide +kernel
theorem dX11_reckon_159 : decode cX11_reckon 159 = .ok (.iload 7, 2) := by decide +kernel
theorem dX11_reckon_161 : decode cX11_reckon 161 = .ok (.invokestatic 183, 3) := by decide +kernel
theorem dX11_reckon_164 : decode cX11_reckon 164 = .ok (.invokevirtual 138, 3) := by decide +kernel
theorem dX11_reckon_167 : decode cX11_reckon 167 = .ok (.iload 8, 2) := by decide +kernel
theorem dX11_reckon_169 : decode cX11_reckon 169 = .ok (.iadd, 1) := by decide +kernel
theorem dX11_reckon_170 : decode cX11_reckon 170 = .ok (.istore 9, 2) := by decide +kernel
theorem dX11_reckon_172 : decode cX11_reckon 172 = .ok (.iload 9, 2) := by decide +kernel
theorem dX11_reckon_174 : decode cX11_reckon 174 = .ok (.iload 5, 2) := by decide +kernel
theorem dX11_reckon_176 : decode cX11_reckon 176 = .ok (.if_icmp .ge 8, 3) := by decide +kernel
theorem dX11_reckon_179 : decode cX11_reckon 179 = .ok (.iload 9, 2) := by decide +kernel
theorem dX11_reckon_181 : decode cX11_reckon 181 = .ok (.goto 5, 3) := by decide +kernel
theorem dX11_reckon_184 : decode cX11_reckon 184 = .ok (.iload 5, 2) := by decide +kernel
theorem dX11_reckon_186 : decode cX11_reckon 186 = .ok (.istore 5, 2) := by decide +kernel
theorem dX11_reckon_188 : decode cX11_reckon 188 = .ok (.iinc 7 1, 3) := by decide +kernel
theorem dX11_reckon_191 : decode cX11_reckon 191 = .ok (.goto (-97), 3) := by decide +kernel
theorem dX11_reckon_194 : decode cX11_reckon 194 = .ok (.iinc 6 1, 3) := by decide +kernel
theorem dX11_reckon_197 : decode cX11_reckon 197 = .ok (.goto (-123), 3) := by decide +kernel
theorem dX11_reckon_200 : decode cX11_reckon 200 = .ok (.aload_n 0, 1) := by decide +kernel
theorem dX11_reckon_201 : decode cX11_reckon 201 = .ok (.getfield 57, 3) := by decide +kernel
theorem dX11_reckon_204 : decode cX11_reckon 204 = .ok (.bipush 41, 2) := by decide +kernel
theorem dX11_reckon_206 : decode cX11_reckon 206 = .ok (.iload_n 3, 1) := by decide +kernel
theorem dX11_reckon_207 : decode cX11_reckon 207 = .ok (.imul, 1) := by decide +kernel
theorem dX11_reckon_208 : decode cX11_reckon 208 = .ok (.iload 4, 2) := by decide +kernel
theorem dX11_reckon_210 : decode cX11_reckon 210 = .ok (.iadd, 1) := by decide +kernel
theorem dX11_reckon_211 : decode cX11_reckon 211 = .ok (.iload 5, 2) := by decide +kernel
theorem dX11_reckon_213 : decode cX11_reckon 213 = .ok (.iastore, 1) := by decide +kernel
theorem dX11_reckon_214 : decode cX11_reckon 214 = .ok (.iinc 4 (-1), 3) := by decide +kernel
theorem dX11_reckon_217 : decode cX11_reckon 217 = .ok (.goto (-176), 3) := by decide +kernel
theorem dX11_reckon_220 : decode cX11_reckon 220 = .ok (.iinc 3 (-1), 3) := by decide +kernel
theorem dX11_reckon_223 : decode cX11_reckon 223 = .ok (.goto (-192), 3) := by decide +kernel
theorem dX11_reckon_226 : decode cX11_reckon 226 = .ok (.aload_n 0, 1) := by decide +kernel
theorem dX11_reckon_227 : decode cX11_reckon 227 = .ok (.getfield 57, 3) := by decide +kernel
theorem dX11_reckon_230 : decode cX11_reckon 230 = .ok (.iconst 0, 1) := by decide +kernel
theorem dX11_reckon_231 : decode cX11_reckon 231 = .ok (.iaload, 1) := by decide +kernel
theorem dX11_reckon_232 : decode cX11_reckon 232 = .ok (.ireturn, 1) := by decide +kernel
theorem dX11_isSame_0 : decode cX11_isSame 0 = .ok (.aload_n 0, 1) := by decide +kernel
theorem dX11_isSame_1 : decode cX11_isSame 1 = .ok (.aload_n 0, 1) := by decide +kernel
theorem dX11_isSame_2 : decode cX11_isSame 2 = .ok (.iload_n 1, 1) := by decide +kernel
theorem dX11_isSame_3 : decode cX11_isSame 3 = .ok (.aload_n 0, 1) := by decide +kernel
theorem dX11_isSame_4 : decode cX11_isSame 4 = .ok (.getfield 51, 3) := by decide +kernel
theorem dX11_isSame_7 : decode cX11_isSame 7 = .ok (.invokevirtual 162, 3) := by decide +kernel
theorem dX11_isSame_10 : decode cX11_isSame 10 = .ok (.putfield 177, 3) := by decide +kernel
theorem dX11_isSame_13 : decode cX11_isSame 13 = .ok (.aload_n 0, 1) := by decide +kernel
theorem dX11_isSame_14 : decode cX11_isSame 14 = .ok (.aload_n 0, 1) := by decide +kernel
theorem dX11_isSame_15 : decode cX11_isSame 15 = .ok (.iload_n 2, 1) := by decide +kernel
theorem dX11_isSame_16 : decode cX11_isSame 16 = .ok (.aload_n 0, 1) := by decide +kernel
theorem dX11_isSame_17 : decode cX11_isSame 17 = .ok (.getfield 54, 3) := by decide +kernel
theorem dX11_isSame_20 : decode cX11_isSame 20 = .ok (.invokevirtual 162, 3) := by decide +kernel
theorem dX11_isSame_23 : decode cX11_isSame 23 = .ok (.putfield 180, 3) := by decide +kernel
theorem dX11_isSame_26 : decode cX11_isSame 26 = .ok (.aload_n 0, 1) := by decide +kernel
theorem dX11_isSame_27 : decode cX11_isSame 27 = .ok (.getfield 177, 3) := by decide +kernel
theorem dX11_isSame_30 : decode cX11_isSame 30 = .ok (.aload_n 0, 1) := by decide +kernel
theorem dX11_isSame_31 : decode cX11_isSame 31 = .ok (.getfield 180, 3) := by decide +kernel
theorem dX11_isSame_34 : decode cX11_isSame 34 = .ok (.if_icmp .ne 7, 3) := by decide +kernel
theorem dX11_isSame_37 : decode cX11_isSame 37 = .ok (.iconst 1, 1) := by decide +kernel
theorem dX11_isSame_38 : decode cX11_isSame 38 = .ok (.goto 4, 3) := by decide +kernel
theorem dX11_isSame_41 : decode cX11_isSame 41 = .ok (.iconst 0, 1) := by decide +kernel
theorem dX11_isSame_42 : decode cX11_isSame 42 = .ok (.istore_n 3, 1) := by decide +kernel
theorem dX11_isSame_43 : decode cX11_isSame 43 = .ok (.iconst 0, 1) := by decide +kernel
theorem dX11_isSame_44 : decode cX11_isSame 44 = .ok (.istore 4, 2) := by decide +kernel
theorem dX11_isSame_46 : decode cX11_isSame 46 = .ok (.iload 4, 2) := by decide +kernel
theorem dX11_isSame_48 : decode cX11_isSame 48 = .ok (.aload_n 0, 1) := by decide +kernel
theorem dX11_isSame_49 : decode cX11_isSame 49 = .ok (.getfield 177, 3) := by decide +kernel
theorem dX11_isSame_52 : decode cX11_isSame 52 = .ok (.if_icmp .ge 36, 3) := by decide +kernel
theorem dX11_isSame_55 : decode cX11_isSame 55 = .ok (.iload_n 3, 1) := by decide +kernel
theorem dX11_isSame_56 : decode cX11_isSame 56 = .ok (.ifCond .eq 32, 3) := by decide +kernel
theorem dX11_isSame_59 : decode cX11_isSame 59 = .ok (.aload_n 0, 1) := by decide +kernel
theorem dX11_isSame_60 : decode cX11_isSame 60 = .ok (.getfield 51, 3) := by decide +kernel
theorem dX11_isSame_63 : decode cX11_isSame 63 = .ok (.iload 4, 2) := by decide +kernel
theorem dX11_isSame_65 : decode cX11_isSame 65 = .ok (.iaload, 1) := by decide +kernel
theorem dX11_isSame_66 : decode cX11_isSame 66 = .ok (.aload_n 0, 1) := by decide +kernel
theorem dX11_isSame_67 : decode cX11_isSame 67 = .ok (.getfield 54, 3) := by decide +kernel
theorem dX11_isSame_70 : decode cX11_isSame 70 = .ok (.iload 4, 2) := by decide +kernel
theorem dX11_isSame_72 : decode cX11_isSame 72 = .ok (.iaload, 1) := by decide +kernel
theorem dX11_isSame_73 : decode cX11_isSame 73 = .ok (.if_icmp .ne 7, 3) := by decide +kernel
theorem dX11_isSame_76 : decode cX11_isSame 76 = .ok (.iconst 1, 1) := by decide +kernel
theorem dX11_isSame_77 : decode cX11_isSame 77 = .ok (.goto 4, 3) := by decide +kernel
theorem dX11_isSame_80 : decode cX11_isSame 80 = .ok (.iconst 0, 1) := by decide +kernel
theorem dX11_isSame_81 : decode cX11_isSame 81 = .ok (.istore_n 3, 1) := by decide +kernel
theorem dX11_isSame_82 : decode cX11_isSame 82 = .ok (.iinc 4 1, 3) := by decide +kernel
theorem dX11_isSame_85 : decode cX11_isSame 85 = .ok (.goto (-39), 3) := by decide +kernel
theorem dX11_isSame_88 : decode cX11_isSame 88 = .ok (.iload_n 3, 1) := by decide +kernel
theorem dX11_isSame_89 : decode cX11_isSame 89 = .ok (.ireturn, 1) := by decide +kernel
theorem dX11_isRegister_0 : decode cX11_isRegister 0 = .ok (.iload_n 0, 1) := by decide +kernel
theorem dX11_isRegister_1 : decode cX11_isRegister 1 = .ok (.iconst 0, 1) := by decide +kernel
theorem dX11_isRegister_2 : decode cX11_isRegister 2 = .ok (.iconst 3, 1) := by decide +kernel
theorem dX11_isRegister_3 : decode cX11_isRegister 3 = .ok (.invokestatic 106, 3) := by decide +kernel
theorem dX11_isRegister_6 : decode cX11_isRegister 6 = .ok (.ireturn, 1) := by decide +kernel
theorem dX11_rule_0 : decode cX11_rule 0 = .ok (.iload_n 1, 1) := by decide +kernel
theorem dX11_rule_1 : decode cX11_rule 1 = .ok (.invokestatic 187, 3) := by decide +kernel
theorem dX11_rule_4 : decode cX11_rule 4 = .ok (.ifCond .eq 25, 3) := by decide +kernel
theorem dX11_rule_7 : decode cX11_rule 7 = .ok (.iload_n 2, 1) := by decide +kernel
theorem dX11_rule_8 : decode cX11_rule 8 = .ok (.iconst 0, 1) := by decide +kernel
theorem dX11_rule_9 : decode cX11_rule 9 = .ok (.sipush 200, 3) := by decide +kernel
theorem dX11_rule_12 : decode cX11_rule 12 = .ok (.invokestatic 106, 3) := by decide +kernel
theorem dX11_rule_15 : decode cX11_rule 15 = .ok (.ifCond .eq 14, 3) := by decide +kernel
theorem dX11_rule_18 : decode cX11_rule 18 = .ok (.iload_n 3, 1) := by decide +kernel
theorem dX11_rule_19 : decode cX11_rule 19 = .ok (.iload_n 2, 1) := by decide +kernel
theorem dX11_rule_20 : decode cX11_rule 20 = .ok (.sipush 200, 3) := by decide +kernel
theorem dX11_rule_23 : decode cX11_rule 23 = .ok (.invokestatic 106, 3) := by decide +kernel
theorem dX11_rule_26 : decode cX11_rule 26 = .ok (.ifCond .ne 6, 3) := by decide +kernel
theorem dX11_rule_29 : decode cX11_rule 29 = .ok (.bipush (-2), 2) := by decide +kernel
theorem dX11_rule_31 : decode cX11_rule 31 = .ok (.ireturn, 1) := by decide +kernel
theorem dX11_rule_32 : decode cX11_rule 32 = .ok (.aload_n 0, 1) := by decide +kernel
theorem dX11_rule_33 : decode cX11_rule 33 = .ok (.getfield 60, 3) := by decide +kernel
theorem dX11_rule_36 : decode cX11_rule 36 = .ok (.iload_n 1, 1) := by decide +kernel
theorem dX11_rule_37 : decode cX11_rule 37 = .ok (.iload_n 2, 1) := by decide +kernel
theorem dX11_rule_38 : decode cX11_rule 38 = .ok (.iastore, 1) := by decide +kernel
theorem dX11_rule_39 : decode cX11_rule 39 = .ok (.aload_n 0, 1) := by decide +kernel
theorem dX11_rule_40 : decode cX11_rule 40 = .ok (.getfield 63, 3) := by decide +kernel
theorem dX11_rule_43 : decode cX11_rule 43 = .ok (.iload_n 1, 1) := by decide +kernel
theorem dX11_rule_44 : decode cX11_rule 44 = .ok (.iload_n 3, 1) := by decide +kernel
theorem dX11_rule_45 : decode cX11_rule 45 = .ok (.iastore, 1) := by decide +kernel
theorem dX11_rule_46 : decode cX11_rule 46 = .ok (.aload_n 0, 1) := by decide +kernel
theorem dX11_rule_47 : decode cX11_rule 47 = .ok (.getfield 66, 3) := by decide +kernel
theorem dX11_rule_50 : decode cX11_rule 50 = .ok (.iload_n 1, 1) := by decide +kernel
theorem dX11_rule_51 : decode cX11_rule 51 = .ok (.iload 4, 2) := by decide +kernel
theorem dX11_rule_53 : decode cX11_rule 53 = .ok (.bastore, 1) := by decide +kernel
theorem dX11_rule_54 : decode cX11_rule 54 = .ok (.iconst 1, 1) := by decide +kernel
theorem dX11_rule_55 : decode cX11_rule 55 = .ok (.ireturn, 1) := by decide +kernel
theorem dX11_isIn_0 : decode cX11_isIn 0 = .ok (.aload_n 0, 1) := by decide +kernel
theorem dX11_isIn_1 : decode cX11_isIn 1 = .ok (.getfield 76, 3) := by decide +kernel
theorem dX11_isIn_4 : decode cX11_isIn 4 = .ok (.iload_n 1, 1) := by decide +kernel
theorem dX11_isIn_5 : decode cX11_isIn 5 = .ok (.baload, 1) := by decide +kernel
theorem dX11_isIn_6 : decode cX11_isIn 6 = .ok (.ifCond .eq 17, 3) := by decide +kernel
theorem dX11_isIn_9 : decode cX11_isIn 9 = .ok (.aload_n 0, 1) := by decide +kernel
theorem dX11_isIn_10 : decode cX11_isIn 10 = .ok (.getfield 70, 3) := by decide +kernel
theorem dX11_isIn_13 : decode cX11_isIn 13 = .ok (.iload_n 1, 1) := by decide +kernel
theorem dX11_isIn_14 : decode cX11_isIn 14 = .ok (.iaload, 1) := by decide +kernel
theorem dX11_isIn_15 : decode cX11_isIn 15 = .ok (.iload_n 2, 1) := by decide +kernel
theorem dX11_isIn_16 : decode cX11_isIn 16 = .ok (.if_icmp .ne 7, 3) := by decide +kernel
theorem dX11_isIn_19 : decode cX11_isIn 19 = .ok (.iconst 1, 1) := by decide +kernel
theorem dX11_isIn_20 : decode cX11_isIn 20 = .ok (.goto 4, 3) := by decide +kernel
theorem dX11_isIn_23 : decode cX11_isIn 23 = .ok (.iconst 0, 1) := by decide +kernel
theorem dX11_isIn_24 : decode cX11_isIn 24 = .ok (.ireturn, 1) := by decide +kernel
theorem dX11_ask_0 : decode cX11_ask 0 = .ok (.iload_n 1, 1) := by decide +kernel
theorem dX11_ask_1 : decode cX11_ask 1 = .ok (.invokestatic 187, 3) := by decide +kernel
theorem dX11_ask_4 : decode cX11_ask 4 = .ok (.ifCond .eq 13, 3) := by decide +kernel
theorem dX11_ask_7 : decode cX11_ask 7 = .ok (.iload_n 2, 1) := by decide +kernel
theorem dX11_ask_8 : decode cX11_ask 8 = .ok (.iconst 0, 1) := by decide +kernel
theorem dX11_ask_9 : decode cX11_ask 9 = .ok (.bipush 31, 2) := by decide +kernel
theorem dX11_ask_11 : decode cX11_ask 11 = .ok (.invokestatic 106, 3) := by decide +kernel
theorem dX11_ask_14 : decode cX11_ask 14 = .ok (.ifCond .ne 6, 3) := by decide +kernel
theorem dX11_ask_17 : decode cX11_ask 17 = .ok (.bipush (-2), 2) := by decide +kernel
theorem dX11_ask_19 : decode cX11_ask 19 = .ok (.ireturn, 1) := by decide +kernel
theorem dX11_ask_20 : decode cX11_ask 20 = .ok (.aload_n 0, 1) := by decide +kernel
theorem dX11_ask_21 : decode cX11_ask 21 = .ok (.getfield 158, 3) := by decide +kernel
theorem dX11_ask_24 : decode cX11_ask 24 = .ok (.ifCond .eq 17, 3) := by decide +kernel
theorem dX11_ask_27 : decode cX11_ask 27 = .ok (.aload_n 0, 1) := by decide +kernel
theorem dX11_ask_28 : decode cX11_ask 28 = .ok (.sipush 200, 3) := by decide +kernel
theorem dX11_ask_31 : decode cX11_ask 31 = .ok (.aload_n 0, 1) := by decide +kernel
theorem dX11_ask_32 : decode cX11_ask 32 = .ok (.getfield 51, 3) := by decide +kernel
theorem dX11_ask_35 : decode cX11_ask 35 = .ok (.invokevirtual 162, 3) := by decide +kernel
theorem dX11_ask_38 : decode cX11_ask 38 = .ok (.ifCond .ne 5, 3) := by decide +kernel
theorem dX11_ask_41 : decode cX11_ask 41 = .ok (.iconst (-1), 1) := by decide +kernel
theorem dX11_ask_42 : decode cX11_ask 42 = .ok (.ireturn, 1) := by decide +kernel
theorem dX11_ask_43 : decode cX11_ask 43 = .ok (.iconst 0, 1) := by decide +kernel
theorem dX11_ask_44 : decode cX11_ask 44 = .ok (.istore_n 3, 1) := by decide +kernel
theorem dX11_ask_45 : decode cX11_ask 45 = .ok (.iload_n 3, 1) := by decide +kernel
theorem dX11_ask_46 : decode cX11_ask 46 = .ok (.aload_n 0, 1) := by decide +kernel
theorem dX11_ask_47 : decode cX11_ask 47 = .ok (.getfield 190, 3) := by decide +kernel
theorem dX11_ask_50 : decode cX11_ask 50 = .ok (.if_icmp .ge 31, 3) := by decide +kernel
theorem dX11_ask_53 : decode cX11_ask 53 = .ok (.aload_n 0, 1) := by decide +kernel
theorem dX11_ask_54 : decode cX11_ask 54 = .ok (.iload_n 3, 1) := by decide +kernel
theorem dX11_ask_55 : decode cX11_ask 55 = .ok (.iload_n 1, 1) := by decide +kernel
theorem dX11_ask_56 : decode cX11_ask 56 = .ok (.invokevirtual 193, 3) := by decide +kernel
theorem dX11_ask_59 : decode cX11_ask 59 = .ok (.ifCond .eq 16, 3) := by decide +kernel
theorem dX11_ask_62 : decode cX11_ask 62 = .ok (.aload_n 0, 1) := by decide +kernel
theorem dX11_ask_63 : decode cX11_ask 63 = .ok (.sipush 200, 3) := by decide +kernel
theorem dX11_ask_66 : decode cX11_ask 66 = .ok (.iload_n 3, 1) := by decide +kernel
theorem dX11_ask_67 : decode cX11_ask 67 = .ok (.invokevirtual 196, 3) := by decide +kernel
theorem dX11_ask_70 : decode cX11_ask 70 = .ok (.ifCond .eq 5, 3) := by decide +kernel
theorem dX11_ask_73 : decode cX11_ask 73 = .ok (.iconst 3, 1) := by decide +kernel
theorem dX11_ask_74 : decode cX11_ask 74 = .ok (.ireturn, 1) := by decide +kernel
theorem dX11_ask_75 : decode cX11_ask 75 = .ok (.iinc 3 1, 3) := by decide +kernel
theorem dX11_ask_78 : decode cX11_ask 78 = .ok (.goto (-33), 3) := by decide +kernel
theorem dX11_ask_81 : decode cX11_ask 81 = .ok (.ldc 134, 2) := by decide +kernel
theorem dX11_ask_83 : decode cX11_ask 83 = .ok (.istore_n 3, 1) := by decide +kernel
theorem dX11_ask_84 : decode cX11_ask 84 = .ok (.iconst 0, 1) := by decide +kernel
theorem dX11_ask_85 : decode cX11_ask 85 = .ok (.istore 4, 2) := by decide +kernel
theorem dX11_ask_87 : decode cX11_ask 87 = .ok (.iload 4, 2) := by decide +kernel
theorem dX11_ask_89 : decode cX11_ask 89 = .ok (.aload_n 0, 1) := by decide +kernel
theorem dX11_ask_90 : decode cX11_ask 90 = .ok (.getfield 190, 3) := by decide +kernel
theorem dX11_ask_93 : decode cX11_ask 93 = .ok (.if_icmp .ge 57, 3) := by decide +kernel
theorem dX11_ask_96 : decode cX11_ask 96 = .ok (.aload_n 0, 1) := by decide +kernel
theorem dX11_ask_97 : decode cX11_ask 97 = .ok (.iload 4, 2) := by decide +kernel
theorem dX11_ask_99 : decode cX11_ask 99 = .ok (.iload_n 1, 1) := by decide +kernel
theorem dX11_ask_100 : decode cX11_ask 100 = .ok (.invokevirtual 193, 3) := by decide +kernel
theorem dX11_ask_103 : decode cX11_ask 103 = .ok (.ifCond .eq 41, 3) := by decide +kernel
theorem dX11_ask_106 : decode cX11_ask 106 = .ok (.aload_n 0, 1) := by decide +kernel
theorem dX11_ask_107 : decode cX11_ask 107 = .ok (.getfield 73, 3) := by decide +kernel
theorem dX11_ask_110 : decode cX11_ask 110 = .ok (.iload 4, 2) := by decide +kernel
theorem dX11_ask_112 : decode cX11_ask 112 = .ok (.iaload, 1) := by decide +kernel
theorem dX11_ask_113 : decode cX11_ask 113 = .ok (.iload_n 2, 1) := by decide +kernel
theorem dX11_ask_114 : decode cX11_ask 114 = .ok (.if_icmp .ne 6, 3) := by decide +kernel
theorem dX11_ask_117 : decode cX11_ask 117 = .ok (.goto 27, 3) := by decide +kernel
theorem dX11_ask_120 : decode cX11_ask 120 = .ok (.aload_n 0, 1) := by decide +kernel
theorem dX11_ask_121 : decode cX11_ask 121 = .ok (.sipush 200, 3) := by decide +kernel
theorem dX11_ask_124 : decode cX11_ask 124 = .ok (.iload 4, 2) := by decide +kernel
theorem dX11_ask_126 : decode cX11_ask 126 = .ok (.invokevirtual 199, 3) := by decide +kernel
theorem dX11_ask_129 : decode cX11_ask 129 = .ok (.istore 5, 2) := by decide +kernel
theorem dX11_ask_131 : decode cX11_ask 131 = .ok (.iload 5, 2) := by decide +kernel
theorem dX11_ask_133 : decode cX11_ask 133 = .ok (.iload_n 3, 1) := by decide +kernel
theorem dX11_ask_134 : decode cX11_ask 134 = .ok (.if_icmp .ge 8, 3) := by decide +kernel
theorem dX11_ask_137 : decode cX11_ask 137 = .ok (.iload 5, 2) := by decide +kernel
theorem dX11_ask_139 : decode cX11_ask 139 = .ok (.goto 4, 3) := by decide +kernel
theorem dX11_ask_142 : decode cX11_ask 142 = .ok (.iload_n 3, 1) := by decide +kernel
theorem dX11_ask_143 : decode cX11_ask 143 = .ok (.istore_n 3, 1) := by decide +kernel
theorem dX11_ask_144 : decode cX11_ask 144 = .ok (.iinc 4 1, 3) := by decide +kernel
theorem dX11_ask_147 : decode cX11_ask 147 = .ok (.goto (-60), 3) := by decide +kernel
theorem dX11_ask_150 : decode cX11_ask 150 = .ok (.iload_n 3, 1) := by decide +kernel
theorem dX11_ask_151 : decode cX11_ask 151 = .ok (.aload_n 0, 1) := by decide +kernel
theorem dX11_ask_152 : decode cX11_ask 152 = .ok (.getfield 60, 3) := by decide +kernel
theorem dX11_ask_155 : decode cX11_ask 155 = .ok (.iload_n 1, 1) := by decide +kernel
theorem dX11_ask_156 : decode cX11_ask 156 = .ok (.iaload, 1) := by decide +kernel
theorem dX11_ask_157 : decode cX11_ask 157 = .ok (.if_icmp .le 19, 3) := by decide +kernel
theorem dX11_ask_160 : decode cX11_ask 160 = .ok (.aload_n 0, 1) := by decide +kernel
theorem dX11_ask_161 : decode cX11_ask 161 = .ok (.getfield 66, 3) := by decide +kernel
theorem dX11_ask_164 : decode cX11_ask 164 = .ok (.iload_n 1, 1) := by decide +kernel
theorem dX11_ask_165 : decode cX11_ask 165 = .ok (.baload, 1) := by decide +kernel
theorem dX11_ask_166 : decode cX11_ask 166 = .ok (.ifCond .eq 12, 3) := by decide +kernel
theorem dX11_ask_169 : decode cX11_ask 169 = .ok (.aload_n 0, 1) := by decide +kernel
theorem dX11_ask_170 : decode cX11_ask 170 = .ok (.invokevirtual 170, 3) := by decide +kernel
theorem dX11_ask_173 : decode cX11_ask 173 = .ok (.ifCond .eq 5, 3) := by decide +kernel
theorem dX11_ask_176 : decode cX11_ask 176 = .ok (.iconst 2, 1) := by decide +kernel
theorem dX11_ask_177 : decode cX11_ask 177 = .ok (.ireturn, 1) := by decide +kernel
theorem dX11_ask_178 : decode cX11_ask 178 = .ok (.iload_n 3, 1) := by decide +kernel
theorem dX11_ask_179 : decode cX11_ask 179 = .ok (.aload_n 0, 1) := by decide +kernel
theorem dX11_ask_180 : decode cX11_ask 180 = .ok (.getfield 63, 3) := by decide +kernel
theorem dX11_ask_183 : decode cX11_ask 183 = .ok (.iload_n 1, 1) := by decide +kernel
theorem dX11_ask_184 : decode cX11_ask 184 = .ok (.iaload, 1) := by decide +kernel
theorem dX11_ask_185 : decode cX11_ask 185 = .ok (.if_icmp .gt 7, 3) := by decide +kernel
theorem dX11_ask_188 : decode cX11_ask 188 = .ok (.iconst 1, 1) := by decide +kernel
theorem dX11_ask_189 : decode cX11_ask 189 = .ok (.goto 4, 3) := by decide +kernel
theorem dX11_ask_192 : decode cX11_ask 192 = .ok (.iconst 0, 1) := by decide +kernel
theorem dX11_ask_193 : decode cX11_ask 193 = .ok (.ireturn, 1) := by decide +kernel
theorem dX11_enter_0 : decode cX11_enter 0 = .ok (.aload_n 0, 1) := by decide +kernel
theorem dX11_enter_1 : decode cX11_enter 1 = .ok (.iload_n 1, 1) := by decide +kernel
theorem dX11_enter_2 : decode cX11_enter 2 = .ok (.iload_n 2, 1) := by decide +kernel
theorem dX11_enter_3 : decode cX11_enter 3 = .ok (.invokevirtual 202, 3) := by decide +kernel
theorem dX11_enter_6 : decode cX11_enter 6 = .ok (.istore_n 3, 1) := by decide +kernel
theorem dX11_enter_7 : decode cX11_enter 7 = .ok (.iload_n 3, 1) := by decide +kernel
theorem dX11_enter_8 : decode cX11_enter 8 = .ok (.ifCond .ge 5, 3) := by decide +kernel
theorem dX11_enter_11 : decode cX11_enter 11 = .ok (.iload_n 3, 1) := by decide +kernel
theorem dX11_enter_12 : decode cX11_enter 12 = .ok (.ireturn, 1) := by decide +kernel
theorem dX11_enter_13 : decode cX11_enter 13 = .ok (.iload_n 3, 1) := by decide +kernel
theorem dX11_enter_14 : decode cX11_enter 14 = .ok (.iconst 1, 1) := by decide +kernel
theorem dX11_enter_15 : decode cX11_enter 15 = .ok (.if_icmp .le 8, 3) := by decide +kernel
theorem dX11_enter_18 : decode cX11_enter 18 = .ok (.bipush (-10), 2) := by decide +kernel
theorem dX11_enter_20 : decode cX11_enter 20 = .ok (.iload_n 3, 1) := by decide +kernel
theorem dX11_enter_21 : decode cX11_enter 21 = .ok (.isub, 1) := by decide +kernel
theorem dX11_enter_22 : decode cX11_enter 22 = .ok (.ireturn, 1) := by decide +kernel
theorem dX11_enter_23 : decode cX11_enter 23 = .ok (.aload_n 0, 1) := by decide +kernel
theorem dX11_enter_24 : decode cX11_enter 24 = .ok (.getfield 190, 3) := by decide +kernel
theorem dX11_enter_27 : decode cX11_enter 27 = .ok (.sipush 200, 3) := by decide +kernel
theorem dX11_enter_30 : decode cX11_enter 30 = .ok (.if_icmp .ne 6, 3) := by decide +kernel
theorem dX11_enter_33 : decode cX11_enter 33 = .ok (.bipush (-3), 2) := by decide +kernel
theorem dX11_enter_35 : decode cX11_enter 35 = .ok (.ireturn, 1) := by decide +kernel
theorem dX11_enter_36 : decode cX11_enter 36 = .ok (.aload_n 0, 1) := by decide +kernel
theorem dX11_enter_37 : decode cX11_enter 37 = .ok (.getfield 70, 3) := by decide +kernel
theorem dX11_enter_40 : decode cX11_enter 40 = .ok (.aload_n 0, 1) := by decide +kernel
theorem dX11_enter_41 : decode cX11_enter 41 = .ok (.getfield 190, 3) := by decide +kernel
theorem dX11_enter_44 : decode cX11_enter 44 = .ok (.iload_n 1, 1) := by decide +kernel
theorem dX11_enter_45 : decode cX11_enter 45 = .ok (.iastore, 1) := by decide +kernel
theorem dX11_enter_46 : decode cX11_enter 46 = .ok (.aload_n 0, 1) := by decide +kernel
theorem dX11_enter_47 : decode cX11_enter 47 = .ok (.getfield 73, 3) := by decide +kernel
theorem dX11_enter_50 : decode cX11_enter 50 = .ok (.aload_n 0, 1) := by decide +kernel
theorem dX11_enter_51 : decode cX11_enter 51 = .ok (.getfield 190, 3) := by decide +kernel
theorem dX11_enter_54 : decode cX11_enter 54 = .ok (.iload_n 2, 1) := by decide +kernel
theorem dX11_enter_55 : decode cX11_enter 55 = .ok (.iastore, 1) := by decide +kernel
theorem dX11_enter_56 : decode cX11_enter 56 = .ok (.aload_n 0, 1) := by decide +kernel
theorem dX11_enter_57 : decode cX11_enter 57 = .ok (.getfield 76, 3) := by decide +kernel
theorem dX11_enter_60 : decode cX11_enter 60 = .ok (.aload_n 0, 1) := by decide +kernel
theorem dX11_enter_61 : decode cX11_enter 61 = .ok (.getfield 190, 3) := by decide +kernel
theorem dX11_enter_64 : decode cX11_enter 64 = .ok (.iconst 1, 1) := by decide +kernel
theorem dX11_enter_65 : decode cX11_enter 65 = .ok (.bastore, 1) := by decide +kernel
theorem dX11_enter_66 : decode cX11_enter 66 = .ok (.aload_n 0, 1) := by decide +kernel
theorem dX11_enter_67 : decode cX11_enter 67 = .ok (.getfield 44, 3) := by decide +kernel
theorem dX11_enter_70 : decode cX11_enter 70 = .ok (.aload_n 0, 1) := by decide +kernel
theorem dX11_enter_71 : decode cX11_enter 71 = .ok (.getfield 190, 3) := by decide +kernel
theorem dX11_enter_74 : decode cX11_enter 74 = .ok (.aload_n 0, 1) := by decide +kernel
theorem dX11_enter_75 : decode cX11_enter 75 = .ok (.getfield 44, 3) := by decide +kernel
theorem dX11_enter_78 : decode cX11_enter 78 = .ok (.sipush 200, 3) := by decide +kernel
theorem dX11_enter_81 : decode cX11_enter 81 = .ok (.iaload, 1) := by decide +kernel
theorem dX11_enter_82 : decode cX11_enter 82 = .ok (.iastore, 1) := by decide +kernel
theorem dX11_enter_83 : decode cX11_enter 83 = .ok (.iconst 0, 1) := by decide +kernel
theorem dX11_enter_84 : decode cX11_enter 84 = .ok (.istore 4, 2) := by decide +kernel
theorem dX11_enter_86 : decode cX11_enter 86 = .ok (.iload 4, 2) := by decide +kernel
theorem dX11_enter_88 : decode cX11_enter 88 = .ok (.bipush 40, 2) := by decide +kernel
theorem dX11_enter_90 : decode cX11_enter 90 = .ok (.if_icmp .ge 35, 3) := by decide +kernel
theorem dX11_enter_93 : decode cX11_enter 93 = .ok (.aload_n 0, 1) := by decide +kernel
theorem dX11_enter_94 : decode cX11_enter 94 = .ok (.getfield 41, 3) := by decide +kernel
theorem dX11_enter_97 : decode cX11_enter 97 = .ok (.bipush 40, 2) := by decide +kernel
theorem dX11_enter_99 : decode cX11_enter 99 = .ok (.aload_n 0, 1) := by decide +kernel
theorem dX11_enter_100 : decode cX11_enter 100 = .ok (.getfield 190, 3) := by decide +kernel
theorem dX11_enter_103 : decode cX11_enter 103 = .ok (.imul, 1) := by decide +kernel
theorem dX11_enter_104 : decode cX11_enter 104 = .ok (.iload 4, 2) := by decide +kernel
theorem dX11_enter_106 : decode cX11_enter 106 = .ok (.iadd, 1) := by decide +kernel
theorem dX11_enter_107 : decode cX11_enter 107 = .ok (.aload_n 0, 1) := by decide +kernel
theorem dX11_enter_108 : decode cX11_enter 108 = .ok (.getfield 41, 3) := by decide +kernel
theorem dX11_enter_111 : decode cX11_enter 111 = .ok (.sipush 8000, 3) := by decide +kernel
theorem dX11_enter_114 : decode cX11_enter 114 = .ok (.iload 4, 2) := by decide +kernel
theorem dX11_enter_116 : decode cX11_enter 116 = .ok (.iadd, 1) := by decide +kernel
theorem dX11_enter_117 : decode cX11_enter 117 = .ok (.baload, 1) := by decide +kernel
theorem dX11_enter_118 : decode cX11_enter 118 = .ok (.bastore, 1) := by decide +kernel
theorem dX11_enter_119 : decode cX11_enter 119 = .ok (.iinc 4 1, 3) := by decide +kernel
theorem dX11_enter_122 : decode cX11_enter 122 = .ok (.goto (-36), 3) := by decide +kernel
theorem dX11_enter_125 : decode cX11_enter 125 = .ok (.aload_n 0, 1) := by decide +kernel
theorem dX11_enter_126 : decode cX11_enter 126 = .ok (.dup, 1) := by decide +kernel
theorem dX11_enter_127 : decode cX11_enter 127 = .ok (.getfield 190, 3) := by decide +kernel
theorem dX11_enter_130 : decode cX11_enter 130 = .ok (.iconst 1, 1) := by decide +kernel
theorem dX11_enter_131 : decode cX11_enter 131 = .ok (.iadd, 1) := by decide +kernel
theorem dX11_enter_132 : decode cX11_enter 132 = .ok (.putfield 190, 3) := by decide +kernel
theorem dX11_enter_135 : decode cX11_enter 135 = .ok (.aload_n 0, 1) := by decide +kernel
theorem dX11_enter_136 : decode cX11_enter 136 = .ok (.getfield 190, 3) := by decide +kernel
theorem dX11_enter_139 : decode cX11_enter 139 = .ok (.iconst 1, 1) := by decide +kernel
theorem dX11_enter_140 : decode cX11_enter 140 = .ok (.isub, 1) := by decide +kernel
theorem dX11_enter_141 : decode cX11_enter 141 = .ok (.ireturn, 1) := by decide +kernel
theorem dX11_isEntry_0 : decode cX11_isEntry 0 = .ok (.iload_n 1, 1) := by decide +kernel
theorem dX11_isEntry_1 : decode cX11_isEntry 1 = .ok (.iconst 0, 1) := by decide +kernel
theorem dX11_isEntry_2 : decode cX11_isEntry 2 = .ok (.aload_n 0, 1) := by decide +kernel
theorem dX11_isEntry_3 : decode cX11_isEntry 3 = .ok (.getfield 190, 3) := by decide +kernel
theorem dX11_isEntry_6 : decode cX11_isEntry 6 = .ok (.iconst 1, 1) := by decide +kernel
theorem dX11_isEntry_7 : decode cX11_isEntry 7 = .ok (.isub, 1) := by decide +kernel
theorem dX11_isEntry_8 : decode cX11_isEntry 8 = .ok (.invokestatic 106, 3) := by decide +kernel
theorem dX11_isEntry_11 : decode cX11_isEntry 11 = .ok (.ifCond .eq 16, 3) := by decide +kernel
theorem dX11_isEntry_14 : decode cX11_isEntry 14 = .ok (.aload_n 0, 1) := by decide +kernel
theorem dX11_isEntry_15 : decode cX11_isEntry 15 = .ok (.getfield 76, 3) := by decide +kernel
theorem dX11_isEntry_18 : decode cX11_isEntry 18 = .ok (.iload_n 1, 1) := by decide +kernel
theorem dX11_isEntry_19 : decode cX11_isEntry 19 = .ok (.baload, 1) := by decide +kernel
theorem dX11_isEntry_20 : decode cX11_isEntry 20 = .ok (.ifCond .eq 7, 3) := by decide +kernel
theorem dX11_isEntry_23 : decode cX11_isEntry 23 = .ok (.iconst 1, 1) := by decide +kernel
theorem dX11_isEntry_24 : decode cX11_isEntry 24 = .ok (.goto 4, 3) := by decide +kernel
theorem dX11_isEntry_27 : decode cX11_isEntry 27 = .ok (.iconst 0, 1) := by decide +kernel
theorem dX11_isEntry_28 : decode cX11_isEntry 28 = .ok (.ireturn, 1) := by decide +kernel
theorem dX11_strike_0 : decode cX11_strike 0 = .ok (.aload_n 0, 1) := by decide +kernel
theorem dX11_strike_1 : decode cX11_strike 1 = .ok (.iload_n 1, 1) := by decide +kernel
theorem dX11_strike_2 : decode cX11_strike 2 = .ok (.invokevirtual 205, 3) := by decide +kernel
theorem dX11_strike_5 : decode cX11_strike 5 = .ok (.ifCond .ne 6, 3) := by decide +kernel
theorem dX11_strike_8 : decode cX11_strike 8 = .ok (.bipush (-2), 2) := by decide +kernel
theorem dX11_strike_10 : decode cX11_strike 10 = .ok (.ireturn, 1) := by decide +kernel
theorem dX11_strike_11 : decode cX11_strike 11 = .ok (.aload_n 0, 1) := by decide +kernel
theorem dX11_strike_12 : decode cX11_strike 12 = .ok (.getfield 76, 3) := by decide +kernel
theorem dX11_strike_15 : decode cX11_strike 15 = .ok (.iload_n 1, 1) := by decide +kernel
theorem dX11_strike_16 : decode cX11_strike 16 = .ok (.iconst 0, 1) := by decide +kernel
theorem dX11_strike_17 : decode cX11_strike 17 = .ok (.bastore, 1) := by decide +kernel
theorem dX11_strike_18 : decode cX11_strike 18 = .ok (.iconst 1, 1) := by decide +kernel
theorem dX11_strike_19 : decode cX11_strike 19 = .ok (.ireturn, 1) := by decide +kernel
theorem dX11_entry_0 : decode cX11_entry 0 = .ok (.iload_n 1, 1) := by decide +kernel
theorem dX11_entry_1 : decode cX11_entry 1 = .ok (.iconst 0, 1) := by decide +kernel
theorem dX11_entry_2 : decode cX11_entry 2 = .ok (.aload_n 0, 1) := by decide +kernel
theorem dX11_entry_3 : decode cX11_entry 3 = .ok (.getfield 190, 3) := by decide +kernel
theorem dX11_entry_6 : decode cX11_entry 6 = .ok (.iconst 1, 1) := by decide +kernel
theorem dX11_entry_7 : decode cX11_entry 7 = .ok (.isub, 1) := by decide +kernel
theorem dX11_entry_8 : decode cX11_entry 8 = .ok (.invokestatic 106, 3) := by decide +kernel
theorem dX11_entry_11 : decode cX11_entry 11 = .ok (.ifCond .ne 5, 3) := by decide +kernel
theorem dX11_entry_14 : decode cX11_entry 14 = .ok (.iconst (-1), 1) := by decide +kernel
theorem dX11_entry_15 : decode cX11_entry 15 = .ok (.ireturn, 1) := by decide +kernel
theorem dX11_entry_16 : decode cX11_entry 16 = .ok (.iload_n 2, 1) := by decide +kernel
theorem dX11_entry_17 : decode cX11_entry 17 = .ok (.tableswitch 81 0 4 #[35, 42, 49, 56, 66], 35) := by decide +kernel
theorem dX11_entry_52 : decode cX11_entry 52 = .ok (.aload_n 0, 1) := by decide +kernel
theorem dX11_entry_53 : decode cX11_entry 53 = .ok (.getfield 70, 3) := by decide +kernel
theorem dX11_entry_56 : decode cX11_entry 56 = .ok (.iload_n 1, 1) := by decide +kernel
theorem dX11_entry_57 : decode cX11_entry 57 = .ok (.iaload, 1) := by decide +kernel
theorem dX11_entry_58 : decode cX11_entry 58 = .ok (.ireturn, 1) := by decide +kernel
theorem dX11_entry_59 : decode cX11_entry 59 = .ok (.aload_n 0, 1) := by decide +kernel
theorem dX11_entry_60 : decode cX11_entry 60 = .ok (.getfield 73, 3) := by decide +kernel
theorem dX11_entry_63 : decode cX11_entry 63 = .ok (.iload_n 1, 1) := by decide +kernel
theorem dX11_entry_64 : decode cX11_entry 64 = .ok (.iaload, 1) := by decide +kernel
theorem dX11_entry_65 : decode cX11_entry 65 = .ok (.ireturn, 1) := by decide +kernel
theorem dX11_entry_66 : decode cX11_entry 66 = .ok (.aload_n 0, 1) := by decide +kernel
theorem dX11_entry_67 : decode cX11_entry 67 = .ok (.getfield 44, 3) := by decide +kernel
theorem dX11_entry_70 : decode cX11_entry 70 = .ok (.iload_n 1, 1) := by decide +kernel
theorem dX11_entry_71 : decode cX11_entry 71 = .ok (.iaload, 1) := by decide +kernel
theorem dX11_entry_72 : decode cX11_entry 72 = .ok (.ireturn, 1) := by decide +kernel
theorem dX11_entry_73 : decode cX11_entry 73 = .ok (.aload_n 0, 1) := by decide +kernel
theorem dX11_entry_74 : decode cX11_entry 74 = .ok (.iload_n 1, 1) := by decide +kernel
theorem dX11_entry_75 : decode cX11_entry 75 = .ok (.aload_n 0, 1) := by decide +kernel
theorem dX11_entry_76 : decode cX11_entry 76 = .ok (.getfield 54, 3) := by decide +kernel
theorem dX11_entry_79 : decode cX11_entry 79 = .ok (.invokevirtual 162, 3) := by decide +kernel
theorem dX11_entry_82 : decode cX11_entry 82 = .ok (.ireturn, 1) := by decide +kernel
theorem dX11_entry_83 : decode cX11_entry 83 = .ok (.aload_n 0, 1) := by decide +kernel
theorem dX11_entry_84 : decode cX11_entry 84 = .ok (.getfield 76, 3) := by decide +kernel
theorem dX11_entry_87 : decode cX11_entry 87 = .ok (.iload_n 1, 1) := by decide +kernel
theorem dX11_entry_88 : decode cX11_entry 88 = .ok (.baload, 1) := by decide +kernel
theorem dX11_entry_89 : decode cX11_entry 89 = .ok (.ifCond .eq 7, 3) := by decide +kernel
theorem dX11_entry_92 : decode cX11_entry 92 = .ok (.iconst 1, 1) := by decide +kernel
theorem dX11_entry_93 : decode cX11_entry 93 = .ok (.goto 4, 3) := by decide +kernel
theorem dX11_entry_96 : decode cX11_entry 96 = .ok (.iconst 0, 1) := by decide +kernel
theorem dX11_entry_97 : decode cX11_entry 97 = .ok (.ireturn, 1) := by decide +kernel
theorem dX11_entry_98 : decode cX11_entry 98 = .ok (.iload_n 2, 1) := by decide +kernel
theorem dX11_entry_99 : decode cX11_entry 99 = .ok (.bipush 20, 2) := by decide +kernel
theorem dX11_entry_101 : decode cX11_entry 101 = .ok (.bipush 19, 2) := by decide +kernel
theorem dX11_entry_103 : decode cX11_entry 103 = .ok (.aload_n 0, 1) := by decide +kernel
theorem dX11_entry_104 : decode cX11_entry 104 = .ok (.getfield 44, 3) := by decide +kernel
theorem dX11_entry_107 : decode cX11_entry 107 = .ok (.iload_n 1, 1) := by decide +kernel
theorem dX11_entry_108 : decode cX11_entry 108 = .ok (.iaload, 1) := by decide +kernel
theorem dX11_entry_109 : decode cX11_entry 109 = .ok (.iadd, 1) := by decide +kernel
theorem dX11_entry_110 : decode cX11_entry 110 = .ok (.invokestatic 106, 3) := by decide +kernel
theorem dX11_entry_113 : decode cX11_entry 113 = .ok (.ifCond .eq 20, 3) := by decide +kernel
theorem dX11_entry_116 : decode cX11_entry 116 = .ok (.aload_n 0, 1) := by decide +kernel
theorem dX11_entry_117 : decode cX11_entry 117 = .ok (.getfield 41, 3) := by decide +kernel
theorem dX11_entry_120 : decode cX11_entry 120 = .ok (.bipush 40, 2) := by decide +kernel
theorem dX11_entry_122 : decode cX11_entry 122 = .ok (.iload_n 1, 1) := by decide +kernel
theorem dX11_entry_123 : decode cX11_entry 123 = .ok (.imul, 1) := by decide +kernel
theorem dX11_entry_124 : decode cX11_entry 124 = .ok (.iload_n 2, 1) := by decide +kernel
theorem dX11_entry_125 : decode cX11_entry 125 = .ok (.iadd, 1) := by decide +kernel
theorem dX11_entry_126 : decode cX11_entry 126 = .ok (.bipush 20, 2) := by decide +kernel
theorem dX11_entry_128 : decode cX11_entry 128 = .ok (.isub, 1) := by decide +kernel
theorem dX11_entry_129 : decode cX11_entry 129 = .ok (.baload, 1) := by decide +kernel
theorem dX11_entry_130 : decode cX11_entry 130 = .ok (.goto 4, 3) := by decide +kernel
theorem dX11_entry_133 : decode cX11_entry 133 = .ok (.iconst (-1), 1) := by decide +kernel
theorem dX11_entry_134 : decode cX11_entry 134 = .ok (.ireturn, 1) := by decide +kernel
theorem dX11_far_0 : decode cX11_far 0 = .ok (.aload_n 0, 1) := by decide +kernel
theorem dX11_far_1 : decode cX11_far 1 = .ok (.iload_n 1, 1) := by decide +kernel
theorem dX11_far_2 : decode cX11_far 2 = .ok (.invokevirtual 205, 3) := by decide +kernel
theorem dX11_far_5 : decode cX11_far 5 = .ok (.ifCond .ne 6, 3) := by decide +kernel
theorem dX11_far_8 : decode cX11_far 8 = .ok (.bipush (-2), 2) := by decide +kernel
theorem dX11_far_10 : decode cX11_far 10 = .ok (.ireturn, 1) := by decide +kernel
theorem dX11_far_11 : decode cX11_far 11 = .ok (.aload_n 0, 1) := by decide +kernel
theorem dX11_far_12 : decode cX11_far 12 = .ok (.getfield 158, 3) := by decide +kernel
theorem dX11_far_15 : decode cX11_far 15 = .ok (.ifCond .ne 5, 3) := by decide +kernel
theorem dX11_far_18 : decode cX11_far 18 = .ok (.iconst (-1), 1) := by decide +kernel
theorem dX11_far_19 : decode cX11_far 19 = .ok (.ireturn, 1) := by decide +kernel
theorem dX11_far_20 : decode cX11_far 20 = .ok (.aload_n 0, 1) := by decide +kernel
theorem dX11_far_21 : decode cX11_far 21 = .ok (.sipush 200, 3) := by decide +kernel
theorem dX11_far_24 : decode cX11_far 24 = .ok (.iload_n 1, 1) := by decide +kernel
theorem dX11_far_25 : decode cX11_far 25 = .ok (.invokevirtual 199, 3) := by decide +kernel
theorem dX11_far_28 : decode cX11_far 28 = .ok (.istore_n 2, 1) := by decide +kernel
theorem dX11_far_29 : decode cX11_far 29 = .ok (.iload_n 2, 1) := by decide +kernel
theorem dX11_far_30 : decode cX11_far 30 = .ok (.ldc 134, 2) := by decide +kernel
theorem dX11_far_32 : decode cX11_far 32 = .ok (.if_icmp .lt 7, 3) := by decide +kernel
theorem dX11_far_35 : decode cX11_far 35 = .ok (.iconst (-1), 1) := by decide +kernel
theorem dX11_far_36 : decode cX11_far 36 = .ok (.goto 4, 3) := by decide +kernel
theorem dX11_far_39 : decode cX11_far 39 = .ok (.iload_n 2, 1) := by decide +kernel
theorem dX11_far_40 : decode cX11_far 40 = .ok (.ireturn, 1) := by decide +kernel
theorem dX11_near_0 : decode cX11_near 0 = .ok (.iload_n 1, 1) := by decide +kernel
theorem dX11_near_1 : decode cX11_near 1 = .ok (.invokestatic 187, 3) := by decide +kernel
theorem dX11_near_4 : decode cX11_near 4 = .ok (.ifCond .eq 14, 3) := by decide +kernel
theorem dX11_near_7 : decode cX11_near 7 = .ok (.iload_n 2, 1) := by decide +kernel
theorem dX11_near_8 : decode cX11_near 8 = .ok (.iconst 0, 1) := by decide +kernel
theorem dX11_near_9 : decode cX11_near 9 = .ok (.sipush 200, 3) := by decide +kernel
theorem dX11_near_12 : decode cX11_near 12 = .ok (.invokestatic 106, 3) := by decide +kernel
theorem dX11_near_15 : decode cX11_near 15 = .ok (.ifCond .ne 6, 3) := by decide +kernel
theorem dX11_near_18 : decode cX11_near 18 = .ok (.bipush (-2), 2) := by decide +kernel
theorem dX11_near_20 : decode cX11_near 20 = .ok (.ireturn, 1) := by decide +kernel
theorem dX11_near_21 : decode cX11_near 21 = .ok (.aload_n 0, 1) := by decide +kernel
theorem dX11_near_22 : decode cX11_near 22 = .ok (.getfield 158, 3) := by decide +kernel
theorem dX11_near_25 : decode cX11_near 25 = .ok (.ifCond .ne 5, 3) := by decide +kernel
theorem dX11_near_28 : decode cX11_near 28 = .ok (.iconst (-1), 1) := by decide +kernel
theorem dX11_near_29 : decode cX11_near 29 = .ok (.ireturn, 1) := by decide +kernel
theorem dX11_near_30 : decode cX11_near 30 = .ok (.aload_n 0, 1) := by decide +kernel
theorem dX11_near_31 : decode cX11_near 31 = .ok (.iconst 0, 1) := by decide +kernel
theorem dX11_near_32 : decode cX11_near 32 = .ok (.putfield 208, 3) := by decide +kernel
theorem dX11_near_35 : decode cX11_near 35 = .ok (.iconst 0, 1) := by decide +kernel
theorem dX11_near_36 : decode cX11_near 36 = .ok (.istore_n 3, 1) := by decide +kernel
theorem dX11_near_37 : decode cX11_near 37 = .ok (.iload_n 3, 1) := by decide +kernel
theorem dX11_near_38 : decode cX11_near 38 = .ok (.aload_n 0, 1) := by decide +kernel
theorem dX11_near_39 : decode cX11_near 39 = .ok (.getfield 190, 3) := by decide +kernel
theorem dX11_near_42 : decode cX11_near 42 = .ok (.if_icmp .ge 130, 3) := by decide +kernel
theorem dX11_near_45 : decode cX11_near 45 = .ok (.aload_n 0, 1) := by decide +kernel
theorem dX11_near_46 : decode cX11_near 46 = .ok (.iload_n 3, 1) := by decide +kernel
theorem dX11_near_47 : decode cX11_near 47 = .ok (.iload_n 1, 1) := by decide +kernel
theorem dX11_near_48 : decode cX11_near 48 = .ok (.invokevirtual 193, 3) := by decide +kernel
theorem dX11_near_51 : decode cX11_near 51 = .ok (.ifCond .ne 6, 3) := by decide +kernel
theorem dX11_near_54 : decode cX11_near 54 = .ok (.goto 112, 3) := by decide +kernel
theorem dX11_near_57 : decode cX11_near 57 = .ok (.aload_n 0, 1) := by decide +kernel
theorem dX11_near_58 : decode cX11_near 58 = .ok (.sipush 200, 3) := by decide +kernel
theorem dX11_near_61 : decode cX11_near 61 = .ok (.iload_n 3, 1) := by decide +kernel
theorem dX11_near_62 : decode cX11_near 62 = .ok (.invokevirtual 199, 3) := by decide +kernel
theorem dX11_near_65 : decode cX11_near 65 = .ok (.istore 4, 2) := by decide +kernel
theorem dX11_near_67 : decode cX11_near 67 = .ok (.iload 4, 2) := by decide +kernel
theorem dX11_near_69 : decode cX11_near 69 = .ok (.iload_n 2, 1) := by decide +kernel
theorem dX11_near_70 : decode cX11_near 70 = .ok (.if_icmp .le 6, 3) := by decide +kernel
theorem dX11_near_73 : decode cX11_near 73 = .ok (.goto 93, 3) := by decide +kernel
theorem dX11_near_76 : decode cX11_near 76 = .ok (.aload_n 0, 1) := by decide +kernel
theorem dX11_near_77 : decode cX11_near 77 = .ok (.getfield 208, 3) := by decide +kernel
theorem dX11_near_80 : decode cX11_near 80 = .ok (.istore 5, 2) := by decide +kernel
theorem dX11_near_82 : decode cX11_near 82 = .ok (.iload 5, 2) := by decide +kernel
theorem dX11_near_84 : decode cX11_near 84 = .ok (.ifCond .le 55, 3) := by decide +kernel
theorem dX11_near_87 : decode cX11_near 87 = .ok (.aload_n 0, 1) := by decide +kernel
theorem dX11_near_88 : decode cX11_near 88 = .ok (.getfield 82, 3) := by decide +kernel
theorem dX11_near_91 : decode cX11_near 91 = .ok (.iload 5, 2) := by decide +kernel
theorem dX11_near_93 : decode cX11_near 93 = .ok (.iconst 1, 1) := by decide +kernel
theorem dX11_near_94 : decode cX11_near 94 = .ok (.isub, 1) := by decide +kernel
theorem dX11_near_95 : decode cX11_near 95 = .ok (.iaload, 1) := by decide +kernel
theorem dX11_near_96 : decode cX11_near 96 = .ok (.iload 4, 2) := by decide +kernel
theorem dX11_near_98 : decode cX11_near 98 = .ok (.if_icmp .le 41, 3) := by decide +kernel
theorem dX11_near_101 : decode cX11_near 101 = .ok (.aload_n 0, 1) := by decide +kernel
theorem dX11_near_102 : decode cX11_near 102 = .ok (.getfield 79, 3) := by decide +kernel
theorem dX11_near_105 : decode cX11_near 105 = .ok (.iload 5, 2) := by decide +kernel
theorem dX11_near_107 : decode cX11_near 107 = .ok (.aload_n 0, 1) := by decide +kernel
theorem dX11_near_108 : decode cX11_near 108 = .ok (.getfield 79, 3) := by decide +kernel
theorem dX11_near_111 : decode cX11_near 111 = .ok (.iload 5, 2) := by decide +kernel
theorem dX11_near_113 : decode cX11_near 113 = .ok (.iconst 1, 1) := by decide +kernel
theorem dX11_near_114 : decode cX11_near 114 = .ok (.isub, 1) := by decide +kernel
theorem dX11_near_115 : decode cX11_near 115 = .ok (.iaload, 1) := by decide +kernel
theorem dX11_near_116 : decode cX11_near 116 = .ok (.iastore, 1) := by decide +kernel
theorem dX11_near_117 : decode cX11_near 117 = .ok (.aload_n 0, 1) := by decide +kernel
theorem dX11_near_118 : decode cX11_near 118 = .ok (.getfield 82, 3) := by decide +kernel
theorem dX11_near_121 : decode cX11_near 121 = .ok (.iload 5, 2) := by decide +kernel
theorem dX11_near_123 : decode cX11_near 123 = .ok (.aload_n 0, 1) := by decide +kernel
theorem dX11_near_124 : decode cX11_near 124 = .ok (.getfield 82, 3) := by decide +kernel
theorem dX11_near_127 : decode cX11_near 127 = .ok (.iload 5, 2) := by decide +kernel
theorem dX11_near_129 : decode cX11_near 129 = .ok (.iconst 1, 1) := by decide +kernel
theorem dX11_near_130 : decode cX11_near 130 = .ok (.isub, 1) := by decide +kernel
theorem dX11_near_131 : decode cX11_near 131 = .ok (.iaload, 1) := by decide +kernel
theorem dX11_near_132 : decode cX11_near 132 = .ok (.iastore, 1) := by decide +kernel
theorem dX11_near_133 : decode cX11_near 133 = .ok (.iinc 5 (-1), 3) := by decide +kernel
theorem dX11_near_136 : decode cX11_near 136 = .ok (.goto (-54), 3) := by decide +kernel
theorem dX11_near_139 : decode cX11_near 139 = .ok (.aload_n 0, 1) := by decide +kernel
theorem dX11_near_140 : decode cX11_near 140 = .ok (.getfield 79, 3) := by decide +kernel
theorem dX11_near_143 : decode cX11_near 143 = .ok (.iload 5, 2) := by decide +kernel
theorem dX11_near_145 : decode cX11_near 145 = .ok (.iload_n 3, 1) := by decide +kernel
theorem dX11_near_146 : decode cX11_near 146 = .ok (.iastore, 1) := by decide +kernel
theorem dX11_near_147 : decode cX11_near 147 = .ok (.aload_n 0, 1) := by decide +kernel
theorem dX11_near_148 : decode cX11_near 148 = .ok (.getfield 82, 3) := by decide +kernel
theorem dX11_near_151 : decode cX11_near 151 = .ok (.iload 5, 2) := by decide +kernel
theorem dX11_near_153 : decode cX11_near 153 = .ok (.iload 4, 2) := by decide +kernel
theorem dX11_near_155 : decode cX11_near 155 = .ok (.iastore, 1) := by decide +kernel
theorem dX11_near_156 : decode cX11_near 156 = .ok (.aload_n 0, 1) := by decide +kernel
theorem dX11_near_157 : decode cX11_near 157 = .ok (.dup, 1) := by decide +kernel
theorem dX11_near_158 : decode cX11_near 158 = .ok (.getfield 208, 3) := by decide +kernel
theorem dX11_near_161 : decode cX11_near 161 = .ok (.iconst 1, 1) := by decide +kernel
theorem dX11_near_162 : decode cX11_near 162 = .ok (.iadd, 1) := by decide +kernel
theorem dX11_near_163 : decode cX11_near 163 = .ok (.putfield 208, 3) := by decide +kernel
theorem dX11_near_166 : decode cX11_near 166 = .ok (.iinc 3 1, 3) := by decide +kernel
theorem dX11_near_169 : decode cX11_near 169 = .ok (.goto (-132), 3) := by decide +kernel
theorem dX11_near_172 : decode cX11_near 172 = .ok (.aload_n 0, 1) := by decide +kernel
theorem dX11_near_173 : decode cX11_near 173 = .ok (.getfield 208, 3) := by decide +kernel
theorem dX11_near_176 : decode cX11_near 176 = .ok (.ireturn, 1) := by decide +kernel
theorem dX11_nearest_0 : decode cX11_nearest 0 = .ok (.iload_n 1, 1) := by decide +kernel
theorem dX11_nearest_1 : decode cX11_nearest 1 = .ok (.iconst 0, 1) := by decide +kernel
theorem dX11_nearest_2 : decode cX11_nearest 2 = .ok (.aload_n 0, 1) := by decide +kernel
theorem dX11_nearest_3 : decode cX11_nearest 3 = .ok (.getfield 208, 3) := by decide +kernel
theorem dX11_nearest_6 : decode cX11_nearest 6 = .ok (.iconst 1, 1) := by decide +kernel
theorem dX11_nearest_7 : decode cX11_nearest 7 = .ok (.isub, 1) := by decide +kernel
theorem dX11_nearest_8 : decode cX11_nearest 8 = .ok (.invokestatic 106, 3) := by decide +kernel
theorem dX11_nearest_11 : decode cX11_nearest 11 = .ok (.ifCond .ne 5, 3) := by decide +kernel
theorem dX11_nearest_14 : decode cX11_nearest 14 = .ok (.iconst (-1), 1) := by decide +kernel
theorem dX11_nearest_15 : decode cX11_nearest 15 = .ok (.ireturn, 1) := by decide +kernel
theorem dX11_nearest_16 : decode cX11_nearest 16 = .ok (.iload_n 2, 1) := by decide +kernel
theorem dX11_nearest_17 : decode cX11_nearest 17 = .ok (.ifCond .ne 12, 3) := by decide +kernel
theorem dX11_nearest_20 : decode cX11_nearest 20 = .ok (.aload_n 0, 1) := by decide +kernel
theorem dX11_nearest_21 : decode cX11_nearest 21 = .ok (.getfield 79, 3) := by decide +kernel
theorem dX11_nearest_24 : decode cX11_nearest 24 = .ok (.iload_n 1, 1) := by decide +kernel
theorem dX11_nearest_25 : decode cX11_nearest 25 = .ok (.iaload, 1) := by decide +kernel
theorem dX11_nearest_26 : decode cX11_nearest 26 = .ok (.goto 18, 3) := by decide +kernel
theorem dX11_nearest_29 : decode cX11_nearest 29 = .ok (.iload_n 2, 1) := by decide +kernel
theorem dX11_nearest_30 : decode cX11_nearest 30 = .ok (.iconst 1, 1) := by decide +kernel
theorem dX11_nearest_31 : decode cX11_nearest 31 = .ok (.if_icmp .ne 12, 3) := by decide +kernel
theorem dX11_nearest_34 : decode cX11_nearest 34 = .ok (.aload_n 0, 1) := by decide +kernel
theorem dX11_nearest_35 : decode cX11_nearest 35 = .ok (.getfield 82, 3) := by decide +kernel
theorem dX11_nearest_38 : decode cX11_nearest 38 = .ok (.iload_n 1, 1) := by decide +kernel
theorem dX11_nearest_39 : decode cX11_nearest 39 = .ok (.iaload, 1) := by decide +kernel
theorem dX11_nearest_40 : decode cX11_nearest 40 = .ok (.goto 4, 3) := by decide +kernel
theorem dX11_nearest_43 : decode cX11_nearest 43 = .ok (.iconst (-1), 1) := by decide +kernel
theorem dX11_nearest_44 : decode cX11_nearest 44 = .ok (.ireturn, 1) := by decide +kernel
theorem dX11_ways_0 : decode cX11_ways 0 = .ok (.aload_n 0, 1) := by decide +kernel
theorem dX11_ways_1 : decode cX11_ways 1 = .ok (.iload_n 1, 1) := by decide +kernel
theorem dX11_ways_2 : decode cX11_ways 2 = .ok (.invokevirtual 205, 3) := by decide +kernel
theorem dX11_ways_5 : decode cX11_ways 5 = .ok (.ifCond .ne 6, 3) := by decide +kernel
theorem dX11_ways_8 : decode cX11_ways 8 = .ok (.bipush (-2), 2) := by decide +kernel
theorem dX11_ways_10 : decode cX11_ways 10 = .ok (.ireturn, 1) := by decide +kernel
theorem dX11_ways_11 : decode cX11_ways 11 = .ok (.aload_n 0, 1) := by decide +kernel
theorem dX11_ways_12 : decode cX11_ways 12 = .ok (.getfield 158, 3) := by decide +kernel
theorem dX11_ways_15 : decode cX11_ways 15 = .ok (.ifCond .eq 16, 3) := by decide +kernel
theorem dX11_ways_18 : decode cX11_ways 18 = .ok (.aload_n 0, 1) := by decide +kernel
theorem dX11_ways_19 : decode cX11_ways 19 = .ok (.sipush 200, 3) := by decide +kernel
theorem dX11_ways_22 : decode cX11_ways 22 = .ok (.iload_n 1, 1) := by decide +kernel
theorem dX11_ways_23 : decode cX11_ways 23 = .ok (.invokevirtual 199, 3) := by decide +kernel
theorem dX11_ways_26 : decode cX11_ways 26 = .ok (.ldc 134, 2) := by decide +kernel
theorem dX11_ways_28 : decode cX11_ways 28 = .ok (.if_icmp .lt 5, 3) := by decide +kernel
theorem dX11_ways_31 : decode cX11_ways 31 = .ok (.iconst (-1), 1) := by decide +kernel
theorem dX11_ways_32 : decode cX11_ways 32 = .ok (.ireturn, 1) := by decide +kernel
theorem dX11_ways_33 : decode cX11_ways 33 = .ok (.aload_n 0, 1) := by decide +kernel
theorem dX11_ways_34 : decode cX11_ways 34 = .ok (.iconst 0, 1) := by decide +kernel
theorem dX11_ways_35 : decode cX11_ways 35 = .ok (.putfield 211, 3) := by decide +kernel
theorem dX11_ways_38 : decode cX11_ways 38 = .ok (.iconst 0, 1) := by decide +kernel
theorem dX11_ways_39 : decode cX11_ways 39 = .ok (.istore_n 2, 1) := by decide +kernel
theorem dX11_ways_40 : decode cX11_ways 40 = .ok (.iconst 0, 1) := by decide +kernel
theorem dX11_ways_41 : decode cX11_ways 41 = .ok (.istore_n 3, 1) := by decide +kernel
theorem dX11_ways_42 : decode cX11_ways 42 = .ok (.iload_n 2, 1) := by decide +kernel
theorem dX11_ways_43 : decode cX11_ways 43 = .ok (.aload_n 0, 1) := by decide +kernel
theorem dX11_ways_44 : decode cX11_ways 44 = .ok (.getfield 177, 3) := by decide +kernel
theorem dX11_ways_47 : decode cX11_ways 47 = .ok (.if_icmp .lt 11, 3) := by decide +kernel
theorem dX11_ways_50 : decode cX11_ways 50 = .ok (.iload_n 3, 1) := by decide +kernel
theorem dX11_ways_51 : decode cX11_ways 51 = .ok (.aload_n 0, 1) := by decide +kernel
theorem dX11_ways_52 : decode cX11_ways 52 = .ok (.getfield 180, 3) := by decide +kernel
theorem dX11_ways_55 : decode cX11_ways 55 = .ok (.if_icmp .ge 207, 3) := by decide +kernel
theorem dX11_ways_58 : decode cX11_ways 58 = .ok (.aload_n 0, 1) := by decide +kernel
theorem dX11_ways_59 : decode cX11_ways 59 = .ok (.getfield 57, 3) := by decide +kernel
theorem dX11_ways_62 : decode cX11_ways 62 = .ok (.bipush 41, 2) := by decide +kernel
theorem dX11_ways_64 : decode cX11_ways 64 = .ok (.iload_n 2, 1) := by decide +kernel
theorem dX11_ways_65 : decode cX11_ways 65 = .ok (.imul, 1) := by decide +kernel
theorem dX11_ways_66 : decode cX11_ways 66 = .ok (.iload_n 3, 1) := by decide +kernel
theorem dX11_ways_67 : decode cX11_ways 67 = .ok (.iadd, 1) := by decide +kernel
theorem dX11_ways_68 : decode cX11_ways 68 = .ok (.iaload, 1) := by decide +kernel
theorem dX11_ways_69 : decode cX11_ways 69 = .ok (.istore 4, 2) := by decide +kernel
theorem dX11_ways_71 : decode cX11_ways 71 = .ok (.iconst 0, 1) := by decide +kernel
theorem dX11_ways_72 : decode cX11_ways 72 = .ok (.istore 5, 2) := by decide +kernel
theorem dX11_ways_74 : decode cX11_ways 74 = .ok (.iconst 1, 1) := by decide +kernel
theorem dX11_ways_75 : decode cX11_ways 75 = .ok (.istore 6, 2) := by decide +kernel
theorem dX11_ways_77 : decode cX11_ways 77 = .ok (.iload 6, 2) := by decide +kernel
theorem dX11_ways_79 : decode cX11_ways 79 = .ok (.iconst 2, 1) := by decide +kernel
theorem dX11_ways_80 : decode cX11_ways 80 = .ok (.if_icmp .gt 179, 3) := by decide +kernel
theorem dX11_ways_83 : decode cX11_ways 83 = .ok (.iload 5, 2) := by decide +kernel
theorem dX11_ways_85 : decode cX11_ways 85 = .ok (.ifCond .ne 174, 3) := by decide +kernel
theorem dX11_ways_88 : decode cX11_ways 88 = .ok (.iconst 1, 1) := by decide +kernel
theorem dX11_ways_89 : decode cX11_ways 89 = .ok (.istore 7, 2) := by decide +kernel
theorem dX11_ways_91 : decode cX11_ways 91 = .ok (.iload 7, 2) := by decide +kernel
theorem dX11_ways_93 : decode cX11_ways 93 = .ok (.iconst 2, 1) := by decide +kernel
theorem dX11_ways_94 : decode cX11_ways 94 = .ok (.if_icmp .gt 159, 3) := by decide +kernel
theorem dX11_ways_97 : decode cX11_ways 97 = .ok (.iload 5, 2) := by decide +kernel
theorem dX11_ways_99 : decode cX11_ways 99 = .ok (.ifCond .ne 154, 3) := by decide +kernel
theorem dX11_ways_102 : decode cX11_ways 102 = .ok (.iload_n 2, 1) := by decide +kernel
theorem dX11_ways_103 : decode cX11_ways 103 = .ok (.iload 6, 2) := by decide +kernel
theorem dX11_ways_105 : decode cX11_ways 105 = .ok (.iadd, 1) := by decide +kernel
theorem dX11_ways_106 : decode cX11_ways 106 = .ok (.aload_n 0, 1) := by decide +kernel
theorem dX11_ways_107 : decode cX11_ways 107 = .ok (.getfield 177, 3) := by decide +kernel
theorem dX11_ways_110 : decode cX11_ways 110 = .ok (.if_icmp .gt 137, 3) := by decide +kernel
theorem dX11_ways_113 : decode cX11_ways 113 = .ok (.iload_n 3, 1) := by decide +kernel
theorem dX11_ways_114 : decode cX11_ways 114 = .ok (.iload 7, 2) := by decide +kernel
theorem dX11_ways_116 : decode cX11_ways 116 = .ok (.iadd, 1) := by decide +kernel
theorem dX11_ways_117 : decode cX11_ways 117 = .ok (.aload_n 0, 1) := by decide +kernel
theorem dX11_ways_118 : decode cX11_ways 118 = .ok (.getfield 180, 3) := by decide +kernel
theorem dX11_ways_121 : decode cX11_ways 121 = .ok (.if_icmp .le 6, 3) := by decide +kernel
theorem dX11_ways_124 : decode cX11_ways 124 = .ok (.goto 123, 3) := by decide +kernel
theorem dX11_ways_127 : decode cX11_ways 127 = .ok (.aload_n 0, 1) := by decide +kernel
theorem dX11_ways_128 : decode cX11_ways 128 = .ok (.getfield 51, 3) := by decide +kernel
theorem dX11_ways_131 : decode cX11_ways 131 = .ok (.iload_n 2, 1) := by decide +kernel
theorem dX11_ways_132 : decode cX11_ways 132 = .ok (.iload 6, 2) := by decide +kernel
theorem dX11_ways_134 : decode cX11_ways 134 = .ok (.invokestatic 183, 3) := by decide +kernel
theorem dX11_ways_137 : decode cX11_ways 137 = .ok (.istore 8, 2) := by decide +kernel
theorem dX11_ways_139 : decode cX11_ways 139 = .ok (.aload_n 0, 1) := by decide +kernel
theorem dX11_ways_140 : decode cX11_ways 140 = .ok (.getfield 54, 3) := by decide +kernel
theorem dX11_ways_143 : decode cX11_ways 143 = .ok (.iload_n 3, 1) := by decide +kernel
theorem dX11_ways_144 : decode cX11_ways 144 = .ok (.iload 7, 2) := by decide +kernel
theorem dX11_ways_146 : decode cX11_ways 146 = .ok (.invokestatic 183, 3) := by decide +kernel
theorem dX11_ways_149 : decode cX11_ways 149 = .ok (.istore 9, 2) := by decide +kernel
theorem dX11_ways_151 : decode cX11_ways 151 = .ok (.aload_n 0, 1) := by decide +kernel
theorem dX11_ways_152 : decode cX11_ways 152 = .ok (.iload 8, 2) := by decide +kernel
theorem dX11_ways_154 : decode cX11_ways 154 = .ok (.iload 9, 2) := by decide +kernel
theorem dX11_ways_156 : decode cX11_ways 156 = .ok (.invokevirtual 138, 3) := by decide +kernel
theorem dX11_ways_159 : decode cX11_ways 159 = .ok (.aload_n 0, 1) := by decide +kernel
theorem dX11_ways_160 : decode cX11_ways 160 = .ok (.getfield 57, 3) := by decide +kernel
theorem dX11_ways_163 : decode cX11_ways 163 = .ok (.bipush 41, 2) := by decide +kernel
theorem dX11_ways_165 : decode cX11_ways 165 = .ok (.iload_n 2, 1) := by decide +kernel
theorem dX11_ways_166 : decode cX11_ways 166 = .ok (.iload 6, 2) := by decide +kernel
theorem dX11_ways_168 : decode cX11_ways 168 = .ok (.iadd, 1) := by decide +kernel
theorem dX11_ways_169 : decode cX11_ways 169 = .ok (.imul, 1) := by decide +kernel
theorem dX11_ways_170 : decode cX11_ways 170 = .ok (.iload_n 3, 1) := by decide +kernel
theorem dX11_ways_171 : decode cX11_ways 171 = .ok (.iadd, 1) := by decide +kernel
theorem dX11_ways_172 : decode cX11_ways 172 = .ok (.iload 7, 2) := by decide +kernel
theorem dX11_ways_174 : decode cX11_ways 174 = .ok (.iadd, 1) := by decide +kernel
theorem dX11_ways_175 : decode cX11_ways 175 = .ok (.iaload, 1) := by decide +kernel
theorem dX11_ways_176 : decode cX11_ways 176 = .ok (.iadd, 1) := by decide +kernel
theorem dX11_ways_177 : decode cX11_ways 177 = .ok (.iload 4, 2) := by decide +kernel
theorem dX11_ways_179 : decode cX11_ways 179 = .ok (.if_icmp .eq 6, 3) := by decide +kernel
theorem dX11_ways_182 : decode cX11_ways 182 = .ok (.goto 65, 3) := by decide +kernel
theorem dX11_ways_185 : decode cX11_ways 185 = .ok (.aload_n 0, 1) := by decide +kernel
theorem dX11_ways_186 : decode cX11_ways 186 = .ok (.getfield 85, 3) := by decide +kernel
theorem dX11_ways_189 : decode cX11_ways 189 = .ok (.aload_n 0, 1) := by decide +kernel
theorem dX11_ways_190 : decode cX11_ways 190 = .ok (.getfield 211, 3) := by decide +kernel
theorem dX11_ways_193 : decode cX11_ways 193 = .ok (.iload 8, 2) := by decide +kernel
theorem dX11_ways_195 : decode cX11_ways 195 = .ok (.iastore, 1) := by decide +kernel
theorem dX11_ways_196 : decode cX11_ways 196 = .ok (.aload_n 0, 1) := by decide +kernel
theorem dX11_ways_197 : decode cX11_ways 197 = .ok (.getfield 88, 3) := by decide +kernel
theorem dX11_ways_200 : decode cX11_ways 200 = .ok (.aload_n 0, 1) := by decide +kernel
theorem dX11_ways_201 : decode cX11_ways 201 = .ok (.getfield 211, 3) := by decide +kernel
theorem dX11_ways_204 : decode cX11_ways 204 = .ok (.iload 9, 2) := by decide +kernel
theorem dX11_ways_206 : decode cX11_ways 206 = .ok (.iastore, 1) := by decide +kernel
theorem dX11_ways_207 : decode cX11_ways 207 = .ok (.aload_n 0, 1) := by decide +kernel
theorem dX11_ways_208 : decode cX11_ways 208 = .ok (.getfield 91, 3) := by decide +kernel
theorem dX11_ways_211 : decode cX11_ways 211 = .ok (.aload_n 0, 1) := by decide +kernel
theorem dX11_ways_212 : decode cX11_ways 212 = .ok (.getfield 211, 3) := by decide +kernel
theorem dX11_ways_215 : decode cX11_ways 215 = .ok (.aload_n 0, 1) := by decide +kernel
theorem dX11_ways_216 : decode cX11_ways 216 = .ok (.iload 8, 2) := by decide +kernel
theorem dX11_ways_218 : decode cX11_ways 218 = .ok (.iload 9, 2) := by decide +kernel
theorem dX11_ways_220 : decode cX11_ways 220 = .ok (.invokevirtual 138, 3) := by decide +kernel
theorem dX11_ways_223 : decode cX11_ways 223 = .ok (.iastore, 1) := by decide +kernel
theorem dX11_ways_224 : decode cX11_ways 224 = .ok (.aload_n 0, 1) := by decide +kernel
theorem dX11_ways_225 : decode cX11_ways 225 = .ok (.dup, 1) := by decide +kernel
theorem dX11_ways_226 : decode cX11_ways 226 = .ok (.getfield 211, 3) := by decide +kernel
theorem dX11_ways_229 : decode cX11_ways 229 = .ok (.iconst 1, 1) := by decide +kernel
theorem dX11_ways_230 : decode cX11_ways 230 = .ok (.iadd, 1) := by decide +kernel
theorem dX11_ways_231 : decode cX11_ways 231 = .ok (.putfield 211, 3) := by decide +kernel
theorem dX11_ways_234 : decode cX11_ways 234 = .ok (.iload_n 2, 1) := by decide +kernel
theorem dX11_ways_235 : decode cX11_ways 235 = .ok (.iload 6, 2) := by decide +kernel
theorem dX11_ways_237 : decode cX11_ways 237 = .ok (.iadd, 1) := by decide +kernel
theorem dX11_ways_238 : decode cX11_ways 238 = .ok (.istore_n 2, 1) := by decide +kernel
theorem dX11_ways_239 : decode cX11_ways 239 = .ok (.iload_n 3, 1) := by decide +kernel
theorem dX11_ways_240 : decode cX11_ways 240 = .ok (.iload 7, 2) := by decide +kernel
theorem dX11_ways_242 : decode cX11_ways 242 = .ok (.iadd, 1) := by decide +kernel
theorem dX11_ways_243 : decode cX11_ways 243 = .ok (.istore_n 3, 1) := by decide +kernel
theorem dX11_ways_244 : decode cX11_ways 244 = .ok (.iconst 1, 1) := by decide +kernel
theorem dX11_ways_245 : decode cX11_ways 245 = .ok (.istore 5, 2) := by decide +kernel
theorem dX11_ways_247 : decode cX11_ways 247 = .ok (.iinc 7 1, 3) := by decide +kernel
theorem dX11_ways_250 : decode cX11_ways 250 = .ok (.goto (-159), 3) := by decide +kernel
theorem dX11_ways_253 : decode cX11_ways 253 = .ok (.iinc 6 1, 3) := by decide +kernel
theorem dX11_ways_256 : decode cX11_ways 256 = .ok (.goto (-179), 3) := by decide +kernel
theorem dX11_ways_259 : decode cX11_ways 259 = .ok (.goto (-217), 3) := by decide +kernel
theorem dX11_ways_262 : decode cX11_ways 262 = .ok (.aload_n 0, 1) := by decide +kernel
theorem dX11_ways_263 : decode cX11_ways 263 = .ok (.getfield 211, 3) := by decide +kernel
theorem dX11_ways_266 : decode cX11_ways 266 = .ok (.ireturn, 1) := by decide +kernel
theorem dX11_way_0 : decode cX11_way 0 = .ok (.iload_n 1, 1) := by decide +kernel
theorem dX11_way_1 : decode cX11_way 1 = .ok (.iconst 0, 1) := by decide +kernel
theorem dX11_way_2 : decode cX11_way 2 = .ok (.aload_n 0, 1) := by decide +kernel
theorem dX11_way_3 : decode cX11_way 3 = .ok (.getfield 211, 3) := by decide +kernel
theorem dX11_way_6 : decode cX11_way 6 = .ok (.iconst 1, 1) := by decide +kernel
theorem dX11_way_7 : decode cX11_way 7 = .ok (.isub, 1) := by decide +kernel
theorem dX11_way_8 : decode cX11_way 8 = .ok (.invokestatic 106, 3) := by decide +kernel
theorem dX11_way_11 : decode cX11_way 11 = .ok (.ifCond .ne 5, 3) := by decide +kernel
theorem dX11_way_14 : decode cX11_way 14 = .ok (.iconst (-1), 1) := by decide +kernel
theorem dX11_way_15 : decode cX11_way 15 = .ok (.ireturn, 1) := by decide +kernel
theorem dX11_way_16 : decode cX11_way 16 = .ok (.iload_n 2, 1) := by decide +kernel
theorem dX11_way_17 : decode cX11_way 17 = .ok (.ifCond .ne 12, 3) := by decide +kernel
theorem dX11_way_20 : decode cX11_way 20 = .ok (.aload_n 0, 1) := by decide +kernel
theorem dX11_way_21 : decode cX11_way 21 = .ok (.getfield 85, 3) := by decide +kernel
theorem dX11_way_24 : decode cX11_way 24 = .ok (.iload_n 1, 1) := by decide +kernel
theorem dX11_way_25 : decode cX11_way 25 = .ok (.iaload, 1) := by decide +kernel
theorem dX11_way_26 : decode cX11_way 26 = .ok (.goto 32, 3) := by decide +kernel
theorem dX11_way_29 : decode cX11_way 29 = .ok (.iload_n 2, 1) := by decide +kernel
theorem dX11_way_30 : decode cX11_way 30 = .ok (.iconst 1, 1) := by decide +kernel
theorem dX11_way_31 : decode cX11_way 31 = .ok (.if_icmp .ne 12, 3) := by decide +kernel
theorem dX11_way_34 : decode cX11_way 34 = .ok (.aload_n 0, 1) := by decide +kernel
theorem dX11_way_35 : decode cX11_way 35 = .ok (.getfield 88, 3) := by decide +kernel
theorem dX11_way_38 : decode cX11_way 38 = .ok (.iload_n 1, 1) := by decide +kernel
theorem dX11_way_39 : decode cX11_way 39 = .ok (.iaload, 1) := by decide +kernel
theorem dX11_way_40 : decode cX11_way 40 = .ok (.goto 18, 3) := by decide +kernel
theorem dX11_way_43 : decode cX11_way 43 = .ok (.iload_n 2, 1) := by decide +kernel
theorem dX11_way_44 : decode cX11_way 44 = .ok (.iconst 2, 1) := by decide +kernel
theorem dX11_way_45 : decode cX11_way 45 = .ok (.if_icmp .ne 12, 3) := by decide +kernel
theorem dX11_way_48 : decode cX11_way 48 = .ok (.aload_n 0, 1) := by decide +kernel
theorem dX11_way_49 : decode cX11_way 49 = .ok (.getfield 91, 3) := by decide +kernel
theorem dX11_way_52 : decode cX11_way 52 = .ok (.iload_n 1, 1) := by decide +kernel
theorem dX11_way_53 : decode cX11_way 53 = .ok (.iaload, 1) := by decide +kernel
theorem dX11_way_54 : decode cX11_way 54 = .ok (.goto 4, 3) := by decide +kernel
theorem dX11_way_57 : decode cX11_way 57 = .ok (.iconst (-1), 1) := by decide +kernel
theorem dX11_way_58 : decode cX11_way 58 = .ok (.ireturn, 1) := by decide +kernel
theorem dX11_likes_0 : decode cX11_likes 0 = .ok (.iload_n 1, 1) := by decide +kernel
theorem dX11_likes_1 : decode cX11_likes 1 = .ok (.invokestatic 187, 3) := by decide +kernel
theorem dX11_likes_4 : decode cX11_likes 4 = .ok (.ifCond .ne 6, 3) := by decide +kernel
theorem dX11_likes_7 : decode cX11_likes 7 = .ok (.bipush (-2), 2) := by decide +kernel
theorem dX11_likes_9 : decode cX11_likes 9 = .ok (.ireturn, 1) := by decide +kernel
theorem dX11_likes_10 : decode cX11_likes 10 = .ok (.iconst 0, 1) := by decide +kernel
theorem dX11_likes_11 : decode cX11_likes 11 = .ok (.istore_n 2, 1) := by decide +kernel
theorem dX11_likes_12 : decode cX11_likes 12 = .ok (.aload_n 0, 1) := by decide +kernel
theorem dX11_likes_13 : decode cX11_likes 13 = .ok (.iconst 0, 1) := by decide +kernel
theorem dX11_likes_14 : decode cX11_likes 14 = .ok (.putfield 214, 3) := by decide +kernel
theorem dX11_likes_17 : decode cX11_likes 17 = .ok (.iconst 0, 1) := by decide +kernel
theorem dX11_likes_18 : decode cX11_likes 18 = .ok (.istore_n 3, 1) := by decide +kernel
theorem dX11_likes_19 : decode cX11_likes 19 = .ok (.iload_n 3, 1) := by decide +kernel
theorem dX11_likes_20 : decode cX11_likes 20 = .ok (.aload_n 0, 1) := by decide +kernel
theorem dX11_likes_21 : decode cX11_likes 21 = .ok (.getfield 190, 3) := by decide +kernel
theorem dX11_likes_24 : decode cX11_likes 24 = .ok (.if_icmp .ge 151, 3) := by decide +kernel
theorem dX11_likes_27 : decode cX11_likes 27 = .ok (.aload_n 0, 1) := by decide +kernel
theorem dX11_likes_28 : decode cX11_likes 28 = .ok (.iload_n 3, 1) := by decide +kernel
theorem dX11_likes_29 : decode cX11_likes 29 = .ok (.iload_n 1, 1) := by decide +kernel
theorem dX11_likes_30 : decode cX11_likes 30 = .ok (.invokevirtual 193, 3) := by decide +kernel
theorem dX11_likes_33 : decode cX11_likes 33 = .ok (.ifCond .ne 6, 3) := by decide +kernel
theorem dX11_likes_36 : decode cX11_likes 36 = .ok (.goto 133, 3) := by decide +kernel
theorem dX11_likes_39 : decode cX11_likes 39 = .ok (.iload_n 3, 1) := by decide +kernel
theorem dX11_likes_40 : decode cX11_likes 40 = .ok (.iconst 1, 1) := by decide +kernel
theorem dX11_likes_41 : decode cX11_likes 41 = .ok (.iadd, 1) := by decide +kernel
theorem dX11_likes_42 : decode cX11_likes 42 = .ok (.istore 4, 2) := by decide +kernel
theorem dX11_likes_44 : decode cX11_likes 44 = .ok (.iload 4, 2) := by decide +kernel
theorem dX11_likes_46 : decode cX11_likes 46 = .ok (.aload_n 0, 1) := by decide +kernel
theorem dX11_likes_47 : decode cX11_likes 47 = .ok (.getfield 190, 3) := by decide +kernel
theorem dX11_likes_50 : decode cX11_likes 50 = .ok (.if_icmp .ge 119, 3) := by decide +kernel
theorem dX11_likes_53 : decode cX11_likes 53 = .ok (.aload_n 0, 1) := by decide +kernel
theorem dX11_likes_54 : decode cX11_likes 54 = .ok (.iload 4, 2) := by decide +kernel
theorem dX11_likes_56 : decode cX11_likes 56 = .ok (.iload_n 1, 1) := by decide +kernel
theorem dX11_likes_57 : decode cX11_likes 57 = .ok (.invokevirtual 193, 3) := by decide +kernel
theorem dX11_likes_60 : decode cX11_likes 60 = .ok (.ifCond .eq 103, 3) := by decide +kernel
theorem dX11_likes_63 : decode cX11_likes 63 = .ok (.aload_n 0, 1) := by decide +kernel
theorem dX11_likes_64 : decode cX11_likes 64 = .ok (.getfield 73, 3) := by decide +kernel
theorem dX11_likes_67 : decode cX11_likes 67 = .ok (.iload 4, 2) := by decide +kernel
theorem dX11_likes_69 : decode cX11_likes 69 = .ok (.iaload, 1) := by decide +kernel
theorem dX11_likes_70 : decode cX11_likes 70 = .ok (.aload_n 0, 1) := by decide +kernel
theorem dX11_likes_71 : decode cX11_likes 71 = .ok (.getfield 73, 3) := by decide +kernel
theorem dX11_likes_74 : decode cX11_likes 74 = .ok (.iload_n 3, 1) := by decide +kernel
theorem dX11_likes_75 : decode cX11_likes 75 = .ok (.iaload, 1) := by decide +kernel
theorem dX11_likes_76 : decode cX11_likes 76 = .ok (.if_icmp .ne 6, 3) := by decide +kernel
theorem dX11_likes_79 : decode cX11_likes 79 = .ok (.goto 84, 3) := by decide +kernel
theorem dX11_likes_82 : decode cX11_likes 82 = .ok (.aload_n 0, 1) := by decide +kernel
theorem dX11_likes_83 : decode cX11_likes 83 = .ok (.iload_n 3, 1) := by decide +kernel
theorem dX11_likes_84 : decode cX11_likes 84 = .ok (.iload 4, 2) := by decide +kernel
theorem dX11_likes_86 : decode cX11_likes 86 = .ok (.invokevirtual 199, 3) := by decide +kernel
theorem dX11_likes_89 : decode cX11_likes 89 = .ok (.istore 5, 2) := by decide +kernel
theorem dX11_likes_91 : decode cX11_likes 91 = .ok (.iload 5, 2) := by decide +kernel
theorem dX11_likes_93 : decode cX11_likes 93 = .ok (.aload_n 0, 1) := by decide +kernel
theorem dX11_likes_94 : decode cX11_likes 94 = .ok (.getfield 60, 3) := by decide +kernel
theorem dX11_likes_97 : decode cX11_likes 97 = .ok (.iload_n 1, 1) := by decide +kernel
theorem dX11_likes_98 : decode cX11_likes 98 = .ok (.iaload, 1) := by decide +kernel
theorem dX11_likes_99 : decode cX11_likes 99 = .ok (.if_icmp .le 6, 3) := by decide +kernel
theorem dX11_likes_102 : decode cX11_likes 102 = .ok (.goto 61, 3) := by decide +kernel
theorem dX11_likes_105 : decode cX11_likes 105 = .ok (.iinc 2 1, 3) := by decide +kernel
theorem dX11_likes_108 : decode cX11_likes 108 = .ok (.aload_n 0, 1) := by decide +kernel
theorem dX11_likes_109 : decode cX11_likes 109 = .ok (.getfield 214, 3) := by decide +kernel
theorem dX11_likes_112 : decode cX11_likes 112 = .ok (.sipush 1000, 3) := by decide +kernel
theorem dX11_likes_115 : decode cX11_likes 115 = .ok (.if_icmp .ne 6, 3) := by decide +kernel
theorem dX11_likes_118 : decode cX11_likes 118 = .ok (.goto 45, 3) := by decide +kernel
theorem dX11_likes_121 : decode cX11_likes 121 = .ok (.aload_n 0, 1) := by decide +kernel
theorem dX11_likes_122 : decode cX11_likes 122 = .ok (.getfield 94, 3) := by decide +kernel
theorem dX11_likes_125 : decode cX11_likes 125 = .ok (.aload_n 0, 1) := by decide +kernel
theorem dX11_likes_126 : decode cX11_likes 126 = .ok (.getfield 214, 3) := by decide +kernel
theorem dX11_likes_129 : decode cX11_likes 129 = .ok (.iload_n 3, 1) := by decide +kernel
theorem dX11_likes_130 : decode cX11_likes 130 = .ok (.iastore, 1) := by decide +kernel
theorem dX11_likes_131 : decode cX11_likes 131 = .ok (.aload_n 0, 1) := by decide +kernel
theorem dX11_likes_132 : decode cX11_likes 132 = .ok (.getfield 97, 3) := by decide +kernel
theorem dX11_likes_135 : decode cX11_likes 135 = .ok (.aload_n 0, 1) := by decide +kernel
theorem dX11_likes_136 : decode cX11_likes 136 = .ok (.getfield 214, 3) := by decide +kernel
theorem dX11_likes_139 : decode cX11_likes 139 = .ok (.iload 4, 2) := by decide +kernel
theorem dX11_likes_141 : decode cX11_likes 141 = .ok (.iastore, 1) := by decide +kernel
theorem dX11_likes_142 : decode cX11_likes 142 = .ok (.aload_n 0, 1) := by decide +kernel
theorem dX11_likes_143 : decode cX11_likes 143 = .ok (.getfield 100, 3) := by decide +kernel
theorem dX11_likes_146 : decode cX11_likes 146 = .ok (.aload_n 0, 1) := by decide +kernel
theorem dX11_likes_147 : decode cX11_likes 147 = .ok (.getfield 214, 3) := by decide +kernel
theorem dX11_likes_150 : decode cX11_likes 150 = .ok (.iload 5, 2) := by decide +kernel
theorem dX11_likes_152 : decode cX11_likes 152 = .ok (.iastore, 1) := by decide +kernel
theorem dX11_likes_153 : decode cX11_likes 153 = .ok (.aload_n 0, 1) := by decide +kernel
theorem dX11_likes_154 : decode cX11_likes 154 = .ok (.dup, 1) := by decide +kernel
theorem dX11_likes_155 : decode cX11_likes 155 = .ok (.getfield 214, 3) := by decide +kernel
theorem dX11_likes_158 : decode cX11_likes 158 = .ok (.iconst 1, 1) := by decide +kernel
theorem dX11_likes_159 : decode cX11_likes 159 = .ok (.iadd, 1) := by decide +kernel
theorem dX11_likes_160 : decode cX11_likes 160 = .ok (.putfield 214, 3) := by decide +kernel
theorem dX11_likes_163 : decode cX11_likes 163 = .ok (.iinc 4 1, 3) := by decide +kernel
theorem dX11_likes_166 : decode cX11_likes 166 = .ok (.goto (-122), 3) := by decide +kernel
theorem dX11_likes_169 : decode cX11_likes 169 = .ok (.iinc 3 1, 3) := by decide +kernel
theorem dX11_likes_172 : decode cX11_likes 172 = .ok (.goto (-153), 3) := by decide +kernel
theorem dX11_likes_175 : decode cX11_likes 175 = .ok (.iload_n 2, 1) := by decide +kernel
theorem dX11_likes_176 : decode cX11_likes 176 = .ok (.ireturn, 1) := by decide +kernel
theorem dX11_like_0 : decode cX11_like 0 = .ok (.iload_n 1, 1) := by decide +kernel
theorem dX11_like_1 : decode cX11_like 1 = .ok (.iconst 0, 1) := by decide +kernel
theorem dX11_like_2 : decode cX11_like 2 = .ok (.aload_n 0, 1) := by decide +kernel
theorem dX11_like_3 : decode cX11_like 3 = .ok (.getfield 214, 3) := by decide +kernel
theorem dX11_like_6 : decode cX11_like 6 = .ok (.iconst 1, 1) := by decide +kernel
theorem dX11_like_7 : decode cX11_like 7 = .ok (.isub, 1) := by decide +kernel
theorem dX11_like_8 : decode cX11_like 8 = .ok (.invokestatic 106, 3) := by decide +kernel
theorem dX11_like_11 : decode cX11_like 11 = .ok (.ifCond .ne 5, 3) := by decide +kernel
theorem dX11_like_14 : decode cX11_like 14 = .ok (.iconst (-1), 1) := by decide +kernel
theorem dX11_like_15 : decode cX11_like 15 = .ok (.ireturn, 1) := by decide +kernel
theorem dX11_like_16 : decode cX11_like 16 = .ok (.iload_n 2, 1) := by decide +kernel
theorem dX11_like_17 : decode cX11_like 17 = .ok (.ifCond .ne 12, 3) := by decide +kernel
theorem dX11_like_20 : decode cX11_like 20 = .ok (.aload_n 0, 1) := by decide +kernel
theorem dX11_like_21 : decode cX11_like 21 = .ok (.getfield 94, 3) := by decide +kernel
theorem dX11_like_24 : decode cX11_like 24 = .ok (.iload_n 1, 1) := by decide +kernel
theorem dX11_like_25 : decode cX11_like 25 = .ok (.iaload, 1) := by decide +kernel
theorem dX11_like_26 : decode cX11_like 26 = .ok (.goto 32, 3) := by decide +kernel
theorem dX11_like_29 : decode cX11_like 29 = .ok (.iload_n 2, 1) := by decide +kernel
theorem dX11_like_30 : decode cX11_like 30 = .ok (.iconst 1, 1) := by decide +kernel
theorem dX11_like_31 : decode cX11_like 31 = .ok (.if_icmp .ne 12, 3) := by decide +kernel
theorem dX11_like_34 : decode cX11_like 34 = .ok (.aload_n 0, 1) := by decide +kernel
theorem dX11_like_35 : decode cX11_like 35 = .ok (.getfield 97, 3) := by decide +kernel
theorem dX11_like_38 : decode cX11_like 38 = .ok (.iload_n 1, 1) := by decide +kernel
theorem dX11_like_39 : decode cX11_like 39 = .ok (.iaload, 1) := by decide +kernel
theorem dX11_like_40 : decode cX11_like 40 = .ok (.goto 18, 3) := by decide +kernel
theorem dX11_like_43 : decode cX11_like 43 = .ok (.iload_n 2, 1) := by decide +kernel
theorem dX11_like_44 : decode cX11_like 44 = .ok (.iconst 2, 1) := by decide +kernel
theorem dX11_like_45 : decode cX11_like 45 = .ok (.if_icmp .ne 12, 3) := by decide +kernel
theorem dX11_like_48 : decode cX11_like 48 = .ok (.aload_n 0, 1) := by decide +kernel
theorem dX11_like_49 : decode cX11_like 49 = .ok (.getfield 100, 3) := by decide +kernel
theorem dX11_like_52 : decode cX11_like 52 = .ok (.iload_n 1, 1) := by decide +kernel
theorem dX11_like_53 : decode cX11_like 53 = .ok (.iaload, 1) := by decide +kernel
theorem dX11_like_54 : decode cX11_like 54 = .ok (.goto 4, 3) := by decide +kernel
theorem dX11_like_57 : decode cX11_like 57 = .ok (.iconst (-1), 1) := by decide +kernel
theorem dX11_like_58 : decode cX11_like 58 = .ok (.ireturn, 1) := by decide +kernel
theorem dX11_count_0 : decode cX11_count 0 = .ok (.iconst 0, 1) := by decide +kernel
theorem dX11_count_1 : decode cX11_count 1 = .ok (.istore_n 2, 1) := by decide +kernel
theorem dX11_count_2 : decode cX11_count 2 = .ok (.iload_n 1, 1) := by decide +kernel
theorem dX11_count_3 : decode cX11_count 3 = .ok (.tableswitch 97 0 5 #[37, 42, 47, 52, 87, 92], 37) := by decide +kernel
theorem dX11_count_40 : decode cX11_count 40 = .ok (.aload_n 0, 1) := by decide +kernel
theorem dX11_count_41 : decode cX11_count 41 = .ok (.getfield 117, 3) := by decide +kernel
theorem dX11_count_44 : decode cX11_count 44 = .ok (.ireturn, 1) := by decide +kernel
theorem dX11_count_45 : decode cX11_count 45 = .ok (.aload_n 0, 1) := by decide +kernel
theorem dX11_count_46 : decode cX11_count 46 = .ok (.getfield 141, 3) := by decide +kernel
theorem dX11_count_49 : decode cX11_count 49 = .ok (.ireturn, 1) := by decide +kernel
theorem dX11_count_50 : decode cX11_count 50 = .ok (.aload_n 0, 1) := by decide +kernel
theorem dX11_count_51 : decode cX11_count 51 = .ok (.getfield 190, 3) := by decide +kernel
theorem dX11_count_54 : decode cX11_count 54 = .ok (.ireturn, 1) := by decide +kernel
theorem dX11_count_55 : decode cX11_count 55 = .ok (.iconst 0, 1) := by decide +kernel
theorem dX11_count_56 : decode cX11_count 56 = .ok (.istore_n 3, 1) := by decide +kernel
theorem dX11_count_57 : decode cX11_count 57 = .ok (.iload_n 3, 1) := by decide +kernel
theorem dX11_count_58 : decode cX11_count 58 = .ok (.aload_n 0, 1) := by decide +kernel
theorem dX11_count_59 : decode cX11_count 59 = .ok (.getfield 190, 3) := by decide +kernel
theorem dX11_count_62 : decode cX11_count 62 = .ok (.if_icmp .ge 26, 3) := by decide +kernel
theorem dX11_count_65 : decode cX11_count 65 = .ok (.iload_n 2, 1) := by decide +kernel
theorem dX11_count_66 : decode cX11_count 66 = .ok (.aload_n 0, 1) := by decide +kernel
theorem dX11_count_67 : decode cX11_count 67 = .ok (.getfield 76, 3) := by decide +kernel
theorem dX11_count_70 : decode cX11_count 70 = .ok (.iload_n 3, 1) := by decide +kernel
theorem dX11_count_71 : decode cX11_count 71 = .ok (.baload, 1) := by decide +kernel
theorem dX11_count_72 : decode cX11_count 72 = .ok (.ifCond .eq 7, 3) := by decide +kernel
theorem dX11_count_75 : decode cX11_count 75 = .ok (.iconst 1, 1) := by decide +kernel
theorem dX11_count_76 : decode cX11_count 76 = .ok (.goto 4, 3) := by decide +kernel
theorem dX11_count_79 : decode cX11_count 79 = .ok (.iconst 0, 1) := by decide +kernel
theorem dX11_count_80 : decode cX11_count 80 = .ok (.iadd, 1) := by decide +kernel
theorem dX11_count_81 : decode cX11_count 81 = .ok (.istore_n 2, 1) := by decide +kernel
theorem dX11_count_82 : decode cX11_count 82 = .ok (.iinc 3 1, 3) := by decide +kernel
theorem dX11_count_85 : decode cX11_count 85 = .ok (.goto (-28), 3) := by decide +kernel
theorem dX11_count_88 : decode cX11_count 88 = .ok (.iload_n 2, 1) := by decide +kernel
theorem dX11_count_89 : decode cX11_count 89 = .ok (.ireturn, 1) := by decide +kernel
theorem dX11_count_90 : decode cX11_count 90 = .ok (.aload_n 0, 1) := by decide +kernel
theorem dX11_count_91 : decode cX11_count 91 = .ok (.getfield 110, 3) := by decide +kernel
theorem dX11_count_94 : decode cX11_count 94 = .ok (.ireturn, 1) := by decide +kernel
theorem dX11_count_95 : decode cX11_count 95 = .ok (.aload_n 0, 1) := by decide +kernel
theorem dX11_count_96 : decode cX11_count 96 = .ok (.getfield 131, 3) := by decide +kernel
theorem dX11_count_99 : decode cX11_count 99 = .ok (.ireturn, 1) := by decide +kernel
theorem dX11_count_100 : decode cX11_count 100 = .ok (.iload_n 1, 1) := by decide +kernel
theorem dX11_count_101 : decode cX11_count 101 = .ok (.bipush 10, 2) := by decide +kernel
theorem dX11_count_103 : decode cX11_count 103 = .ok (.bipush 13, 2) := by decide +kernel
theorem dX11_count_105 : decode cX11_count 105 = .ok (.invokestatic 106, 3) := by decide +kernel
theorem dX11_count_108 : decode cX11_count 108 = .ok (.ifCond .eq 13, 3) := by decide +kernel
theorem dX11_count_111 : decode cX11_count 111 = .ok (.aload_n 0, 1) := by decide +kernel
theorem dX11_count_112 : decode cX11_count 112 = .ok (.getfield 60, 3) := by decide +kernel
theorem dX11_count_115 : decode cX11_count 115 = .ok (.iload_n 1, 1) := by decide +kernel
theorem dX11_count_116 : decode cX11_count 116 = .ok (.bipush 10, 2) := by decide +kernel
theorem dX11_count_118 : decode cX11_count 118 = .ok (.isub, 1) := by decide +kernel
theorem dX11_count_119 : decode cX11_count 119 = .ok (.iaload, 1) := by decide +kernel
theorem dX11_count_120 : decode cX11_count 120 = .ok (.ireturn, 1) := by decide +kernel
theorem dX11_count_121 : decode cX11_count 121 = .ok (.iload_n 1, 1) := by decide +kernel
theorem dX11_count_122 : decode cX11_count 122 = .ok (.bipush 20, 2) := by decide +kernel
theorem dX11_count_124 : decode cX11_count 124 = .ok (.bipush 23, 2) := by decide +kernel
theorem dX11_count_126 : decode cX11_count 126 = .ok (.invokestatic 106, 3) := by decide +kernel
theorem dX11_count_129 : decode cX11_count 129 = .ok (.ifCond .eq 13, 3) := by decide +kernel
theorem dX11_count_132 : decode cX11_count 132 = .ok (.aload_n 0, 1) := by decide +kernel
theorem dX11_count_133 : decode cX11_count 133 = .ok (.getfield 63, 3) := by decide +kernel
theorem dX11_count_136 : decode cX11_count 136 = .ok (.iload_n 1, 1) := by decide +kernel
theorem dX11_count_137 : decode cX11_count 137 = .ok (.bipush 20, 2) := by decide +kernel
theorem dX11_count_139 : decode cX11_count 139 = .ok (.isub, 1) := by decide +kernel
theorem dX11_count_140 : decode cX11_count 140 = .ok (.iaload, 1) := by decide +kernel
theorem dX11_count_141 : decode cX11_count 141 = .ok (.ireturn, 1) := by decide +kernel
theorem dX11_count_142 : decode cX11_count 142 = .ok (.iload_n 1, 1) := by decide +kernel
theorem dX11_count_143 : decode cX11_count 143 = .ok (.bipush 30, 2) := by decide +kernel
theorem dX11_count_145 : decode cX11_count 145 = .ok (.bipush 33, 2) := by decide +kernel
theorem dX11_count_147 : decode cX11_count 147 = .ok (.invokestatic 106, 3) := by decide +kernel
theorem dX11_count_150 : decode cX11_count 150 = .ok (.ifCond .eq 23, 3) := by decide +kernel
theorem dX11_count_153 : decode cX11_count 153 = .ok (.aload_n 0, 1) := by decide +kernel
theorem dX11_count_154 : decode cX11_count 154 = .ok (.getfield 66, 3) := by decide +kernel
theorem dX11_count_157 : decode cX11_count 157 = .ok (.iload_n 1, 1) := by decide +kernel
theorem dX11_count_158 : decode cX11_count 158 = .ok (.bipush 30, 2) := by decide +kernel
theorem dX11_count_160 : decode cX11_count 160 = .ok (.isub, 1) := by decide +kernel
theorem dX11_count_161 : decode cX11_count 161 = .ok (.baload, 1) := by decide +kernel
theorem dX11_count_162 : decode cX11_count 162 = .ok (.ifCond .eq 7, 3) := by decide +kernel
theorem dX11_count_165 : decode cX11_count 165 = .ok (.iconst 1, 1) := by decide +kernel
theorem dX11_count_166 : decode cX11_count 166 = .ok (.goto 8, 3) := by decide +kernel
theorem dX11_count_169 : decode cX11_count 169 = .ok (.iconst 0, 1) := by decide +kernel
theorem dX11_count_170 : decode cX11_count 170 = .ok (.goto 4, 3) := by decide +kernel
theorem dX11_count_173 : decode cX11_count 173 = .ok (.iconst (-1), 1) := by decide +kernel
theorem dX11_count_174 : decode cX11_count 174 = .ok (.ireturn, 1) := by decide +kernel
end
section
theorem dL_law_0 : decode cL_law 0 = .ok (.new 7, 3) := by decide +kernel
theorem dL_law_3 : decode cL_law 3 = .ok (.dup, 1) := by decide +kernel
theorem dL_law_4 : decode cL_law 4 = .ok (.invokespecial 9, 3) := by decide +kernel
theorem dL_law_7 : decode cL_law 7 = .ok (.astore_n 1, 1) := by decide +kernel
theorem dL_law_8 : decode cL_law 8 = .ok (.new 10, 3) := by decide +kernel
theorem dL_law_11 : decode cL_law 11 = .ok (.dup, 1) := by decide +kernel
theorem dL_law_12 : decode cL_law 12 = .ok (.invokespecial 12, 3) := by decide +kernel
theorem dL_law_15 : decode cL_law 15 = .ok (.astore_n 2, 1) := by decide +kernel
theorem dL_law_16 : decode cL_law 16 = .ok (.iconst 0, 1) := by decide +kernel
theorem dL_law_17 : decode cL_law 17 = .ok (.istore_n 3, 1) := by decide +kernel
theorem dL_law_18 : decode cL_law 18 = .ok (.iload_n 3, 1) := by decide +kernel
theorem dL_law_19 : decode cL_law 19 = .ok (.aload_n 0, 1) := by decide +kernel
theorem dL_law_20 : decode cL_law 20 = .ok (.arraylength, 1) := by decide +kernel
theorem dL_law_21 : decode cL_law 21 = .ok (.bipush 6, 2) := by decide +kernel
theorem dL_law_23 : decode cL_law 23 = .ok (.isub, 1) := by decide +kernel
theorem dL_law_24 : decode cL_law 24 = .ok (.if_icmp .gt 847, 3) := by decide +kernel
theorem dL_law_27 : decode cL_law 27 = .ok (.aload_n 0, 1) := by decide +kernel
theorem dL_law_28 : decode cL_law 28 = .ok (.iload_n 3, 1) := by decide +kernel
theorem dL_law_29 : decode cL_law 29 = .ok (.iaload, 1) := by decide +kernel
theorem dL_law_30 : decode cL_law 30 = .ok (.bipush 31, 2) := by decide +kernel
theorem dL_law_32 : decode cL_law 32 = .ok (.iand, 1) := by decide +kernel
theorem dL_law_33 : decode cL_law 33 = .ok (.tableswitch 832 0 22 #[107, 170, 193, 226, 259, 302, 335, 358, 371, 394, 417, 486, 519, 552, 575, 608, 631, 664, 697, 720, 753, 776, 809], 107) := by decide +kernel
theorem dL_law_140 : decode cL_law 140 = .ok (.aload_n 1, 1) := by decide +kernel
theorem dL_law_141 : decode cL_law 141 = .ok (.aload_n 0, 1) := by decide +kernel
theorem dL_law_142 : decode cL_law 142 = .ok (.iload_n 3, 1) := by decide +kernel
theorem dL_law_143 : decode cL_law 143 = .ok (.iconst 1, 1) := by decide +kernel
theorem dL_law_144 : decode cL_law 144 = .ok (.iadd, 1) := by decide +kernel
theorem dL_law_145 : decode cL_law 145 = .ok (.iaload, 1) := by decide +kernel
theorem dL_law_146 : decode cL_law 146 = .ok (.aload_n 0, 1) := by decide +kernel
theorem dL_law_147 : decode cL_law 147 = .ok (.iload_n 3, 1) := by decide +kernel
theorem dL_law_148 : decode cL_law 148 = .ok (.iconst 2, 1) := by decide +kernel
theorem dL_law_149 : decode cL_law 149 = .ok (.iadd, 1) := by decide +kernel
theorem dL_law_150 : decode cL_law 150 = .ok (.iaload, 1) := by decide +kernel
theorem dL_law_151 : decode cL_law 151 = .ok (.aload_n 0, 1) := by decide +kernel
theorem dL_law_152 : decode cL_law 152 = .ok (.iload_n 3, 1) := by decide +kernel
theorem dL_law_153 : decode cL_law 153 = .ok (.iconst 3, 1) := by decide +kernel
theorem dL_law_154 : decode cL_law 154 = .ok (.iadd, 1) := by decide +kernel
theorem dL_law_155 : decode cL_law 155 = .ok (.iaload, 1) := by decide +kernel
theorem dL_law_156 : decode cL_law 156 = .ok (.aload_n 0, 1) := by decide +kernel
theorem dL_law_157 : decode cL_law 157 = .ok (.iload_n 3, 1) := by decide +kernel
theorem dL_law_158 : decode cL_law 158 = .ok (.iconst 4, 1) := by decide +kernel
theorem dL_law_159 : decode cL_law 159 = .ok (.iadd, 1) := by decide +kernel
theorem dL_law_160 : decode cL_law 160 = .ok (.iaload, 1) := by decide +kernel
theorem dL_law_161 : decode cL_law 161 = .ok (.aload_n 0, 1) := by decide +kernel
theorem dL_law_162 : decode cL_law 162 = .ok (.iload_n 3, 1) := by decide +kernel
theorem dL_law_163 : decode cL_law 163 = .ok (.iconst 5, 1) := by decide +kernel
theorem dL_law_164 : decode cL_law 164 = .ok (.iadd, 1) := by decide +kernel
theorem dL_law_165 : decode cL_law 165 = .ok (.iaload, 1) := by decide +kernel
theorem dL_law_166 : decode cL_law 166 = .ok (.invokevirtual 13, 3) := by decide +kernel
theorem dL_law_169 : decode cL_law 169 = .ok (.aload_n 2, 1) := by decide +kernel
theorem dL_law_170 : decode cL_law 170 = .ok (.aload_n 0, 1) := by decide +kernel
theorem dL_law_171 : decode cL_law 171 = .ok (.iload_n 3, 1) := by decide +kernel
theorem dL_law_172 : decode cL_law 172 = .ok (.iconst 1, 1) := by decide +kernel
theorem dL_law_173 : decode cL_law 173 = .ok (.iadd, 1) := by decide +kernel
theorem dL_law_174 : decode cL_law 174 = .ok (.iaload, 1) := by decide +kernel
theorem dL_law_175 : decode cL_law 175 = .ok (.aload_n 0, 1) := by decide +kernel
theorem dL_law_176 : decode cL_law 176 = .ok (.iload_n 3, 1) := by decide +kernel
theorem dL_law_177 : decode cL_law 177 = .ok (.iconst 2, 1) := by decide +kernel
theorem dL_law_178 : decode cL_law 178 = .ok (.iadd, 1) := by decide +kernel
theorem dL_law_179 : decode cL_law 179 = .ok (.iaload, 1) := by decide +kernel
theorem dL_law_180 : decode cL_law 180 = .ok (.aload_n 0, 1) := by decide +kernel
theorem dL_law_181 : decode cL_law 181 = .ok (.iload_n 3, 1) := by decide +kernel
theorem dL_law_182 : decode cL_law 182 = .ok (.iconst 3, 1) := by decide +kernel
theorem dL_law_183 : decode cL_law 183 = .ok (.iadd, 1) := by decide +kernel
theorem dL_law_184 : decode cL_law 184 = .ok (.iaload, 1) := by decide +kernel
theorem dL_law_185 : decode cL_law 185 = .ok (.aload_n 0, 1) := by decide +kernel
theorem dL_law_186 : decode cL_law 186 = .ok (.iload_n 3, 1) := by decide +kernel
theorem dL_law_187 : decode cL_law 187 = .ok (.iconst 4, 1) := by decide +kernel
theorem dL_law_188 : decode cL_law 188 = .ok (.iadd, 1) := by decide +kernel
theorem dL_law_189 : decode cL_law 189 = .ok (.iaload, 1) := by decide +kernel
theorem dL_law_190 : decode cL_law 190 = .ok (.aload_n 0, 1) := by decide +kernel
theorem dL_law_191 : decode cL_law 191 = .ok (.iload_n 3, 1) := by decide +kernel
theorem dL_law_192 : decode cL_law 192 = .ok (.iconst 5, 1) := by decide +kernel
theorem dL_law_193 : decode cL_law 193 = .ok (.iadd, 1) := by decide +kernel
theorem dL_law_194 : decode cL_law 194 = .ok (.iaload, 1) := by decide +kernel
theorem dL_law_195 : decode cL_law 195 = .ok (.invokevirtual 17, 3) := by decide +kernel
theorem dL_law_198 : decode cL_law 198 = .ok (.if_icmp .eq 667, 3) := by decide +kernel
theorem dL_law_201 : decode cL_law 201 = .ok (.iconst 0, 1) := by decide +kernel
theorem dL_law_202 : decode cL_law 202 = .ok (.ireturn, 1) := by decide +kernel
theorem dL_law_203 : decode cL_law 203 = .ok (.aload_n 1, 1) := by decide +kernel
theorem dL_law_204 : decode cL_law 204 = .ok (.aload_n 0, 1) := by decide +kernel
theorem dL_law_205 : decode cL_law 205 = .ok (.iload_n 3, 1) := by decide +kernel
theorem dL_law_206 : decode cL_law 206 = .ok (.iconst 1, 1) := by decide +kernel
theorem dL_law_207 : decode cL_law 207 = .ok (.iadd, 1) := by decide +kernel
theorem dL_law_208 : decode cL_law 208 = .ok (.iaload, 1) := by decide +kernel
theorem dL_law_209 : decode cL_law 209 = .ok (.invokevirtual 18, 3) := by decide +kernel
theorem dL_law_212 : decode cL_law 212 = .ok (.aload_n 2, 1) := by decide +kernel
theorem dL_law_213 : decode cL_law 213 = .ok (.aload_n 0, 1) := by decide +kernel
theorem dL_law_214 : decode cL_law 214 = .ok (.iload_n 3, 1) := by decide +kernel
theorem dL_law_215 : decode cL_law 215 = .ok (.iconst 1, 1) := by decide +kernel
theorem dL_law_216 : decode cL_law 216 = .ok (.iadd, 1) := by decide +kernel
theorem dL_law_217 : decode cL_law 217 = .ok (.iaload, 1) := by decide +kernel
theorem dL_law_218 : decode cL_law 218 = .ok (.invokevirtual 22, 3) := by decide +kernel
theorem dL_law_221 : decode cL_law 221 = .ok (.if_icmp .eq 644, 3) := by decide +kernel
theorem dL_law_224 : decode cL_law 224 = .ok (.iconst 0, 1) := by decide +kernel
theorem dL_law_225 : decode cL_law 225 = .ok (.ireturn, 1) := by decide +kernel
theorem dL_law_226 : decode cL_law 226 = .ok (.aload_n 1, 1) := by decide +kernel
theorem dL_law_227 : decode cL_law 227 = .ok (.aload_n 0, 1) := by decide +kernel
theorem dL_law_228 : decode cL_law 228 = .ok (.iload_n 3, 1) := by decide +kernel
theorem dL_law_229 : decode cL_law 229 = .ok (.iconst 1, 1) := by decide +kernel
theorem dL_law_230 : decode cL_law 230 = .ok (.iadd, 1) := by decide +kernel
theorem dL_law_231 : decode cL_law 231 = .ok (.iaload, 1) := by decide +kernel
theorem dL_law_232 : decode cL_law 232 = .ok (.aload_n 0, 1) := by decide +kernel
theorem dL_law_233 : decode cL_law 233 = .ok (.iload_n 3, 1) := by decide +kernel
theorem dL_law_234 : decode cL_law 234 = .ok (.iconst 2, 1) := by decide +kernel
theorem dL_law_235 : decode cL_law 235 = .ok (.iadd, 1) := by decide +kernel
theorem dL_law_236 : decode cL_law 236 = .ok (.iaload, 1) := by decide +kernel
theorem dL_law_237 : decode cL_law 237 = .ok (.invokevirtual 23, 3) := by decide +kernel
theorem dL_law_240 : decode cL_law 240 = .ok (.aload_n 2, 1) := by decide +kernel
theorem dL_law_241 : decode cL_law 241 = .ok (.aload_n 0, 1) := by decide +kernel
theorem dL_law_242 : decode cL_law 242 = .ok (.iload_n 3, 1) := by decide +kernel
theorem dL_law_243 : decode cL_law 243 = .ok (.iconst 1, 1) := by decide +kernel
theorem dL_law_244 : decode cL_law 244 = .ok (.iadd, 1) := by decide +kernel
theorem dL_law_245 : decode cL_law 245 = .ok (.iaload, 1) := by decide +kernel
theorem dL_law_246 : decode cL_law 246 = .ok (.aload_n 0, 1) := by decide +kernel
theorem dL_law_247 : decode cL_law 247 = .ok (.iload_n 3, 1) := by decide +kernel
theorem dL_law_248 : decode cL_law 248 = .ok (.iconst 2, 1) := by decide +kernel
theorem dL_law_249 : decode cL_law 249 = .ok (.iadd, 1) := by decide +kernel
theorem dL_law_250 : decode cL_law 250 = .ok (.iaload, 1) := by decide +kernel
theorem dL_law_251 : decode cL_law 251 = .ok (.invokevirtual 27, 3) := by decide +kernel
theorem dL_law_254 : decode cL_law 254 = .ok (.if_icmp .eq 611, 3) := by decide +kernel
theorem dL_law_257 : decode cL_law 257 = .ok (.iconst 0, 1) := by decide +kernel
theorem dL_law_258 : decode cL_law 258 = .ok (.ireturn, 1) := by decide +kernel
theorem dL_law_259 : decode cL_law 259 = .ok (.aload_n 1, 1) := by decide +kernel
theorem dL_law_260 : decode cL_law 260 = .ok (.aload_n 0, 1) := by decide +kernel
theorem dL_law_261 : decode cL_law 261 = .ok (.iload_n 3, 1) := by decide +kernel
theorem dL_law_262 : decode cL_law 262 = .ok (.iconst 1, 1) := by decide +kernel
theorem dL_law_263 : decode cL_law 263 = .ok (.iadd, 1) := by decide +kernel
theorem dL_law_264 : decode cL_law 264 = .ok (.iaload, 1) := by decide +kernel
theorem dL_law_265 : decode cL_law 265 = .ok (.aload_n 0, 1) := by decide +kernel
theorem dL_law_266 : decode cL_law 266 = .ok (.iload_n 3, 1) := by decide +kernel
theorem dL_law_267 : decode cL_law 267 = .ok (.iconst 2, 1) := by decide +kernel
theorem dL_law_268 : decode cL_law 268 = .ok (.iadd, 1) := by decide +kernel
theorem dL_law_269 : decode cL_law 269 = .ok (.iaload, 1) := by decide +kernel
theorem dL_law_270 : decode cL_law 270 = .ok (.invokevirtual 28, 3) := by decide +kernel
theorem dL_law_273 : decode cL_law 273 = .ok (.aload_n 2, 1) := by decide +kernel
theorem dL_law_274 : decode cL_law 274 = .ok (.aload_n 0, 1) := by decide +kernel
theorem dL_law_275 : decode cL_law 275 = .ok (.iload_n 3, 1) := by decide +kernel
theorem dL_law_276 : decode cL_law 276 = .ok (.iconst 1, 1) := by decide +kernel
theorem dL_law_277 : decode cL_law 277 = .ok (.iadd, 1) := by decide +kernel
theorem dL_law_278 : decode cL_law 278 = .ok (.iaload, 1) := by decide +kernel
theorem dL_law_279 : decode cL_law 279 = .ok (.aload_n 0, 1) := by decide +kernel
theorem dL_law_280 : decode cL_law 280 = .ok (.iload_n 3, 1) := by decide +kernel
theorem dL_law_281 : decode cL_law 281 = .ok (.iconst 2, 1) := by decide +kernel
theorem dL_law_282 : decode cL_law 282 = .ok (.iadd, 1) := by decide +kernel
theorem dL_law_283 : decode cL_law 283 = .ok (.iaload, 1) := by decide +kernel
theorem dL_law_284 : decode cL_law 284 = .ok (.invokevirtual 31, 3) := by decide +kernel
theorem dL_law_287 : decode cL_law 287 = .ok (.if_icmp .eq 578, 3) := by decide +kernel
theorem dL_law_290 : decode cL_law 290 = .ok (.iconst 0, 1) := by decide +kernel
theorem dL_law_291 : decode cL_law 291 = .ok (.ireturn, 1) := by decide +kernel
theorem dL_law_292 : decode cL_law 292 = .ok (.aload_n 1, 1) := by decide +kernel
theorem dL_law_293 : decode cL_law 293 = .ok (.aload_n 0, 1) := by decide +kernel
theorem dL_law_294 : decode cL_law 294 = .ok (.iload_n 3, 1) := by decide +kernel
theorem dL_law_295 : decode cL_law 295 = .ok (.iconst 1, 1) := by decide +kernel
theorem dL_law_296 : decode cL_law 296 = .ok (.iadd, 1) := by decide +kernel
theorem dL_law_297 : decode cL_law 297 = .ok (.iaload, 1) := by decide +kernel
theorem dL_law_298 : decode cL_law 298 = .ok (.aload_n 0, 1) := by decide +kernel
theorem dL_law_299 : decode cL_law 299 = .ok (.iload_n 3, 1) := by decide +kernel
theorem dL_law_300 : decode cL_law 300 = .ok (.iconst 2, 1) := by decide +kernel
theorem dL_law_301 : decode cL_law 301 = .ok (.iadd, 1) := by decide +kernel
theorem dL_law_302 : decode cL_law 302 = .ok (.iaload, 1) := by decide +kernel
theorem dL_law_303 : decode cL_law 303 = .ok (.aload_n 0, 1) := by decide +kernel
theorem dL_law_304 : decode cL_law 304 = .ok (.iload_n 3, 1) := by decide +kernel
theorem dL_law_305 : decode cL_law 305 = .ok (.iconst 3, 1) := by decide +kernel
theorem dL_law_306 : decode cL_law 306 = .ok (.iadd, 1) := by decide +kernel
theorem dL_law_307 : decode cL_law 307 = .ok (.iaload, 1) := by decide +kernel
theorem dL_law_308 : decode cL_law 308 = .ok (.invokevirtual 32, 3) := by decide +kernel
theorem dL_law_311 : decode cL_law 311 = .ok (.aload_n 2, 1) := by decide +kernel
theorem dL_law_312 : decode cL_law 312 = .ok (.aload_n 0, 1) := by decide +kernel
theorem dL_law_313 : decode cL_law 313 = .ok (.iload_n 3, 1) := by decide +kernel
theorem dL_law_314 : decode cL_law 314 = .ok (.iconst 1, 1) := by decide +kernel
theorem dL_law_315 : decode cL_law 315 = .ok (.iadd, 1) := by decide +kernel
theorem dL_law_316 : decode cL_law 316 = .ok (.iaload, 1) := by decide +kernel
theorem dL_law_317 : decode cL_law 317 = .ok (.aload_n 0, 1) := by decide +kernel
theorem dL_law_318 : decode cL_law 318 = .ok (.iload_n 3, 1) := by decide +kernel
theorem dL_law_319 : decode cL_law 319 = .ok (.iconst 2, 1) := by decide +kernel
theorem dL_law_320 : decode cL_law 320 = .ok (.iadd, 1) := by decide +kernel
theorem dL_law_321 : decode cL_law 321 = .ok (.iaload, 1) := by decide +kernel
theorem dL_law_322 : decode cL_law 322 = .ok (.aload_n 0, 1) := by decide +kernel
theorem dL_law_323 : decode cL_law 323 = .ok (.iload_n 3, 1) := by decide +kernel
theorem dL_law_324 : decode cL_law 324 = .ok (.iconst 3, 1) := by decide +kernel
theorem dL_law_325 : decode cL_law 325 = .ok (.iadd, 1) := by decide +kernel
theorem dL_law_326 : decode cL_law 326 = .ok (.iaload, 1) := by decide +kernel
theorem dL_law_327 : decode cL_law 327 = .ok (.invokevirtual 36, 3) := by decide +kernel
theorem dL_law_330 : decode cL_law 330 = .ok (.if_icmp .eq 535, 3) := by decide +kernel
theorem dL_law_333 : decode cL_law 333 = .ok (.iconst 0, 1) := by decide +kernel
theorem dL_law_334 : decode cL_law 334 = .ok (.ireturn, 1) := by decide +kernel
theorem dL_law_335 : decode cL_law 335 = .ok (.aload_n 1, 1) := by decide +kernel
theorem dL_law_336 : decode cL_law 336 = .ok (.aload_n 0, 1) := by decide +kernel
theorem dL_law_337 : decode cL_law 337 = .ok (.iload_n 3, 1) := by decide +kernel
theorem dL_law_338 : decode cL_law 338 = .ok (.iconst 1, 1) := by decide +kernel
theorem dL_law_339 : decode cL_law 339 = .ok (.iadd, 1) := by decide +kernel
theorem dL_law_340 : decode cL_law 340 = .ok (.iaload, 1) := by decide +kernel
theorem dL_law_341 : decode cL_law 341 = .ok (.aload_n 0, 1) := by decide +kernel
theorem dL_law_342 : decode cL_law 342 = .ok (.iload_n 3, 1) := by decide +kernel
theorem dL_law_343 : decode cL_law 343 = .ok (.iconst 2, 1) := by decide +kernel
theorem dL_law_344 : decode cL_law 344 = .ok (.iadd, 1) := by decide +kernel
theorem dL_law_345 : decode cL_law 345 = .ok (.iaload, 1) := by decide +kernel
theorem dL_law_346 : decode cL_law 346 = .ok (.invokevirtual 37, 3) := by decide +kernel
theorem dL_law_349 : decode cL_law 349 = .ok (.aload_n 2, 1) := by decide +kernel
theorem dL_law_350 : decode cL_law 350 = .ok (.aload_n 0, 1) := by decide +kernel
theorem dL_law_351 : decode cL_law 351 = .ok (.iload_n 3, 1) := by decide +kernel
theorem dL_law_352 : decode cL_law 352 = .ok (.iconst 1, 1) := by decide +kernel
theorem dL_law_353 : decode cL_law 353 = .ok (.iadd, 1) := by decide +kernel
theorem dL_law_354 : decode cL_law 354 = .ok (.iaload, 1) := by decide +kernel
theorem dL_law_355 : decode cL_law 355 = .ok (.aload_n 0, 1) := by decide +kernel
theorem dL_law_356 : decode cL_law 356 = .ok (.iload_n 3, 1) := by decide +kernel
theorem dL_law_357 : decode cL_law 357 = .ok (.iconst 2, 1) := by decide +kernel
theorem dL_law_358 : decode cL_law 358 = .ok (.iadd, 1) := by decide +kernel
theorem dL_law_359 : decode cL_law 359 = .ok (.iaload, 1) := by decide +kernel
theorem dL_law_360 : decode cL_law 360 = .ok (.invokevirtual 40, 3) := by decide +kernel
theorem dL_law_363 : decode cL_law 363 = .ok (.if_icmp .eq 502, 3) := by decide +kernel
theorem dL_law_366 : decode cL_law 366 = .ok (.iconst 0, 1) := by decide +kernel
theorem dL_law_367 : decode cL_law 367 = .ok (.ireturn, 1) := by decide +kernel
theorem dL_law_368 : decode cL_law 368 = .ok (.aload_n 1, 1) := by decide +kernel
theorem dL_law_369 : decode cL_law 369 = .ok (.aload_n 0, 1) := by decide +kernel
theorem dL_law_370 : decode cL_law 370 = .ok (.iload_n 3, 1) := by decide +kernel
theorem dL_law_371 : decode cL_law 371 = .ok (.iconst 1, 1) := by decide +kernel
theorem dL_law_372 : decode cL_law 372 = .ok (.iadd, 1) := by decide +kernel
theorem dL_law_373 : decode cL_law 373 = .ok (.iaload, 1) := by decide +kernel
theorem dL_law_374 : decode cL_law 374 = .ok (.invokevirtual 41, 3) := by decide +kernel
theorem dL_law_377 : decode cL_law 377 = .ok (.aload_n 2, 1) := by decide +kernel
theorem dL_law_378 : decode cL_law 378 = .ok (.aload_n 0, 1) := by decide +kernel
theorem dL_law_379 : decode cL_law 379 = .ok (.iload_n 3, 1) := by decide +kernel
theorem dL_law_380 : decode cL_law 380 = .ok (.iconst 1, 1) := by decide +kernel
theorem dL_law_381 : decode cL_law 381 = .ok (.iadd, 1) := by decide +kernel
theorem dL_law_382 : decode cL_law 382 = .ok (.iaload, 1) := by decide +kernel
theorem dL_law_383 : decode cL_law 383 = .ok (.invokevirtual 44, 3) := by decide +kernel
theorem dL_law_386 : decode cL_law 386 = .ok (.if_icmp .eq 479, 3) := by decide +kernel
theorem dL_law_389 : decode cL_law 389 = .ok (.iconst 0, 1) := by decide +kernel
theorem dL_law_390 : decode cL_law 390 = .ok (.ireturn, 1) := by decide +kernel
theorem dL_law_391 : decode cL_law 391 = .ok (.aload_n 1, 1) := by decide +kernel
theorem dL_law_392 : decode cL_law 392 = .ok (.invokevirtual 45, 3) := by decide +kernel
theorem dL_law_395 : decode cL_law 395 = .ok (.aload_n 2, 1) := by decide +kernel
theorem dL_law_396 : decode cL_law 396 = .ok (.invokevirtual 49, 3) := by decide +kernel
theorem dL_law_399 : decode cL_law 399 = .ok (.if_icmp .eq 466, 3) := by decide +kernel
theorem dL_law_402 : decode cL_law 402 = .ok (.iconst 0, 1) := by decide +kernel
theorem dL_law_403 : decode cL_law 403 = .ok (.ireturn, 1) := by decide +kernel
theorem dL_law_404 : decode cL_law 404 = .ok (.aload_n 1, 1) := by decide +kernel
theorem dL_law_405 : decode cL_law 405 = .ok (.aload_n 0, 1) := by decide +kernel
theorem dL_law_406 : decode cL_law 406 = .ok (.iload_n 3, 1) := by decide +kernel
theorem dL_law_407 : decode cL_law 407 = .ok (.iconst 1, 1) := by decide +kernel
theorem dL_law_408 : decode cL_law 408 = .ok (.iadd, 1) := by decide +kernel
theorem dL_law_409 : decode cL_law 409 = .ok (.iaload, 1) := by decide +kernel
theorem dL_law_410 : decode cL_law 410 = .ok (.invokevirtual 50, 3) := by decide +kernel
theorem dL_law_413 : decode cL_law 413 = .ok (.aload_n 2, 1) := by decide +kernel
theorem dL_law_414 : decode cL_law 414 = .ok (.aload_n 0, 1) := by decide +kernel
theorem dL_law_415 : decode cL_law 415 = .ok (.iload_n 3, 1) := by decide +kernel
theorem dL_law_416 : decode cL_law 416 = .ok (.iconst 1, 1) := by decide +kernel
theorem dL_law_417 : decode cL_law 417 = .ok (.iadd, 1) := by decide +kernel
theorem dL_law_418 : decode cL_law 418 = .ok (.iaload, 1) := by decide +kernel
theorem dL_law_419 : decode cL_law 419 = .ok (.invokevirtual 53, 3) := by decide +kernel
theorem dL_law_422 : decode cL_law 422 = .ok (.if_icmp .eq 443, 3) := by decide +kernel
theorem dL_law_425 : decode cL_law 425 = .ok (.iconst 0, 1) := by decide +kernel
theorem dL_law_426 : decode cL_law 426 = .ok (.ireturn, 1) := by decide +kernel
theorem dL_law_427 : decode cL_law 427 = .ok (.aload_n 1, 1) := by decide +kernel
theorem dL_law_428 : decode cL_law 428 = .ok (.aload_n 0, 1) := by decide +kernel
theorem dL_law_429 : decode cL_law 429 = .ok (.iload_n 3, 1) := by decide +kernel
theorem dL_law_430 : decode cL_law 430 = .ok (.iconst 1, 1) := by decide +kernel
theorem dL_law_431 : decode cL_law 431 = .ok (.iadd, 1) := by decide +kernel
theorem dL_law_432 : decode cL_law 432 = .ok (.iaload, 1) := by decide +kernel
theorem dL_law_433 : decode cL_law 433 = .ok (.invokevirtual 54, 3) := by decide +kernel
theorem dL_law_436 : decode cL_law 436 = .ok (.aload_n 2, 1) := by decide +kernel
theorem dL_law_437 : decode cL_law 437 = .ok (.aload_n 0, 1) := by decide +kernel
theorem dL_law_438 : decode cL_law 438 = .ok (.iload_n 3, 1) := by decide +kernel
theorem dL_law_439 : decode cL_law 439 = .ok (.iconst 1, 1) := by decide +kernel
theorem dL_law_440 : decode cL_law 440 = .ok (.iadd, 1) := by decide +kernel
theorem dL_law_441 : decode cL_law 441 = .ok (.iaload, 1) := by decide +kernel
theorem dL_law_442 : decode cL_law 442 = .ok (.invokevirtual 57, 3) := by decide +kernel
theorem dL_law_445 : decode cL_law 445 = .ok (.if_icmp .eq 420, 3) := by decide +kernel
theorem dL_law_448 : decode cL_law 448 = .ok (.iconst 0, 1) := by decide +kernel
theorem dL_law_449 : decode cL_law 449 = .ok (.ireturn, 1) := by decide +kernel
theorem dL_law_450 : decode cL_law 450 = .ok (.aload_n 1, 1) := by decide +kernel
theorem dL_law_451 : decode cL_law 451 = .ok (.aload_n 0, 1) := by decide +kernel
theorem dL_law_452 : decode cL_law 452 = .ok (.iload_n 3, 1) := by decide +kernel
theorem dL_law_453 : decode cL_law 453 = .ok (.iconst 1, 1) := by decide +kernel
theorem dL_law_454 : decode cL_law 454 = .ok (.iadd, 1) := by decide +kernel
theorem dL_law_455 : decode cL_law 455 = .ok (.iaload, 1) := by decide +kernel
theorem dL_law_456 : decode cL_law 456 = .ok (.aload_n 0, 1) := by decide +kernel
theorem dL_law_457 : decode cL_law 457 = .ok (.iload_n 3, 1) := by decide +kernel
theorem dL_law_458 : decode cL_law 458 = .ok (.iconst 2, 1) := by decide +kernel
theorem dL_law_459 : decode cL_law 459 = .ok (.iadd, 1) := by decide +kernel
theorem dL_law_460 : decode cL_law 460 = .ok (.iaload, 1) := by decide +kernel
theorem dL_law_461 : decode cL_law 461 = .ok (.aload_n 0, 1) := by decide +kernel
theorem dL_law_462 : decode cL_law 462 = .ok (.iload_n 3, 1) := by decide +kernel
theorem dL_law_463 : decode cL_law 463 = .ok (.iconst 3, 1) := by decide +kernel
theorem dL_law_464 : decode cL_law 464 = .ok (.iadd, 1) := by decide +kernel
theorem dL_law_465 : decode cL_law 465 = .ok (.iaload, 1) := by decide +kernel
theorem dL_law_466 : decode cL_law 466 = .ok (.aload_n 0, 1) := by decide +kernel
theorem dL_law_467 : decode cL_law 467 = .ok (.iload_n 3, 1) := by decide +kernel
theorem dL_law_468 : decode cL_law 468 = .ok (.iconst 4, 1) := by decide +kernel
theorem dL_law_469 : decode cL_law 469 = .ok (.iadd, 1) := by decide +kernel
theorem dL_law_470 : decode cL_law 470 = .ok (.iaload, 1) := by decide +kernel
theorem dL_law_471 : decode cL_law 471 = .ok (.ifCond .eq 7, 3) := by decide +kernel
theorem dL_law_474 : decode cL_law 474 = .ok (.iconst 1, 1) := by decide +kernel
theorem dL_law_475 : decode cL_law 475 = .ok (.goto 4, 3) := by decide +kernel
theorem dL_law_478 : decode cL_law 478 = .ok (.iconst 0, 1) := by decide +kernel
theorem dL_law_479 : decode cL_law 479 = .ok (.invokevirtual 58, 3) := by decide +kernel
theorem dL_law_482 : decode cL_law 482 = .ok (.aload_n 2, 1) := by decide +kernel
theorem dL_law_483 : decode cL_law 483 = .ok (.aload_n 0, 1) := by decide +kernel
theorem dL_law_484 : decode cL_law 484 = .ok (.iload_n 3, 1) := by decide +kernel
theorem dL_law_485 : decode cL_law 485 = .ok (.iconst 1, 1) := by decide +kernel
theorem dL_law_486 : decode cL_law 486 = .ok (.iadd, 1) := by decide +kernel
theorem dL_law_487 : decode cL_law 487 = .ok (.iaload, 1) := by decide +kernel
theorem dL_law_488 : decode cL_law 488 = .ok (.aload_n 0, 1) := by decide +kernel
theorem dL_law_489 : decode cL_law 489 = .ok (.iload_n 3, 1) := by decide +kernel
theorem dL_law_490 : decode cL_law 490 = .ok (.iconst 2, 1) := by decide +kernel
theorem dL_law_491 : decode cL_law 491 = .ok (.iadd, 1) := by decide +kernel
theorem dL_law_492 : decode cL_law 492 = .ok (.iaload, 1) := by decide +kernel
theorem dL_law_493 : decode cL_law 493 = .ok (.aload_n 0, 1) := by decide +kernel
theorem dL_law_494 : decode cL_law 494 = .ok (.iload_n 3, 1) := by decide +kernel
theorem dL_law_495 : decode cL_law 495 = .ok (.iconst 3, 1) := by decide +kernel
theorem dL_law_496 : decode cL_law 496 = .ok (.iadd, 1) := by decide +kernel
theorem dL_law_497 : decode cL_law 497 = .ok (.iaload, 1) := by decide +kernel
theorem dL_law_498 : decode cL_law 498 = .ok (.aload_n 0, 1) := by decide +kernel
theorem dL_law_499 : decode cL_law 499 = .ok (.iload_n 3, 1) := by decide +kernel
theorem dL_law_500 : decode cL_law 500 = .ok (.iconst 4, 1) := by decide +kernel
theorem dL_law_501 : decode cL_law 501 = .ok (.iadd, 1) := by decide +kernel
theorem dL_law_502 : decode cL_law 502 = .ok (.iaload, 1) := by decide +kernel
theorem dL_law_503 : decode cL_law 503 = .ok (.ifCond .eq 7, 3) := by decide +kernel
theorem dL_law_506 : decode cL_law 506 = .ok (.iconst 1, 1) := by decide +kernel
theorem dL_law_507 : decode cL_law 507 = .ok (.goto 4, 3) := by decide +kernel
theorem dL_law_510 : decode cL_law 510 = .ok (.iconst 0, 1) := by decide +kernel
theorem dL_law_511 : decode cL_law 511 = .ok (.invokevirtual 62, 3) := by decide +kernel
theorem dL_law_514 : decode cL_law 514 = .ok (.if_icmp .eq 351, 3) := by decide +kernel
theorem dL_law_517 : decode cL_law 517 = .ok (.iconst 0, 1) := by decide +kernel
theorem dL_law_518 : decode cL_law 518 = .ok (.ireturn, 1) := by decide +kernel
theorem dL_law_519 : decode cL_law 519 = .ok (.aload_n 1, 1) := by decide +kernel
theorem dL_law_520 : decode cL_law 520 = .ok (.aload_n 0, 1) := by decide +kernel
theorem dL_law_521 : decode cL_law 521 = .ok (.iload_n 3, 1) := by decide +kernel
theorem dL_law_522 : decode cL_law 522 = .ok (.iconst 1, 1) := by decide +kernel
theorem dL_law_523 : decode cL_law 523 = .ok (.iadd, 1) := by decide +kernel
theorem dL_law_524 : decode cL_law 524 = .ok (.iaload, 1) := by decide +kernel
theorem dL_law_525 : decode cL_law 525 = .ok (.aload_n 0, 1) := by decide +kernel
theorem dL_law_526 : decode cL_law 526 = .ok (.iload_n 3, 1) := by decide +kernel
theorem dL_law_527 : decode cL_law 527 = .ok (.iconst 2, 1) := by decide +kernel
theorem dL_law_528 : decode cL_law 528 = .ok (.iadd, 1) := by decide +kernel
theorem dL_law_529 : decode cL_law 529 = .ok (.iaload, 1) := by decide +kernel
theorem dL_law_530 : decode cL_law 530 = .ok (.invokevirtual 63, 3) := by decide +kernel
theorem dL_law_533 : decode cL_law 533 = .ok (.aload_n 2, 1) := by decide +kernel
theorem dL_law_534 : decode cL_law 534 = .ok (.aload_n 0, 1) := by decide +kernel
theorem dL_law_535 : decode cL_law 535 = .ok (.iload_n 3, 1) := by decide +kernel
theorem dL_law_536 : decode cL_law 536 = .ok (.iconst 1, 1) := by decide +kernel
theorem dL_law_537 : decode cL_law 537 = .ok (.iadd, 1) := by decide +kernel
theorem dL_law_538 : decode cL_law 538 = .ok (.iaload, 1) := by decide +kernel
theorem dL_law_539 : decode cL_law 539 = .ok (.aload_n 0, 1) := by decide +kernel
theorem dL_law_540 : decode cL_law 540 = .ok (.iload_n 3, 1) := by decide +kernel
theorem dL_law_541 : decode cL_law 541 = .ok (.iconst 2, 1) := by decide +kernel
theorem dL_law_542 : decode cL_law 542 = .ok (.iadd, 1) := by decide +kernel
theorem dL_law_543 : decode cL_law 543 = .ok (.iaload, 1) := by decide +kernel
theorem dL_law_544 : decode cL_law 544 = .ok (.invokevirtual 66, 3) := by decide +kernel
theorem dL_law_547 : decode cL_law 547 = .ok (.if_icmp .eq 318, 3) := by decide +kernel
theorem dL_law_550 : decode cL_law 550 = .ok (.iconst 0, 1) := by decide +kernel
theorem dL_law_551 : decode cL_law 551 = .ok (.ireturn, 1) := by decide +kernel
theorem dL_law_552 : decode cL_law 552 = .ok (.aload_n 1, 1) := by decide +kernel
theorem dL_law_553 : decode cL_law 553 = .ok (.aload_n 0, 1) := by decide +kernel
theorem dL_law_554 : decode cL_law 554 = .ok (.iload_n 3, 1) := by decide +kernel
theorem dL_law_555 : decode cL_law 555 = .ok (.iconst 1, 1) := by decide +kernel
theorem dL_law_556 : decode cL_law 556 = .ok (.iadd, 1) := by decide +kernel
theorem dL_law_557 : decode cL_law 557 = .ok (.iaload, 1) := by decide +kernel
theorem dL_law_558 : decode cL_law 558 = .ok (.aload_n 0, 1) := by decide +kernel
theorem dL_law_559 : decode cL_law 559 = .ok (.iload_n 3, 1) := by decide +kernel
theorem dL_law_560 : decode cL_law 560 = .ok (.iconst 2, 1) := by decide +kernel
theorem dL_law_561 : decode cL_law 561 = .ok (.iadd, 1) := by decide +kernel
theorem dL_law_562 : decode cL_law 562 = .ok (.iaload, 1) := by decide +kernel
theorem dL_law_563 : decode cL_law 563 = .ok (.invokevirtual 67, 3) := by decide +kernel
theorem dL_law_566 : decode cL_law 566 = .ok (.aload_n 2, 1) := by decide +kernel
theorem dL_law_567 : decode cL_law 567 = .ok (.aload_n 0, 1) := by decide +kernel
theorem dL_law_568 : decode cL_law 568 = .ok (.iload_n 3, 1) := by decide +kernel
theorem dL_law_569 : decode cL_law 569 = .ok (.iconst 1, 1) := by decide +kernel
theorem dL_law_570 : decode cL_law 570 = .ok (.iadd, 1) := by decide +kernel
theorem dL_law_571 : decode cL_law 571 = .ok (.iaload, 1) := by decide +kernel
theorem dL_law_572 : decode cL_law 572 = .ok (.aload_n 0, 1) := by decide +kernel
theorem dL_law_573 : decode cL_law 573 = .ok (.iload_n 3, 1) := by decide +kernel
theorem dL_law_574 : decode cL_law 574 = .ok (.iconst 2, 1) := by decide +kernel
theorem dL_law_575 : decode cL_law 575 = .ok (.iadd, 1) := by decide +kernel
theorem dL_law_576 : decode cL_law 576 = .ok (.iaload, 1) := by decide +kernel
theorem dL_law_577 : decode cL_law 577 = .ok (.invokevirtual 70, 3) := by decide +kernel
theorem dL_law_580 : decode cL_law 580 = .ok (.if_icmp .eq 285, 3) := by decide +kernel
theorem dL_law_583 : decode cL_law 583 = .ok (.iconst 0, 1) := by decide +kernel
theorem dL_law_584 : decode cL_law 584 = .ok (.ireturn, 1) := by decide +kernel
theorem dL_law_585 : decode cL_law 585 = .ok (.aload_n 1, 1) := by decide +kernel
theorem dL_law_586 : decode cL_law 586 = .ok (.aload_n 0, 1) := by decide +kernel
theorem dL_law_587 : decode cL_law 587 = .ok (.iload_n 3, 1) := by decide +kernel
theorem dL_law_588 : decode cL_law 588 = .ok (.iconst 1, 1) := by decide +kernel
theorem dL_law_589 : decode cL_law 589 = .ok (.iadd, 1) := by decide +kernel
theorem dL_law_590 : decode cL_law 590 = .ok (.iaload, 1) := by decide +kernel
theorem dL_law_591 : decode cL_law 591 = .ok (.invokevirtual 71, 3) := by decide +kernel
theorem dL_law_594 : decode cL_law 594 = .ok (.aload_n 2, 1) := by decide +kernel
theorem dL_law_595 : decode cL_law 595 = .ok (.aload_n 0, 1) := by decide +kernel
theorem dL_law_596 : decode cL_law 596 = .ok (.iload_n 3, 1) := by decide +kernel
theorem dL_law_597 : decode cL_law 597 = .ok (.iconst 1, 1) := by decide +kernel
theorem dL_law_598 : decode cL_law 598 = .ok (.iadd, 1) := by decide +kernel
theorem dL_law_599 : decode cL_law 599 = .ok (.iaload, 1) := by decide +kernel
theorem dL_law_600 : decode cL_law 600 = .ok (.invokevirtual 74, 3) := by decide +kernel
theorem dL_law_603 : decode cL_law 603 = .ok (.if_icmp .eq 262, 3) := by decide +kernel
theorem dL_law_606 : decode cL_law 606 = .ok (.iconst 0, 1) := by decide +kernel
theorem dL_law_607 : decode cL_law 607 = .ok (.ireturn, 1) := by decide +kernel
theorem dL_law_608 : decode cL_law 608 = .ok (.aload_n 1, 1) := by decide +kernel
theorem dL_law_609 : decode cL_law 609 = .ok (.aload_n 0, 1) := by decide +kernel
theorem dL_law_610 : decode cL_law 610 = .ok (.iload_n 3, 1) := by decide +kernel
theorem dL_law_611 : decode cL_law 611 = .ok (.iconst 1, 1) := by decide +kernel
theorem dL_law_612 : decode cL_law 612 = .ok (.iadd, 1) := by decide +kernel
theorem dL_law_613 : decode cL_law 613 = .ok (.iaload, 1) := by decide +kernel
theorem dL_law_614 : decode cL_law 614 = .ok (.aload_n 0, 1) := by decide +kernel
theorem dL_law_615 : decode cL_law 615 = .ok (.iload_n 3, 1) := by decide +kernel
theorem dL_law_616 : decode cL_law 616 = .ok (.iconst 2, 1) := by decide +kernel
theorem dL_law_617 : decode cL_law 617 = .ok (.iadd, 1) := by decide +kernel
theorem dL_law_618 : decode cL_law 618 = .ok (.iaload, 1) := by decide +kernel
theorem dL_law_619 : decode cL_law 619 = .ok (.invokevirtual 75, 3) := by decide +kernel
theorem dL_law_622 : decode cL_law 622 = .ok (.aload_n 2, 1) := by decide +kernel
theorem dL_law_623 : decode cL_law 623 = .ok (.aload_n 0, 1) := by decide +kernel
theorem dL_law_624 : decode cL_law 624 = .ok (.iload_n 3, 1) := by decide +kernel
theorem dL_law_625 : decode cL_law 625 = .ok (.iconst 1, 1) := by decide +kernel
theorem dL_law_626 : decode cL_law 626 = .ok (.iadd, 1) := by decide +kernel
theorem dL_law_627 : decode cL_law 627 = .ok (.iaload, 1) := by decide +kernel
theorem dL_law_628 : decode cL_law 628 = .ok (.aload_n 0, 1) := by decide +kernel
theorem dL_law_629 : decode cL_law 629 = .ok (.iload_n 3, 1) := by decide +kernel
theorem dL_law_630 : decode cL_law 630 = .ok (.iconst 2, 1) := by decide +kernel
theorem dL_law_631 : decode cL_law 631 = .ok (.iadd, 1) := by decide +kernel
theorem dL_law_632 : decode cL_law 632 = .ok (.iaload, 1) := by decide +kernel
theorem dL_law_633 : decode cL_law 633 = .ok (.invokevirtual 78, 3) := by decide +kernel
theorem dL_law_636 : decode cL_law 636 = .ok (.if_icmp .eq 229, 3) := by decide +kernel
theorem dL_law_639 : decode cL_law 639 = .ok (.iconst 0, 1) := by decide +kernel
theorem dL_law_640 : decode cL_law 640 = .ok (.ireturn, 1) := by decide +kernel
theorem dL_law_641 : decode cL_law 641 = .ok (.aload_n 1, 1) := by decide +kernel
theorem dL_law_642 : decode cL_law 642 = .ok (.aload_n 0, 1) := by decide +kernel
theorem dL_law_643 : decode cL_law 643 = .ok (.iload_n 3, 1) := by decide +kernel
theorem dL_law_644 : decode cL_law 644 = .ok (.iconst 1, 1) := by decide +kernel
theorem dL_law_645 : decode cL_law 645 = .ok (.iadd, 1) := by decide +kernel
theorem dL_law_646 : decode cL_law 646 = .ok (.iaload, 1) := by decide +kernel
theorem dL_law_647 : decode cL_law 647 = .ok (.invokevirtual 79, 3) := by decide +kernel
theorem dL_law_650 : decode cL_law 650 = .ok (.aload_n 2, 1) := by decide +kernel
theorem dL_law_651 : decode cL_law 651 = .ok (.aload_n 0, 1) := by decide +kernel
theorem dL_law_652 : decode cL_law 652 = .ok (.iload_n 3, 1) := by decide +kernel
theorem dL_law_653 : decode cL_law 653 = .ok (.iconst 1, 1) := by decide +kernel
theorem dL_law_654 : decode cL_law 654 = .ok (.iadd, 1) := by decide +kernel
theorem dL_law_655 : decode cL_law 655 = .ok (.iaload, 1) := by decide +kernel
theorem dL_law_656 : decode cL_law 656 = .ok (.invokevirtual 82, 3) := by decide +kernel
theorem dL_law_659 : decode cL_law 659 = .ok (.if_icmp .eq 206, 3) := by decide +kernel
theorem dL_law_662 : decode cL_law 662 = .ok (.iconst 0, 1) := by decide +kernel
theorem dL_law_663 : decode cL_law 663 = .ok (.ireturn, 1) := by decide +kernel
theorem dL_law_664 : decode cL_law 664 = .ok (.aload_n 1, 1) := by decide +kernel
theorem dL_law_665 : decode cL_law 665 = .ok (.aload_n 0, 1) := by decide +kernel
theorem dL_law_666 : decode cL_law 666 = .ok (.iload_n 3, 1) := by decide +kernel
theorem dL_law_667 : decode cL_law 667 = .ok (.iconst 1, 1) := by decide +kernel
theorem dL_law_668 : decode cL_law 668 = .ok (.iadd, 1) := by decide +kernel
theorem dL_law_669 : decode cL_law 669 = .ok (.iaload, 1) := by decide +kernel
theorem dL_law_670 : decode cL_law 670 = .ok (.aload_n 0, 1) := by decide +kernel
theorem dL_law_671 : decode cL_law 671 = .ok (.iload_n 3, 1) := by decide +kernel
theorem dL_law_672 : decode cL_law 672 = .ok (.iconst 2, 1) := by decide +kernel
theorem dL_law_673 : decode cL_law 673 = .ok (.iadd, 1) := by decide +kernel
theorem dL_law_674 : decode cL_law 674 = .ok (.iaload, 1) := by decide +kernel
theorem dL_law_675 : decode cL_law 675 = .ok (.invokevirtual 83, 3) := by decide +kernel
theorem dL_law_678 : decode cL_law 678 = .ok (.aload_n 2, 1) := by decide +kernel
theorem dL_law_679 : decode cL_law 679 = .ok (.aload_n 0, 1) := by decide +kernel
theorem dL_law_680 : decode cL_law 680 = .ok (.iload_n 3, 1) := by decide +kernel
theorem dL_law_681 : decode cL_law 681 = .ok (.iconst 1, 1) := by decide +kernel
theorem dL_law_682 : decode cL_law 682 = .ok (.iadd, 1) := by decide +kernel
theorem dL_law_683 : decode cL_law 683 = .ok (.iaload, 1) := by decide +kernel
theorem dL_law_684 : decode cL_law 684 = .ok (.aload_n 0, 1) := by decide +kernel
theorem dL_law_685 : decode cL_law 685 = .ok (.iload_n 3, 1) := by decide +kernel
theorem dL_law_686 : decode cL_law 686 = .ok (.iconst 2, 1) := by decide +kernel
theorem dL_law_687 : decode cL_law 687 = .ok (.iadd, 1) := by decide +kernel
theorem dL_law_688 : decode cL_law 688 = .ok (.iaload, 1) := by decide +kernel
theorem dL_law_689 : decode cL_law 689 = .ok (.invokevirtual 86, 3) := by decide +kernel
theorem dL_law_692 : decode cL_law 692 = .ok (.if_icmp .eq 173, 3) := by decide +kernel
theorem dL_law_695 : decode cL_law 695 = .ok (.iconst 0, 1) := by decide +kernel
theorem dL_law_696 : decode cL_law 696 = .ok (.ireturn, 1) := by decide +kernel
theorem dL_law_697 : decode cL_law 697 = .ok (.aload_n 1, 1) := by decide +kernel
theorem dL_law_698 : decode cL_law 698 = .ok (.aload_n 0, 1) := by decide +kernel
theorem dL_law_699 : decode cL_law 699 = .ok (.iload_n 3, 1) := by decide +kernel
theorem dL_law_700 : decode cL_law 700 = .ok (.iconst 1, 1) := by decide +kernel
theorem dL_law_701 : decode cL_law 701 = .ok (.iadd, 1) := by decide +kernel
theorem dL_law_702 : decode cL_law 702 = .ok (.iaload, 1) := by decide +kernel
theorem dL_law_703 : decode cL_law 703 = .ok (.aload_n 0, 1) := by decide +kernel
theorem dL_law_704 : decode cL_law 704 = .ok (.iload_n 3, 1) := by decide +kernel
theorem dL_law_705 : decode cL_law 705 = .ok (.iconst 2, 1) := by decide +kernel
theorem dL_law_706 : decode cL_law 706 = .ok (.iadd, 1) := by decide +kernel
theorem dL_law_707 : decode cL_law 707 = .ok (.iaload, 1) := by decide +kernel
theorem dL_law_708 : decode cL_law 708 = .ok (.invokevirtual 87, 3) := by decide +kernel
theorem dL_law_711 : decode cL_law 711 = .ok (.aload_n 2, 1) := by decide +kernel
theorem dL_law_712 : decode cL_law 712 = .ok (.aload_n 0, 1) := by decide +kernel
theorem dL_law_713 : decode cL_law 713 = .ok (.iload_n 3, 1) := by decide +kernel
theorem dL_law_714 : decode cL_law 714 = .ok (.iconst 1, 1) := by decide +kernel
theorem dL_law_715 : decode cL_law 715 = .ok (.iadd, 1) := by decide +kernel
theorem dL_law_716 : decode cL_law 716 = .ok (.iaload, 1) := by decide +kernel
theorem dL_law_717 : decode cL_law 717 = .ok (.aload_n 0, 1) := by decide +kernel
theorem dL_law_718 : decode cL_law 718 = .ok (.iload_n 3, 1) := by decide +kernel
theorem dL_law_719 : decode cL_law 719 = .ok (.iconst 2, 1) := by decide +kernel
theorem dL_law_720 : decode cL_law 720 = .ok (.iadd, 1) := by decide +kernel
theorem dL_law_721 : decode cL_law 721 = .ok (.iaload, 1) := by decide +kernel
theorem dL_law_722 : decode cL_law 722 = .ok (.invokevirtual 90, 3) := by decide +kernel
theorem dL_law_725 : decode cL_law 725 = .ok (.if_icmp .eq 140, 3) := by decide +kernel
theorem dL_law_728 : decode cL_law 728 = .ok (.iconst 0, 1) := by decide +kernel
theorem dL_law_729 : decode cL_law 729 = .ok (.ireturn, 1) := by decide +kernel
theorem dL_law_730 : decode cL_law 730 = .ok (.aload_n 1, 1) := by decide +kernel
theorem dL_law_731 : decode cL_law 731 = .ok (.aload_n 0, 1) := by decide +kernel
theorem dL_law_732 : decode cL_law 732 = .ok (.iload_n 3, 1) := by decide +kernel
theorem dL_law_733 : decode cL_law 733 = .ok (.iconst 1, 1) := by decide +kernel
theorem dL_law_734 : decode cL_law 734 = .ok (.iadd, 1) := by decide +kernel
theorem dL_law_735 : decode cL_law 735 = .ok (.iaload, 1) := by decide +kernel
theorem dL_law_736 : decode cL_law 736 = .ok (.invokevirtual 91, 3) := by decide +kernel
theorem dL_law_739 : decode cL_law 739 = .ok (.aload_n 2, 1) := by decide +kernel
theorem dL_law_740 : decode cL_law 740 = .ok (.aload_n 0, 1) := by decide +kernel
theorem dL_law_741 : decode cL_law 741 = .ok (.iload_n 3, 1) := by decide +kernel
theorem dL_law_742 : decode cL_law 742 = .ok (.iconst 1, 1) := by decide +kernel
theorem dL_law_743 : decode cL_law 743 = .ok (.iadd, 1) := by decide +kernel
theorem dL_law_744 : decode cL_law 744 = .ok (.iaload, 1) := by decide +kernel
theorem dL_law_745 : decode cL_law 745 = .ok (.invokevirtual 94, 3) := by decide +kernel
theorem dL_law_748 : decode cL_law 748 = .ok (.if_icmp .eq 117, 3) := by decide +kernel
theorem dL_law_751 : decode cL_law 751 = .ok (.iconst 0, 1) := by decide +kernel
theorem dL_law_752 : decode cL_law 752 = .ok (.ireturn, 1) := by decide +kernel
theorem dL_law_753 : decode cL_law 753 = .ok (.aload_n 1, 1) := by decide +kernel
theorem dL_law_754 : decode cL_law 754 = .ok (.aload_n 0, 1) := by decide +kernel
theorem dL_law_755 : decode cL_law 755 = .ok (.iload_n 3, 1) := by decide +kernel
theorem dL_law_756 : decode cL_law 756 = .ok (.iconst 1, 1) := by decide +kernel
theorem dL_law_757 : decode cL_law 757 = .ok (.iadd, 1) := by decide +kernel
theorem dL_law_758 : decode cL_law 758 = .ok (.iaload, 1) := by decide +kernel
theorem dL_law_759 : decode cL_law 759 = .ok (.aload_n 0, 1) := by decide +kernel
theorem dL_law_760 : decode cL_law 760 = .ok (.iload_n 3, 1) := by decide +kernel
theorem dL_law_761 : decode cL_law 761 = .ok (.iconst 2, 1) := by decide +kernel
theorem dL_law_762 : decode cL_law 762 = .ok (.iadd, 1) := by decide +kernel
theorem dL_law_763 : decode cL_law 763 = .ok (.iaload, 1) := by decide +kernel
theorem dL_law_764 : decode cL_law 764 = .ok (.invokevirtual 95, 3) := by decide +kernel
theorem dL_law_767 : decode cL_law 767 = .ok (.aload_n 2, 1) := by decide +kernel
theorem dL_law_768 : decode cL_law 768 = .ok (.aload_n 0, 1) := by decide +kernel
theorem dL_law_769 : decode cL_law 769 = .ok (.iload_n 3, 1) := by decide +kernel
theorem dL_law_770 : decode cL_law 770 = .ok (.iconst 1, 1) := by decide +kernel
theorem dL_law_771 : decode cL_law 771 = .ok (.iadd, 1) := by decide +kernel
theorem dL_law_772 : decode cL_law 772 = .ok (.iaload, 1) := by decide +kernel
theorem dL_law_773 : decode cL_law 773 = .ok (.aload_n 0, 1) := by decide +kernel
theorem dL_law_774 : decode cL_law 774 = .ok (.iload_n 3, 1) := by decide +kernel
theorem dL_law_775 : decode cL_law 775 = .ok (.iconst 2, 1) := by decide +kernel
theorem dL_law_776 : decode cL_law 776 = .ok (.iadd, 1) := by decide +kernel
theorem dL_law_777 : decode cL_law 777 = .ok (.iaload, 1) := by decide +kernel
theorem dL_law_778 : decode cL_law 778 = .ok (.invokevirtual 98, 3) := by decide +kernel
theorem dL_law_781 : decode cL_law 781 = .ok (.if_icmp .eq 84, 3) := by decide +kernel
theorem dL_law_784 : decode cL_law 784 = .ok (.iconst 0, 1) := by decide +kernel
theorem dL_law_785 : decode cL_law 785 = .ok (.ireturn, 1) := by decide +kernel
theorem dL_law_786 : decode cL_law 786 = .ok (.aload_n 1, 1) := by decide +kernel
theorem dL_law_787 : decode cL_law 787 = .ok (.aload_n 0, 1) := by decide +kernel
theorem dL_law_788 : decode cL_law 788 = .ok (.iload_n 3, 1) := by decide +kernel
theorem dL_law_789 : decode cL_law 789 = .ok (.iconst 1, 1) := by decide +kernel
theorem dL_law_790 : decode cL_law 790 = .ok (.iadd, 1) := by decide +kernel
theorem dL_law_791 : decode cL_law 791 = .ok (.iaload, 1) := by decide +kernel
theorem dL_law_792 : decode cL_law 792 = .ok (.invokevirtual 99, 3) := by decide +kernel
theorem dL_law_795 : decode cL_law 795 = .ok (.aload_n 2, 1) := by decide +kernel
theorem dL_law_796 : decode cL_law 796 = .ok (.aload_n 0, 1) := by decide +kernel
theorem dL_law_797 : decode cL_law 797 = .ok (.iload_n 3, 1) := by decide +kernel
theorem dL_law_798 : decode cL_law 798 = .ok (.iconst 1, 1) := by decide +kernel
theorem dL_law_799 : decode cL_law 799 = .ok (.iadd, 1) := by decide +kernel
theorem dL_law_800 : decode cL_law 800 = .ok (.iaload, 1) := by decide +kernel
theorem dL_law_801 : decode cL_law 801 = .ok (.invokevirtual 102, 3) := by decide +kernel
theorem dL_law_804 : decode cL_law 804 = .ok (.if_icmp .eq 61, 3) := by decide +kernel
theorem dL_law_807 : decode cL_law 807 = .ok (.iconst 0, 1) := by decide +kernel
theorem dL_law_808 : decode cL_law 808 = .ok (.ireturn, 1) := by decide +kernel
theorem dL_law_809 : decode cL_law 809 = .ok (.aload_n 1, 1) := by decide +kernel
theorem dL_law_810 : decode cL_law 810 = .ok (.aload_n 0, 1) := by decide +kernel
theorem dL_law_811 : decode cL_law 811 = .ok (.iload_n 3, 1) := by decide +kernel
theorem dL_law_812 : decode cL_law 812 = .ok (.iconst 1, 1) := by decide +kernel
theorem dL_law_813 : decode cL_law 813 = .ok (.iadd, 1) := by decide +kernel
theorem dL_law_814 : decode cL_law 814 = .ok (.iaload, 1) := by decide +kernel
theorem dL_law_815 : decode cL_law 815 = .ok (.aload_n 0, 1) := by decide +kernel
theorem dL_law_816 : decode cL_law 816 = .ok (.iload_n 3, 1) := by decide +kernel
theorem dL_law_817 : decode cL_law 817 = .ok (.iconst 2, 1) := by decide +kernel
theorem dL_law_818 : decode cL_law 818 = .ok (.iadd, 1) := by decide +kernel
theorem dL_law_819 : decode cL_law 819 = .ok (.iaload, 1) := by decide +kernel
theorem dL_law_820 : decode cL_law 820 = .ok (.invokevirtual 103, 3) := by decide +kernel
theorem dL_law_823 : decode cL_law 823 = .ok (.aload_n 2, 1) := by decide +kernel
theorem dL_law_824 : decode cL_law 824 = .ok (.aload_n 0, 1) := by decide +kernel
theorem dL_law_825 : decode cL_law 825 = .ok (.iload_n 3, 1) := by decide +kernel
theorem dL_law_826 : decode cL_law 826 = .ok (.iconst 1, 1) := by decide +kernel
theorem dL_law_827 : decode cL_law 827 = .ok (.iadd, 1) := by decide +kernel
theorem dL_law_828 : decode cL_law 828 = .ok (.iaload, 1) := by decide +kernel
theorem dL_law_829 : decode cL_law 829 = .ok (.aload_n 0, 1) := by decide +kernel
theorem dL_law_830 : decode cL_law 830 = .ok (.iload_n 3, 1) := by decide +kernel
theorem dL_law_831 : decode cL_law 831 = .ok (.iconst 2, 1) := by decide +kernel
theorem dL_law_832 : decode cL_law 832 = .ok (.iadd, 1) := by decide +kernel
theorem dL_law_833 : decode cL_law 833 = .ok (.iaload, 1) := by decide +kernel
theorem dL_law_834 : decode cL_law 834 = .ok (.invokevirtual 106, 3) := by decide +kernel
theorem dL_law_837 : decode cL_law 837 = .ok (.if_icmp .eq 28, 3) := by decide +kernel
theorem dL_law_840 : decode cL_law 840 = .ok (.iconst 0, 1) := by decide +kernel
theorem dL_law_841 : decode cL_law 841 = .ok (.ireturn, 1) := by decide +kernel
theorem dL_law_842 : decode cL_law 842 = .ok (.aload_n 1, 1) := by decide +kernel
theorem dL_law_843 : decode cL_law 843 = .ok (.aload_n 0, 1) := by decide +kernel
theorem dL_law_844 : decode cL_law 844 = .ok (.iload_n 3, 1) := by decide +kernel
theorem dL_law_845 : decode cL_law 845 = .ok (.iconst 1, 1) := by decide +kernel
theorem dL_law_846 : decode cL_law 846 = .ok (.iadd, 1) := by decide +kernel
theorem dL_law_847 : decode cL_law 847 = .ok (.iaload, 1) := by decide +kernel
theorem dL_law_848 : decode cL_law 848 = .ok (.invokevirtual 107, 3) := by decide +kernel
theorem dL_law_851 : decode cL_law 851 = .ok (.aload_n 2, 1) := by decide +kernel
theorem dL_law_852 : decode cL_law 852 = .ok (.aload_n 0, 1) := by decide +kernel
theorem dL_law_853 : decode cL_law 853 = .ok (.iload_n 3, 1) := by decide +kernel
theorem dL_law_854 : decode cL_law 854 = .ok (.iconst 1, 1) := by decide +kernel
theorem dL_law_855 : decode cL_law 855 = .ok (.iadd, 1) := by decide +kernel
theorem dL_law_856 : decode cL_law 856 = .ok (.iaload, 1) := by decide +kernel
theorem dL_law_857 : decode cL_law 857 = .ok (.invokevirtual 110, 3) := by decide +kernel
theorem dL_law_860 : decode cL_law 860 = .ok (.if_icmp .eq 5, 3) := by decide +kernel
theorem dL_law_863 : decode cL_law 863 = .ok (.iconst 0, 1) := by decide +kernel
theorem dL_law_864 : decode cL_law 864 = .ok (.ireturn, 1) := by decide +kernel
theorem dL_law_865 : decode cL_law 865 = .ok (.iinc 3 6, 3) := by decide +kernel
theorem dL_law_868 : decode cL_law 868 = .ok (.goto (-850), 3) := by decide +kernel
theorem dL_law_871 : decode cL_law 871 = .ok (.iconst 1, 1) := by decide +kernel
theorem dL_law_872 : decode cL_law 872 = .ok (.ireturn, 1) := by decide +kernel
end
section
/-! ONE JUDGEMENT FOR ALL METHODS. The world is a list of cells (va_W); a contract (JM) and the judgement inside a method (JJ) speak of lists, locals and stacks alone: the machine, the tables' words, the room and the frame are dealt with here, once. -/
/-- launch; classes' numbers; array classes; the base: cells from there on are ours; the two static arrays -/
abbrev GT : Type := Launch × va_G × List (ClassId × FieldType) × Nat × Nat × Nat
/-- a method: name, bytes, locals, what it returns -/
abbrev YT : Type := MethodName × ByteArray × Nat × Option FieldType
abbrev OT : Type := Option Value → va_W → Prop
def BW : List Cond := lw_tbl.filter goodWord
def isNest (w : Cond) : Bool := match w with
  | .fieldLinkNest .. => true
  | .methodLinkNest .. => true
  | _ => false
def NW : List Cond := tables_1.filter isNest
theorem bw_of {i : Nat} {w : Cond} (h : lw_tbl[i]? = some w) (hg : goodWord w = true) : w ∈ BW := List.mem_filter.mpr ⟨List.mem_of_getElem? h, hg⟩
theorem nw_of {i : Nat} {w : Cond} (h : tables_1[i]? = some w) (hg : isNest w = true) : w ∈ NW := List.mem_filter.mpr ⟨List.mem_of_getElem? h, hg⟩
theorem bw_good {w : Cond} (h : w ∈ BW) : (w.onTables && w.keeps) = true ∨ ∃ ty, w = .arrayClass ty := good_of_word (List.mem_filter.mp h).2
def fXS : Nat → Value := fun j => if j < 2 then .int 1 else .int 2
def fYS : Nat → Value := fun j => if j % 2 = 0 then .int 1 else .int 2
def JA (G : GT) : Nat → Prop := fun q => G.2.2.2.1 ≤ q
/-- the classes of int[], byte[], boolean[], Register[], Entry[] -/
def gI (G : GT) : ClassId := (G.2.2.1.getD 0 (0, .int)).1
def gB (G : GT) : ClassId := (G.2.2.1.getD 1 (0, .int)).1
def gZ (G : GT) : ClassId := (G.2.2.1.getD 2 (0, .int)).1
def gR (G : GT) : ClassId := (G.2.2.1.getD 3 (0, .int)).1
def gE (G : GT) : ClassId := (G.2.2.1.getD 4 (0, .int)).1
def GOK (G : GT) : Prop := G.2.2.1[0]? = some (gI G, .int) ∧ G.2.2.1[1]? = some (gB G, .byte) ∧ G.2.2.1[2]? = some (gZ G, .boolean) ∧ G.2.2.1[3]? = some (gR G, .object RX5) ∧ G.2.2.1[4]? = some (gE G, .object RX0)
def JK (G : GT) (U : State) (H : Heap) : Prop :=
  GOK G ∧ va_K G.2.1 vwCl G.2.2.1 U ∧ (∀ w ∈ NW, va_Nw w U) ∧ va_AO RX5 U ∧ va_AO RX0 U ∧
  va_Z "NameGuard$Measure" "X_SIGNS" "[I" (.ref G.2.2.2.2.1) (JA G) U H ∧ va_T .int G.2.2.2.2.1 4 fXS (JA G) U H ∧
  va_Z "NameGuard$Measure" "Y_SIGNS" "[I" (.ref G.2.2.2.2.2) (JA G) U H ∧ va_T .int G.2.2.2.2.2 4 fYS (JA G) U H
theorem nw_warm {w : Cond} (hw : w ∈ NW) {u U : State} (hW : u.WarmedH U.vm) (h : va_Nw w u) : va_Nw w U := by
  have hn := (List.mem_filter.mp hw).2
  cases w <;> first | exact va_Nw.warmF hW h | exact va_Nw.warmM hW h | (simp [isNest] at hn)
theorem nw_same {w : Cond} (hw : w ∈ NW) {u U : State} (hW : u.vm = U.vm) (h : va_Nw w u) : va_Nw w U := by
  have hn := (List.mem_filter.mp hw).2
  cases w <;> first | exact va_Nw.same rfl hW h | (simp [isNest] at hn)
theorem JK.moved {G : GT} {u U : State} {H H1 : Heap} (hW : u.WarmedH U.vm) (hq : ∀ a : Nat, a < H.size → ¬ JA G a → H1[a]? = H[a]?) (h : JK G u H) : JK G U H1 := by
  obtain ⟨h0, h1, h2, h3, h4, h5, h6, h7, h8⟩ := h
  exact ⟨h0, h1.moved hW.alike, fun w hw => nw_warm hw hW (h2 w hw), h3.moved hW.alike, h4.moved hW.alike, (h5.kept hq).moved hW.alike, (h6.kept hq).moved hW.alike, (h7.kept hq).moved hW.alike, (h8.kept hq).moved hW.alike⟩
theorem JK.same {G : GT} {u U : State} {H : Heap} (hW : u.vm = U.vm) (h : JK G u H) : JK G U H := by
  obtain ⟨h0, h1, h2, h3, h4, h5, h6, h7, h8⟩ := h
  have ha : u.vm.Alike U.vm := by rw [hW]; exact Vm.Alike.refl _
  exact ⟨h0, h1.moved ha, fun w hw => nw_same hw hW (h2 w hw), h3.moved ha, h4.moved ha, h5.moved ha, h6.moved ha, h7.moved ha, h8.moved ha⟩
def JW (G : GT) (ws : va_W) (H : Heap) : Prop := va_P G.2.1 vwCl ws H ∧ va_D (JA G) ws
/-- locals: sorted, of one slot each -/
def lvg : List (Nat × Value) → Nat → Option Value
  | [], _ => none
  | (j, w) :: l, i => if j = i then some w else lvg l i
def lvs : List (Nat × Value) → Nat → Value → List (Nat × Value)
  | [], i, v => [(i, v)]
  | (j, w) :: l, i, v => if j < i then (j, w) :: lvs l i v else if j = i then (i, v) :: l else (i, v) :: (j, w) :: l
def lvk (l : List (Nat × Value)) (ks : List Nat) : List (Nat × Value) := l.filter (fun q => ks.contains q.1)
def lvok (l : List (Nat × Value)) : Bool := l.all (fun q => q.2.category == 1)
def lw_has (ls : Array Slot) (nL : Nat) (l : List (Nat × Value)) : Prop := lv_has ls nL l ∧ (∀ q ∈ l, q.2.category = 1) ∧ l.Pairwise (fun a b => a.1 < b.1)
theorem lvg_mem {l : List (Nat × Value)} {i : Nat} {v : Value} (h : lvg l i = some v) : (i, v) ∈ l := by
  induction l with
  | nil => cases h
  | cons q l ih =>
    obtain ⟨j, w⟩ := q
    by_cases hj : j = i
    · subst hj
      simp only [lvg, if_true] at h
      cases h
      exact List.mem_cons_self
    · simp only [lvg, if_neg hj] at h
      exact List.mem_cons_of_mem _ (ih h)
theorem lvs_mem {l : List (Nat × Value)} {i : Nat} {v : Value} (hp : l.Pairwise (fun a b => a.1 < b.1)) {q : Nat × Value} (h : q ∈ lvs l i v) : q = (i, v) ∨ (q ∈ l ∧ q.1 ≠ i) := by
  induction l with
  | nil => exact Or.inl (List.mem_singleton.mp h)
  | cons a l ih =>
    obtain ⟨j, w⟩ := a
    obtain ⟨h1, h2⟩ := List.pairwise_cons.mp hp
    unfold lvs at h
    split at h
    · next hlt =>
      rcases List.mem_cons.mp h with rfl | h
      · exact Or.inr ⟨List.mem_cons_self, by show j ≠ i; omega⟩
      · rcases ih h2 h with h | ⟨h, h'⟩
        · exact Or.inl h
        · exact Or.inr ⟨List.mem_cons_of_mem _ h, h'⟩
    · split at h
      · next hge he =>
        rcases List.mem_cons.mp h with rfl | h
        · exact Or.inl rfl
        · have := h1 q h
          exact Or.inr ⟨List.mem_cons_of_mem _ h, by simp only at this; omega⟩
      · next hge hne =>
        rcases List.mem_cons.mp h with rfl | h
        · exact Or.inl rfl
        · refine Or.inr ⟨h, ?_⟩
          rcases List.mem_cons.mp h with rfl | h
          · exact hne
          · have := h1 q h
            simp only at this
            omega
theorem lvs_pw {l : List (Nat × Value)} {i : Nat} {v : Value} (hp : l.Pairwise (fun a b => a.1 < b.1)) : (lvs l i v).Pairwise (fun a b => a.1 < b.1) := by
  induction l with
  | nil => exact List.pairwise_singleton _ _
  | cons a l ih =>
    obtain ⟨j, w⟩ := a
    obtain ⟨h1, h2⟩ := List.pairwise_cons.mp hp
    unfold lvs
    split
    · next hlt =>
      refine List.pairwise_cons.mpr ⟨fun q hq => ?_, ih h2⟩
      rcases lvs_mem h2 hq with rfl | ⟨h, -⟩
      · exact hlt
      · exact h1 q h
    · split
      · next hge he =>
        subst he
        exact List.pairwise_cons.mpr ⟨fun q hq => h1 q hq, h2⟩
      · next hge hne =>
        refine List.pairwise_cons.mpr ⟨fun q hq => ?_, hp⟩
        rcases List.mem_cons.mp hq with rfl | h
        · show i < j; omega
        · have := h1 q h
          simp only at this
          show i < q.1
          omega
theorem lw_at {ls : Array Slot} {nL : Nat} {l : List (Nat × Value)} (h : lw_has ls nL l) {i : Nat} {v : Value} (hg : lvg l i = some v) : ls[i]? = some (.val v) := h.1.2.2 (i, v) (lvg_mem hg)
theorem lw_stored {ls : Array Slot} {nL : Nat} {l : List (Nat × Value)} {i : Nat} {v : Value} (hc : v.category = 1) (h : lw_has ls nL l) {ls' : Array Slot} (h' : lv_has ls' nL ((i, v) :: l.filter (fun q => !(q.1 == i) && !(q.1 + 1 == i && q.2.category == 2)))) : lw_has ls' nL (lvs l i v) := by
  obtain ⟨-, h2, h3⟩ := h
  refine ⟨⟨h'.1, h'.2.1, fun q hq => ?_⟩, fun q hq => ?_, lvs_pw h3⟩
  · rcases lvs_mem h3 hq with rfl | ⟨hm, hne⟩
    · exact h'.2.2 _ List.mem_cons_self
    · refine h'.2.2 _ (List.mem_cons_of_mem _ (List.mem_filter.mpr ⟨hm, ?_⟩))
      simp [hne, h2 q hm]
  · rcases lvs_mem h3 hq with rfl | ⟨hm, -⟩
    · exact hc
    · exact h2 q hm
theorem lw_keep {ls : Array Slot} {nL : Nat} {l : List (Nat × Value)} (ks : List Nat) (h : lw_has ls nL l) : lw_has ls nL (lvk l ks) := by
  obtain ⟨h1, h2, h3⟩ := h
  exact ⟨⟨h1.1, h1.2.1, fun q hq => h1.2.2 q (List.mem_filter.mp hq).1⟩, fun q hq => h2 q (List.mem_filter.mp hq).1, h3.filter _⟩
/-- the room at depth d -/
def rm (d mc ms : Nat) : Room := { frames := d, cells := mc, slots := ms, locals := 41 * d }
def JC (G : GT) (Y : YT) (p : Program) (s : State) (m : MethodId) (args : Array Value) (meth : Method) (c : Code) : Prop :=
  p.tables.exec = Jvm.exec ∧ c.code = Y.2.1 ∧ c.maxLocals = Y.2.2.1 ∧ meth.sig.returnType = Y.2.2.2 ∧ meth.locks = false ∧ meth.name = Y.1.name ∧ s.vm.findClass Y.1.cls = some m.cls ∧ (∀ w ∈ BW, w.before args s = true) ∧ JK G s s.heap ∧ G.2.2.2.1 ≤ s.heap.size
def JQ (G : GT) (post : OT) : Array Value → State → Outcome → State → Prop := fun _ st oc t => (∃ (r : Option Value) (w : va_W), oc = .returned r ∧ post r w ∧ JW G w t.heap) ∧ va_F (JA G) st t
def JP (G : GT) (av : List Value) (ws : va_W) : Array Value → State → Prop := va_Pc av (fun U => G.2.2.2.1 ≤ U.heap.size ∧ JK G U U.heap ∧ JW G ws U.heap)
/-- a method's contract: called with av in the world ws it ends, and post holds of its answer and the world behind it -/
def JM (G : GT) (Y : YT) (d mc ms : Nat) (av : List Value) (ws : va_W) (post : OT) : Prop :=
  Met G.1 Y.1 (.code Y.1 Y.2.1 Y.2.2.1 Y.2.2.2 :: BW) (rm d mc ms) (JP G av ws) (JQ G post) mc ms (JA G)
/-- inside a method: at pc, with these locals, stack and world, kc cells and ks slots made so far, it comes to its end with post -/
def JJ (G : GT) (Y : YT) (d mc ms : Nat) (post : OT) (pc : Nat) (lv : List (Nat × Value)) (st : List Value) (ws : va_W) (kc ks : Nat) : Prop :=
  ∀ (p : Program) (e : Env) (s : State) (m : MethodId) (args : Array Value) (below : List Frame) (meth : Method) (c : Code) (H : Heap) (locs : List Loc) (ls : Array Slot),
    JC G Y p s m args meth c → va_S (JA G) s.heap H locs → JW G ws H → lw_has ls Y.2.2.1 lv →
    W p G.1 e (rm d mc ms) s m args below meth c H locs kc ks (MQ below (JQ G post) args s mc ms (JA G)) (F0 m pc ls st)
theorem JM.of {G : GT} {Y : YT} {d mc ms : Nat} {av : List Value} {ws : va_W} {post : OT} (lv : List (Nat × Value)) (hlv : lv_args 0 av = lv) (hok : lvok lv = true) (hpw : lv.Pairwise (fun a b => a.1 < b.1)) (hn : (lg_sl av).length ≤ Y.2.2.1) (hy : plainName Y.1.cls = true)
    (k : JJ G Y d mc ms post 0 lv [] ws 0 0) : JM G Y d mc ms av ws post := by
  refine Met.ofW (cc := Y.2.1) (maxL := Y.2.2.1) (ret := Y.2.2.2) hy rfl ?_
  intro p e s m args below meth c s₁ B hml hv
  obtain ⟨rfl, hz, hK, hW⟩ := hv
  have hl := lv_entry av (n := Y.2.2.1) hn
  rw [lg_entry_eq]
  generalize (lg_sl av ++ List.replicate (Y.2.2.1 - (lg_sl av).length) Slot.unset).toArray = ls at hl ⊢
  rw [hlv] at hl
  refine k p e s m _ below meth c s.heap [] ls ⟨B.exec, B.bytes, hml, B.returns, B.notSynchronized, (name_of_methodNamed B.named B.method).1, findClass_of_methodNamed B.named, fun w hw => atoms_spec (ws := .code Y.1 Y.2.1 Y.2.2.1 Y.2.2.2 :: BW) B.pre w (List.mem_cons_of_mem _ hw), hK, hz⟩ va_S.rf hW ⟨hl, fun q hq => ?_, hpw⟩
  have := List.all_eq_true.mp hok q hq
  simpa using this
end
section
section JR
variable {G : GT} {Y : YT} {d mc ms : Nat} {post : OT} {pc n : Nat} {lv : List (Nat × Value)} {st : List Value} {ws : va_W} {kc ks : Nat}
theorem j_iconst {i : Int} (v : Int32) (hd : decode Y.2.1 pc = .ok (.iconst i, 1)) (hn : pc + 1 = n) (hv : Int32.ofInt i = v) (k : JJ G Y d mc ms post n lv (.int v :: st) ws kc ks) : JJ G Y d mc ms post pc lv (st) ws kc ks := by
  subst hn
  intro p e s m args below meth c H locs ls C hS hW hl
  exact lv_iconst C.1 C.2.1 hd hv (k p e s m args below meth c H locs ls C hS hW hl)
theorem j_bipush {i : Int} (v : Int32) (hd : decode Y.2.1 pc = .ok (.bipush i, 2)) (hn : pc + 2 = n) (hv : (Int8.ofInt i).toInt32 = v) (k : JJ G Y d mc ms post n lv (.int v :: st) ws kc ks) : JJ G Y d mc ms post pc lv (st) ws kc ks := by
  subst hn
  intro p e s m args below meth c H locs ls C hS hW hl
  exact lv_bipush C.1 C.2.1 hd hv (k p e s m args below meth c H locs ls C hS hW hl)
theorem j_sipush {i : Int} (v : Int32) (hd : decode Y.2.1 pc = .ok (.sipush i, 3)) (hn : pc + 3 = n) (hv : (Int16.ofInt i).toInt32 = v) (k : JJ G Y d mc ms post n lv (.int v :: st) ws kc ks) : JJ G Y d mc ms post pc lv (st) ws kc ks := by
  subst hn
  intro p e s m args below meth c H locs ls C hS hW hl
  exact lv_sipush C.1 C.2.1 hd hv (k p e s m args below meth c H locs ls C hS hW hl)
theorem j_iload {i : Nat} {x : Int32} (hd : decode Y.2.1 pc = .ok (.iload i, 2)) (hn : pc + 2 = n) (hg : lvg lv i = some (.int x)) (k : JJ G Y d mc ms post n lv (.int x :: st) ws kc ks) : JJ G Y d mc ms post pc lv (st) ws kc ks := by
  subst hn
  intro p e s m args below meth c H locs ls C hS hW hl
  exact lv_iload C.1 C.2.1 hd (lw_at hl hg) (k p e s m args below meth c H locs ls C hS hW hl)
theorem j_iload_n {i : Fin 4} {x : Int32} (hd : decode Y.2.1 pc = .ok (.iload_n i, 1)) (hn : pc + 1 = n) (hg : lvg lv (i : Nat) = some (.int x)) (k : JJ G Y d mc ms post n lv (.int x :: st) ws kc ks) : JJ G Y d mc ms post pc lv (st) ws kc ks := by
  subst hn
  intro p e s m args below meth c H locs ls C hS hW hl
  exact lv_iload_n C.1 C.2.1 hd rfl (lw_at hl hg) (k p e s m args below meth c H locs ls C hS hW hl)
theorem j_aload {i x : Nat} (hd : decode Y.2.1 pc = .ok (.aload i, 2)) (hn : pc + 2 = n) (hg : lvg lv i = some (.ref x)) (k : JJ G Y d mc ms post n lv (.ref x :: st) ws kc ks) : JJ G Y d mc ms post pc lv (st) ws kc ks := by
  subst hn
  intro p e s m args below meth c H locs ls C hS hW hl
  exact lv_aload C.1 C.2.1 hd (lw_at hl hg) (k p e s m args below meth c H locs ls C hS hW hl)
theorem j_aload_n {i : Fin 4} {x : Nat} (hd : decode Y.2.1 pc = .ok (.aload_n i, 1)) (hn : pc + 1 = n) (hg : lvg lv (i : Nat) = some (.ref x)) (k : JJ G Y d mc ms post n lv (.ref x :: st) ws kc ks) : JJ G Y d mc ms post pc lv (st) ws kc ks := by
  subst hn
  intro p e s m args below meth c H locs ls C hS hW hl
  exact lv_aload_n C.1 C.2.1 hd rfl (lw_at hl hg) (k p e s m args below meth c H locs ls C hS hW hl)
theorem j_aloadN {i : Nat} (hd : decode Y.2.1 pc = .ok (.aload i, 2)) (hn : pc + 2 = n) (hg : lvg lv i = some .null) (k : JJ G Y d mc ms post n lv (.null :: st) ws kc ks) : JJ G Y d mc ms post pc lv (st) ws kc ks := by
  subst hn
  intro p e s m args below meth c H locs ls C hS hW hl
  exact lv_aloadN C.1 C.2.1 hd (lw_at hl hg) (k p e s m args below meth c H locs ls C hS hW hl)
theorem j_aload_nN {i : Fin 4} (hd : decode Y.2.1 pc = .ok (.aload_n i, 1)) (hn : pc + 1 = n) (hg : lvg lv (i : Nat) = some .null) (k : JJ G Y d mc ms post n lv (.null :: st) ws kc ks) : JJ G Y d mc ms post pc lv (st) ws kc ks := by
  subst hn
  intro p e s m args below meth c H locs ls C hS hW hl
  exact lv_aload_nN C.1 C.2.1 hd rfl (lw_at hl hg) (k p e s m args below meth c H locs ls C hS hW hl)
theorem j_iadd {x y : Int32} (hd : decode Y.2.1 pc = .ok (.iadd, 1)) (hn : pc + 1 = n) (k : JJ G Y d mc ms post n lv (.int (x + y) :: st) ws kc ks) : JJ G Y d mc ms post pc lv (.int y :: .int x :: st) ws kc ks := by
  subst hn
  intro p e s m args below meth c H locs ls C hS hW hl
  exact lv_iadd C.1 C.2.1 hd (k p e s m args below meth c H locs ls C hS hW hl)
theorem j_isub {x y : Int32} (hd : decode Y.2.1 pc = .ok (.isub, 1)) (hn : pc + 1 = n) (k : JJ G Y d mc ms post n lv (.int (x - y) :: st) ws kc ks) : JJ G Y d mc ms post pc lv (.int y :: .int x :: st) ws kc ks := by
  subst hn
  intro p e s m args below meth c H locs ls C hS hW hl
  exact lv_isub C.1 C.2.1 hd (k p e s m args below meth c H locs ls C hS hW hl)
theorem j_imul {x y : Int32} (hd : decode Y.2.1 pc = .ok (.imul, 1)) (hn : pc + 1 = n) (k : JJ G Y d mc ms post n lv (.int (x * y) :: st) ws kc ks) : JJ G Y d mc ms post pc lv (.int y :: .int x :: st) ws kc ks := by
  subst hn
  intro p e s m args below meth c H locs ls C hS hW hl
  exact lv_imul C.1 C.2.1 hd (k p e s m args below meth c H locs ls C hS hW hl)
theorem j_iand {x y : Int32} (hd : decode Y.2.1 pc = .ok (.iand, 1)) (hn : pc + 1 = n) (k : JJ G Y d mc ms post n lv (.int (x &&& y) :: st) ws kc ks) : JJ G Y d mc ms post pc lv (.int y :: .int x :: st) ws kc ks := by
  subst hn
  intro p e s m args below meth c H locs ls C hS hW hl
  exact lv_iand C.1 C.2.1 hd (k p e s m args below meth c H locs ls C hS hW hl)
theorem j_ior {x y : Int32} (hd : decode Y.2.1 pc = .ok (.ior, 1)) (hn : pc + 1 = n) (k : JJ G Y d mc ms post n lv (.int (x ||| y) :: st) ws kc ks) : JJ G Y d mc ms post pc lv (.int y :: .int x :: st) ws kc ks := by
  subst hn
  intro p e s m args below meth c H locs ls C hS hW hl
  exact lv_ior C.1 C.2.1 hd (k p e s m args below meth c H locs ls C hS hW hl)
theorem j_ixor {x y : Int32} (hd : decode Y.2.1 pc = .ok (.ixor, 1)) (hn : pc + 1 = n) (k : JJ G Y d mc ms post n lv (.int (x ^^^ y) :: st) ws kc ks) : JJ G Y d mc ms post pc lv (.int y :: .int x :: st) ws kc ks := by
  subst hn
  intro p e s m args below meth c H locs ls C hS hW hl
  exact lv_ixor C.1 C.2.1 hd (k p e s m args below meth c H locs ls C hS hW hl)
theorem j_ishl {x y : Int32} (hd : decode Y.2.1 pc = .ok (.ishl, 1)) (hn : pc + 1 = n) (k : JJ G Y d mc ms post n lv (.int (x <<< (y &&& 31)) :: st) ws kc ks) : JJ G Y d mc ms post pc lv (.int y :: .int x :: st) ws kc ks := by
  subst hn
  intro p e s m args below meth c H locs ls C hS hW hl
  exact lv_ishl C.1 C.2.1 hd (k p e s m args below meth c H locs ls C hS hW hl)
theorem j_ishr {x y : Int32} (hd : decode Y.2.1 pc = .ok (.ishr, 1)) (hn : pc + 1 = n) (k : JJ G Y d mc ms post n lv (.int (x >>> (y &&& 31)) :: st) ws kc ks) : JJ G Y d mc ms post pc lv (.int y :: .int x :: st) ws kc ks := by
  subst hn
  intro p e s m args below meth c H locs ls C hS hW hl
  exact lv_ishr C.1 C.2.1 hd (k p e s m args below meth c H locs ls C hS hW hl)
theorem j_iushr {x y : Int32} (hd : decode Y.2.1 pc = .ok (.iushr, 1)) (hn : pc + 1 = n) (k : JJ G Y d mc ms post n lv (.int ((x.toUInt32 >>> (y.toUInt32 &&& Int32.toUInt32 31)).toInt32) :: st) ws kc ks) : JJ G Y d mc ms post pc lv (.int y :: .int x :: st) ws kc ks := by
  subst hn
  intro p e s m args below meth c H locs ls C hS hW hl
  exact lv_iushr C.1 C.2.1 hd rfl (k p e s m args below meth c H locs ls C hS hW hl)
theorem j_idiv {x y : Int32} (hd : decode Y.2.1 pc = .ok (.idiv, 1)) (hn : pc + 1 = n) (hne : ¬ y = 0) (k : JJ G Y d mc ms post n lv (.int (x / y) :: st) ws kc ks) : JJ G Y d mc ms post pc lv (.int y :: .int x :: st) ws kc ks := by
  subst hn
  intro p e s m args below meth c H locs ls C hS hW hl
  exact lv_idiv C.1 C.2.1 hd hne (k p e s m args below meth c H locs ls C hS hW hl)
theorem j_irem {x y : Int32} (hd : decode Y.2.1 pc = .ok (.irem, 1)) (hn : pc + 1 = n) (hne : ¬ y = 0) (k : JJ G Y d mc ms post n lv (.int (x - x / y * y) :: st) ws kc ks) : JJ G Y d mc ms post pc lv (.int y :: .int x :: st) ws kc ks := by
  subst hn
  intro p e s m args below meth c H locs ls C hS hW hl
  exact lv_irem C.1 C.2.1 hd hne (k p e s m args below meth c H locs ls C hS hW hl)
theorem j_i2b {x : Int32} (hd : decode Y.2.1 pc = .ok (.i2b, 1)) (hn : pc + 1 = n) (k : JJ G Y d mc ms post n lv (.int (x.toInt8.toInt32) :: st) ws kc ks) : JJ G Y d mc ms post pc lv (.int x :: st) ws kc ks := by
  subst hn
  intro p e s m args below meth c H locs ls C hS hW hl
  exact lv_i2b C.1 C.2.1 hd rfl (k p e s m args below meth c H locs ls C hS hW hl)
theorem j_dup {v : Value} (hd : decode Y.2.1 pc = .ok (.dup, 1)) (hn : pc + 1 = n) (hc : v.category = 1) (k : JJ G Y d mc ms post n lv (v :: v :: st) ws kc ks) : JJ G Y d mc ms post pc lv (v :: st) ws kc ks := by
  subst hn
  intro p e s m args below meth c H locs ls C hS hW hl
  exact lv_dup C.1 C.2.1 hd hc (k p e s m args below meth c H locs ls C hS hW hl)
theorem j_pop {v : Value} (hd : decode Y.2.1 pc = .ok (.pop, 1)) (hn : pc + 1 = n) (hc : v.category = 1) (k : JJ G Y d mc ms post n lv (st) ws kc ks) : JJ G Y d mc ms post pc lv (v :: st) ws kc ks := by
  subst hn
  intro p e s m args below meth c H locs ls C hS hW hl
  exact lv_pop C.1 C.2.1 hd hc (k p e s m args below meth c H locs ls C hS hW hl)
theorem j_null (hd : decode Y.2.1 pc = .ok (.aconst_null, 1)) (hn : pc + 1 = n) (k : JJ G Y d mc ms post n lv (.null :: st) ws kc ks) : JJ G Y d mc ms post pc lv (st) ws kc ks := by
  subst hn
  intro p e s m args below meth c H locs ls C hS hW hl
  exact lv_null C.1 C.2.1 hd (k p e s m args below meth c H locs ls C hS hW hl)
theorem j_ldc {i : Nat} {v : Int32} (hd : decode Y.2.1 pc = .ok (.ldc i, 2)) (hn : pc + 2 = n) (hw : Cond.constant Y.1.cls i v ∈ BW) (k : JJ G Y d mc ms post n lv (.int v :: st) ws kc ks) : JJ G Y d mc ms post pc lv (st) ws kc ks := by
  subst hn
  intro p e s m args below meth c H locs ls C hS hW hl
  exact lv_ldc C.1 C.2.1 C.2.2.2.2.2.2.1 (C.2.2.2.2.2.2.2.1 _ hw) hd (k p e s m args below meth c H locs ls C hS hW hl)
theorem j_ldcw {i : Nat} {v : Int32} (hd : decode Y.2.1 pc = .ok (.ldc_w i, 3)) (hn : pc + 3 = n) (hw : Cond.constant Y.1.cls i v ∈ BW) (k : JJ G Y d mc ms post n lv (.int v :: st) ws kc ks) : JJ G Y d mc ms post pc lv (st) ws kc ks := by
  subst hn
  intro p e s m args below meth c H locs ls C hS hW hl
  exact lv_ldcw C.1 C.2.1 C.2.2.2.2.2.2.1 (C.2.2.2.2.2.2.2.1 _ hw) hd (k p e s m args below meth c H locs ls C hS hW hl)
theorem j_if_eq {x : Int32} {off : Int} (tgt : Nat) (hd : decode Y.2.1 pc = .ok (.ifCond .eq off, 3)) (ht : (pc : Int) + off = (tgt : Int)) (hn : pc + 3 = n) (kt : x = 0 → JJ G Y d mc ms post tgt lv st ws kc ks) (kf : ¬ x = 0 → JJ G Y d mc ms post n lv st ws kc ks) : JJ G Y d mc ms post pc lv (.int x :: st) ws kc ks := by
  subst hn
  intro p e s m args below meth c H locs ls C hS hW hl
  exact lv_if_eq C.1 C.2.1 hd ht (fun h => kt h p e s m args below meth c H locs ls C hS hW hl) (fun h => kf h p e s m args below meth c H locs ls C hS hW hl)
theorem j_if_ne {x : Int32} {off : Int} (tgt : Nat) (hd : decode Y.2.1 pc = .ok (.ifCond .ne off, 3)) (ht : (pc : Int) + off = (tgt : Int)) (hn : pc + 3 = n) (kt : ¬ x = 0 → JJ G Y d mc ms post tgt lv st ws kc ks) (kf : x = 0 → JJ G Y d mc ms post n lv st ws kc ks) : JJ G Y d mc ms post pc lv (.int x :: st) ws kc ks := by
  subst hn
  intro p e s m args below meth c H locs ls C hS hW hl
  exact lv_if_ne C.1 C.2.1 hd ht (fun h => kt h p e s m args below meth c H locs ls C hS hW hl) (fun h => kf h p e s m args below meth c H locs ls C hS hW hl)
theorem j_if_lt {x : Int32} {off : Int} (tgt : Nat) (hd : decode Y.2.1 pc = .ok (.ifCond .lt off, 3)) (ht : (pc : Int) + off = (tgt : Int)) (hn : pc + 3 = n) (kt : x < 0 → JJ G Y d mc ms post tgt lv st ws kc ks) (kf : ¬ x < 0 → JJ G Y d mc ms post n lv st ws kc ks) : JJ G Y d mc ms post pc lv (.int x :: st) ws kc ks := by
  subst hn
  intro p e s m args below meth c H locs ls C hS hW hl
  exact lv_if_lt C.1 C.2.1 hd ht (fun h => kt h p e s m args below meth c H locs ls C hS hW hl) (fun h => kf h p e s m args below meth c H locs ls C hS hW hl)
theorem j_if_ge {x : Int32} {off : Int} (tgt : Nat) (hd : decode Y.2.1 pc = .ok (.ifCond .ge off, 3)) (ht : (pc : Int) + off = (tgt : Int)) (hn : pc + 3 = n) (kt : 0 ≤ x → JJ G Y d mc ms post tgt lv st ws kc ks) (kf : ¬ 0 ≤ x → JJ G Y d mc ms post n lv st ws kc ks) : JJ G Y d mc ms post pc lv (.int x :: st) ws kc ks := by
  subst hn
  intro p e s m args below meth c H locs ls C hS hW hl
  exact lv_if_ge C.1 C.2.1 hd ht (fun h => kt h p e s m args below meth c H locs ls C hS hW hl) (fun h => kf h p e s m args below meth c H locs ls C hS hW hl)
theorem j_if_gt {x : Int32} {off : Int} (tgt : Nat) (hd : decode Y.2.1 pc = .ok (.ifCond .gt off, 3)) (ht : (pc : Int) + off = (tgt : Int)) (hn : pc + 3 = n) (kt : 0 < x → JJ G Y d mc ms post tgt lv st ws kc ks) (kf : ¬ 0 < x → JJ G Y d mc ms post n lv st ws kc ks) : JJ G Y d mc ms post pc lv (.int x :: st) ws kc ks := by
  subst hn
  intro p e s m args below meth c H locs ls C hS hW hl
  exact lv_if_gt C.1 C.2.1 hd ht (fun h => kt h p e s m args below meth c H locs ls C hS hW hl) (fun h => kf h p e s m args below meth c H locs ls C hS hW hl)
theorem j_if_le {x : Int32} {off : Int} (tgt : Nat) (hd : decode Y.2.1 pc = .ok (.ifCond .le off, 3)) (ht : (pc : Int) + off = (tgt : Int)) (hn : pc + 3 = n) (kt : x ≤ 0 → JJ G Y d mc ms post tgt lv st ws kc ks) (kf : ¬ x ≤ 0 → JJ G Y d mc ms post n lv st ws kc ks) : JJ G Y d mc ms post pc lv (.int x :: st) ws kc ks := by
  subst hn
  intro p e s m args below meth c H locs ls C hS hW hl
  exact lv_if_le C.1 C.2.1 hd ht (fun h => kt h p e s m args below meth c H locs ls C hS hW hl) (fun h => kf h p e s m args below meth c H locs ls C hS hW hl)
theorem j_icmp_eq {x y : Int32} {off : Int} (tgt : Nat) (hd : decode Y.2.1 pc = .ok (.if_icmp .eq off, 3)) (ht : (pc : Int) + off = (tgt : Int)) (hn : pc + 3 = n) (kt : x = y → JJ G Y d mc ms post tgt lv st ws kc ks) (kf : ¬ x = y → JJ G Y d mc ms post n lv st ws kc ks) : JJ G Y d mc ms post pc lv (.int y :: .int x :: st) ws kc ks := by
  subst hn
  intro p e s m args below meth c H locs ls C hS hW hl
  exact lv_icmp_eq C.1 C.2.1 hd ht (fun h => kt h p e s m args below meth c H locs ls C hS hW hl) (fun h => kf h p e s m args below meth c H locs ls C hS hW hl)
theorem j_icmp_ne {x y : Int32} {off : Int} (tgt : Nat) (hd : decode Y.2.1 pc = .ok (.if_icmp .ne off, 3)) (ht : (pc : Int) + off = (tgt : Int)) (hn : pc + 3 = n) (kt : ¬ x = y → JJ G Y d mc ms post tgt lv st ws kc ks) (kf : x = y → JJ G Y d mc ms post n lv st ws kc ks) : JJ G Y d mc ms post pc lv (.int y :: .int x :: st) ws kc ks := by
  subst hn
  intro p e s m args below meth c H locs ls C hS hW hl
  exact lv_icmp_ne C.1 C.2.1 hd ht (fun h => kt h p e s m args below meth c H locs ls C hS hW hl) (fun h => kf h p e s m args below meth c H locs ls C hS hW hl)
theorem j_icmp_lt {x y : Int32} {off : Int} (tgt : Nat) (hd : decode Y.2.1 pc = .ok (.if_icmp .lt off, 3)) (ht : (pc : Int) + off = (tgt : Int)) (hn : pc + 3 = n) (kt : x < y → JJ G Y d mc ms post tgt lv st ws kc ks) (kf : ¬ x < y → JJ G Y d mc ms post n lv st ws kc ks) : JJ G Y d mc ms post pc lv (.int y :: .int x :: st) ws kc ks := by
  subst hn
  intro p e s m args below meth c H locs ls C hS hW hl
  exact lv_icmp_lt C.1 C.2.1 hd ht (fun h => kt h p e s m args below meth c H locs ls C hS hW hl) (fun h => kf h p e s m args below meth c H locs ls C hS hW hl)
theorem j_icmp_ge {x y : Int32} {off : Int} (tgt : Nat) (hd : decode Y.2.1 pc = .ok (.if_icmp .ge off, 3)) (ht : (pc : Int) + off = (tgt : Int)) (hn : pc + 3 = n) (kt : y ≤ x → JJ G Y d mc ms post tgt lv st ws kc ks) (kf : ¬ y ≤ x → JJ G Y d mc ms post n lv st ws kc ks) : JJ G Y d mc ms post pc lv (.int y :: .int x :: st) ws kc ks := by
  subst hn
  intro p e s m args below meth c H locs ls C hS hW hl
  exact lv_icmp_ge C.1 C.2.1 hd ht (fun h => kt h p e s m args below meth c H locs ls C hS hW hl) (fun h => kf h p e s m args below meth c H locs ls C hS hW hl)
theorem j_icmp_gt {x y : Int32} {off : Int} (tgt : Nat) (hd : decode Y.2.1 pc = .ok (.if_icmp .gt off, 3)) (ht : (pc : Int) + off = (tgt : Int)) (hn : pc + 3 = n) (kt : y < x → JJ G Y d mc ms post tgt lv st ws kc ks) (kf : ¬ y < x → JJ G Y d mc ms post n lv st ws kc ks) : JJ G Y d mc ms post pc lv (.int y :: .int x :: st) ws kc ks := by
  subst hn
  intro p e s m args below meth c H locs ls C hS hW hl
  exact lv_icmp_gt C.1 C.2.1 hd ht (fun h => kt h p e s m args below meth c H locs ls C hS hW hl) (fun h => kf h p e s m args below meth c H locs ls C hS hW hl)
theorem j_icmp_le {x y : Int32} {off : Int} (tgt : Nat) (hd : decode Y.2.1 pc = .ok (.if_icmp .le off, 3)) (ht : (pc : Int) + off = (tgt : Int)) (hn : pc + 3 = n) (kt : x ≤ y → JJ G Y d mc ms post tgt lv st ws kc ks) (kf : ¬ x ≤ y → JJ G Y d mc ms post n lv st ws kc ks) : JJ G Y d mc ms post pc lv (.int y :: .int x :: st) ws kc ks := by
  subst hn
  intro p e s m args below meth c H locs ls C hS hW hl
  exact lv_icmp_le C.1 C.2.1 hd ht (fun h => kt h p e s m args below meth c H locs ls C hS hW hl) (fun h => kf h p e s m args below meth c H locs ls C hS hW hl)
theorem j_goto {off : Int} (tgt : Nat) (hd : decode Y.2.1 pc = .ok (.goto off, 3)) (ht : (pc : Int) + off = (tgt : Int)) (k : JJ G Y d mc ms post tgt lv st ws kc ks) : JJ G Y d mc ms post pc lv st ws kc ks := by
  intro p e s m args below meth c H locs ls C hS hW hl
  exact lv_goto C.1 C.2.1 hd ht (k p e s m args below meth c H locs ls C hS hW hl)
theorem j_ifnull {a : Nat} {off : Int} (hd : decode Y.2.1 pc = .ok (.ifnull off, 3)) (hn : pc + 3 = n) (k : JJ G Y d mc ms post n lv st ws kc ks) : JJ G Y d mc ms post pc lv (.ref a :: st) ws kc ks := by
  subst hn
  intro p e s m args below meth c H locs ls C hS hW hl
  exact lv_ifnull C.1 C.2.1 hd (k p e s m args below meth c H locs ls C hS hW hl)
theorem j_ifnullN {off : Int} (tgt : Nat) (hd : decode Y.2.1 pc = .ok (.ifnull off, 3)) (ht : (pc : Int) + off = (tgt : Int)) (k : JJ G Y d mc ms post tgt lv st ws kc ks) : JJ G Y d mc ms post pc lv (.null :: st) ws kc ks := by
  intro p e s m args below meth c H locs ls C hS hW hl
  exact lv_ifnullN C.1 C.2.1 hd ht (k p e s m args below meth c H locs ls C hS hW hl)
theorem j_ifnonnull {a : Nat} {off : Int} (tgt : Nat) (hd : decode Y.2.1 pc = .ok (.ifnonnull off, 3)) (ht : (pc : Int) + off = (tgt : Int)) (k : JJ G Y d mc ms post tgt lv st ws kc ks) : JJ G Y d mc ms post pc lv (.ref a :: st) ws kc ks := by
  intro p e s m args below meth c H locs ls C hS hW hl
  exact lv_ifnonnull C.1 C.2.1 hd ht (k p e s m args below meth c H locs ls C hS hW hl)
theorem j_ifnonnullN {off : Int} (hd : decode Y.2.1 pc = .ok (.ifnonnull off, 3)) (hn : pc + 3 = n) (k : JJ G Y d mc ms post n lv st ws kc ks) : JJ G Y d mc ms post pc lv (.null :: st) ws kc ks := by
  subst hn
  intro p e s m args below meth c H locs ls C hS hW hl
  exact lv_ifnonnullN C.1 C.2.1 hd (k p e s m args below meth c H locs ls C hS hW hl)
theorem j_istore {i : Nat} {x : Int32} (hd : decode Y.2.1 pc = .ok (.istore i, 2)) (hn : pc + 2 = n) (hi : i < Y.2.2.1) (k : JJ G Y d mc ms post n (lvs lv i (.int x)) st ws kc ks) : JJ G Y d mc ms post pc lv (.int x :: st) ws kc ks := by
  subst hn
  intro p e s m args below meth c H locs ls C hS hW hl
  exact lv_istore C.1 C.2.1 hd hl.1 hi rfl (fun ls1 h1 => k p e s m args below meth c H locs ls1 C hS hW (lw_stored rfl hl h1))
theorem j_istore_n {i : Fin 4} {x : Int32} (hd : decode Y.2.1 pc = .ok (.istore_n i, 1)) (hn : pc + 1 = n) (hi : (i : Nat) < Y.2.2.1) (k : JJ G Y d mc ms post n (lvs lv (i : Nat) (.int x)) st ws kc ks) : JJ G Y d mc ms post pc lv (.int x :: st) ws kc ks := by
  subst hn
  intro p e s m args below meth c H locs ls C hS hW hl
  exact lv_istore_n C.1 C.2.1 hd rfl hl.1 hi rfl (fun ls1 h1 => k p e s m args below meth c H locs ls1 C hS hW (lw_stored rfl hl h1))
theorem j_astore {i : Nat} {x : Nat} (hd : decode Y.2.1 pc = .ok (.astore i, 2)) (hn : pc + 2 = n) (hi : i < Y.2.2.1) (k : JJ G Y d mc ms post n (lvs lv i (.ref x)) st ws kc ks) : JJ G Y d mc ms post pc lv (.ref x :: st) ws kc ks := by
  subst hn
  intro p e s m args below meth c H locs ls C hS hW hl
  exact lv_astore C.1 C.2.1 hd hl.1 hi rfl (fun ls1 h1 => k p e s m args below meth c H locs ls1 C hS hW (lw_stored rfl hl h1))
theorem j_astore_n {i : Fin 4} {x : Nat} (hd : decode Y.2.1 pc = .ok (.astore_n i, 1)) (hn : pc + 1 = n) (hi : (i : Nat) < Y.2.2.1) (k : JJ G Y d mc ms post n (lvs lv (i : Nat) (.ref x)) st ws kc ks) : JJ G Y d mc ms post pc lv (.ref x :: st) ws kc ks := by
  subst hn
  intro p e s m args below meth c H locs ls C hS hW hl
  exact lv_astore_n C.1 C.2.1 hd rfl hl.1 hi rfl (fun ls1 h1 => k p e s m args below meth c H locs ls1 C hS hW (lw_stored rfl hl h1))
theorem j_astoreN {i : Nat} (hd : decode Y.2.1 pc = .ok (.astore i, 2)) (hn : pc + 2 = n) (hi : i < Y.2.2.1) (k : JJ G Y d mc ms post n (lvs lv i (.null)) st ws kc ks) : JJ G Y d mc ms post pc lv (.null :: st) ws kc ks := by
  subst hn
  intro p e s m args below meth c H locs ls C hS hW hl
  exact lv_astoreN C.1 C.2.1 hd hl.1 hi rfl (fun ls1 h1 => k p e s m args below meth c H locs ls1 C hS hW (lw_stored rfl hl h1))
theorem j_astore_nN {i : Fin 4} (hd : decode Y.2.1 pc = .ok (.astore_n i, 1)) (hn : pc + 1 = n) (hi : (i : Nat) < Y.2.2.1) (k : JJ G Y d mc ms post n (lvs lv (i : Nat) (.null)) st ws kc ks) : JJ G Y d mc ms post pc lv (.null :: st) ws kc ks := by
  subst hn
  intro p e s m args below meth c H locs ls C hS hW hl
  exact lv_astore_nN C.1 C.2.1 hd rfl hl.1 hi rfl (fun ls1 h1 => k p e s m args below meth c H locs ls1 C hS hW (lw_stored rfl hl h1))
theorem lvg_place {l : List (Nat × Value)} {i : Nat} {v : Value} (h : lvg l i = some v) : ∃ k : Nat, l[k]? = some (i, v) := by
  obtain ⟨k, hk⟩ := List.getElem?_of_mem (lvg_mem h)
  exact ⟨k, hk⟩
theorem j_iinc {i : Nat} {j : Int} {x : Int32} (v : Int32) (hd : decode Y.2.1 pc = .ok (.iinc i j, 3)) (hn : pc + 3 = n) (hg : lvg lv i = some (.int x)) (hv : x + Int32.ofInt j = v) (hi : i < Y.2.2.1) (k : JJ G Y d mc ms post n (lvs lv i (.int v)) st ws kc ks) : JJ G Y d mc ms post pc lv st ws kc ks := by
  subst hn
  obtain ⟨kp, hkp⟩ := lvg_place hg
  intro p e s m args below meth c H locs ls C hS hW hl
  exact lv_iinc C.1 C.2.1 hd hl.1 hkp hv hi rfl (fun ls1 h1 => k p e s m args below meth c H locs ls1 C hS hW (lw_stored rfl hl h1))
/-- fewer locals -/
theorem j_keep (is : List Nat) {lv' : List (Nat × Value)} (h : lvk lv is = lv') (k : JJ G Y d mc ms post pc lv' st ws kc ks) : JJ G Y d mc ms post pc lv st ws kc ks := by
  subst h
  intro p e s m args below meth c H locs ls C hS hW hl
  exact k p e s m args below meth c H locs ls C hS hW (lw_keep is hl)
theorem j_eq {pc' : Nat} {lv' : List (Nat × Value)} {st' : List Value} {ws' : va_W} (h1 : pc = pc') (h2 : lv = lv') (h3 : st = st') (h4 : ws = ws') (k : JJ G Y d mc ms post pc' lv' st' ws' kc ks) : JJ G Y d mc ms post pc lv st ws kc ks := by
  subst h1; subst h2; subst h3; subst h4; exact k
theorem j_widen {kc' ks' : Nat} (h1 : kc ≤ kc') (h2 : ks ≤ ks') (k : JJ G Y d mc ms post pc lv st ws kc' ks') : JJ G Y d mc ms post pc lv st ws kc ks := by
  intro p e s m args below meth c H locs ls C hS hW hl
  exact W.widen h1 h2 (k p e s m args below meth c H locs ls C hS hW hl)
/-- the end of a method that answers an int (or a truth) -/
def Qi (f : Int32 → va_W → Prop) : OT := fun r w => ∃ v : Int32, r = some (.int v) ∧ f v w
def Qv (f : va_W → Prop) : OT := fun r w => r = none ∧ f w
def Qr (f : Option Nat → va_W → Prop) : OT := fun r w => ∃ o : Option Nat, r = some (va_rf o) ∧ f o w
theorem j_iret {v : Int32} {ty : FieldType} {f : Int32 → va_W → Prop} (hd : decode Y.2.1 pc = .ok (.ireturn, 1)) (hr : Y.2.2.2 = some ty) (hnr : narrow ty (.int v) = .int v) (h1 : kc ≤ mc) (h2 : ks ≤ ms) (h : f v ws) : JJ G Y d mc ms (Qi f) pc lv [.int v] ws kc ks := by
  intro p e s m args below meth c H locs ls C hS hW hl
  refine W.widen h1 h2 ?_
  exact W.zret (hlocks := C.2.2.2.2.1) C.1 C.2.1 (C.2.2.2.1.trans hr) hnr (fun t ht hw => ⟨⟨_, ws, rfl, ⟨v, rfl, h⟩, by rw [ht]; exact hW⟩, hS.F ht⟩) hS.2.2 hd
theorem j_vret {f : va_W → Prop} (hd : decode Y.2.1 pc = .ok (.return_, 1)) (hr : Y.2.2.2 = none) (h1 : kc ≤ mc) (h2 : ks ≤ ms) (h : f ws) : JJ G Y d mc ms (Qv f) pc lv [] ws kc ks := by
  intro p e s m args below meth c H locs ls C hS hW hl
  refine W.widen h1 h2 ?_
  exact W.vret (hlocks := C.2.2.2.2.1) C.1 C.2.1 (C.2.2.2.1.trans hr) (fun t ht hw => ⟨⟨_, ws, rfl, ⟨rfl, h⟩, by rw [ht]; exact hW⟩, hS.F ht⟩) hS.2.2 hd
theorem va_rf_cases (o : Option Nat) : va_rf o = .null ∨ ∃ a, va_rf o = .ref a := by cases o with
  | none => exact Or.inl rfl
  | some a => exact Or.inr ⟨a, rfl⟩
theorem j_aret (o : Option Nat) {v : Value} (hv : v = va_rf o) {rt : FieldType} {f : Option Nat → va_W → Prop} (hd : decode Y.2.1 pc = .ok (.areturn, 1)) (hr : Y.2.2.2 = some rt) (hrt : (∃ n, rt = .object n) ∨ ∃ t, rt = .array t) (h1 : kc ≤ mc) (h2 : ks ≤ ms) (h : f o ws) : JJ G Y d mc ms (Qr f) pc lv [v] ws kc ks := by
  subst hv
  intro p e s m args below meth c H locs ls C hS hW hl
  refine W.widen h1 h2 ?_
  exact W.aret (hlocks := C.2.2.2.2.1) C.1 C.2.1 (C.2.2.2.1.trans hr) hrt (va_rf_cases o) (fun t ht hw => ⟨⟨_, ws, rfl, ⟨o, rfl, h⟩, by rw [ht]; exact hW⟩, hS.F ht⟩) hS.2.2 hd
theorem j_lookup {dflt : Int} {ps : Array (Int × Int)} {len : Nat} {x : Int32} {off : Int} (tgt : Nat) (hd : decode Y.2.1 pc = .ok (.lookupswitch dflt ps, len)) (hp : (ps.toList.zip (ps.toList.drop 1)).all (fun (a, next) => a.1 < next.1) = true) (ho : Op.lookupswitch.offset ps.toList dflt x.toInt = off) (ht : (pc : Int) + off = (tgt : Int)) (k : JJ G Y d mc ms post tgt lv st ws kc ks) : JJ G Y d mc ms post pc lv (.int x :: st) ws kc ks := by
  intro p e s m args below meth c H locs ls C hS hW hl
  exact lv_lookup C.1 C.2.1 hd hp ho ht (k p e s m args below meth c H locs ls C hS hW hl)
theorem j_tableOut {dflt lo hi : Int} {offs : Array Int} {len : Nat} {x : Int32} (tgt : Nat) (hd : decode Y.2.1 pc = .ok (.tableswitch dflt lo hi offs, len)) (h : x.toInt < lo ∨ hi < x.toInt) (ht : (pc : Int) + dflt = (tgt : Int)) (k : JJ G Y d mc ms post tgt lv st ws kc ks) : JJ G Y d mc ms post pc lv (.int x :: st) ws kc ks := by
  intro p e s m args below meth c H locs ls C hS hW hl
  exact lv_tableOut C.1 C.2.1 hd h ht (k p e s m args below meth c H locs ls C hS hW hl)
theorem j_tableIn {dflt lo hi : Int} {offs : Array Int} {len : Nat} {x : Int32} {off : Int} (tgt : Nat) (hd : decode Y.2.1 pc = .ok (.tableswitch dflt lo hi offs, len)) (h1 : ¬ x.toInt < lo) (h2 : ¬ hi < x.toInt) (ho : offs[(x.toInt - lo).toNat]? = some off) (ht : (pc : Int) + off = (tgt : Int)) (k : JJ G Y d mc ms post tgt lv st ws kc ks) : JJ G Y d mc ms post pc lv (.int x :: st) ws kc ks := by
  intro p e s m args below meth c H locs ls C hS hW hl
  exact lv_tableIn C.1 C.2.1 hd h1 h2 ho ht (k p e s m args below meth c H locs ls C hS hW hl)
end JR
end
section
theorem uw0 : ∀ w ∈ u_ws RX0 TX0 4, w ∈ lw_tbl ∧ goodWord w = true := by decide +kernel
theorem uw1 : ∀ w ∈ u_ws RX1 TX1 2, w ∈ lw_tbl ∧ goodWord w = true := by decide +kernel
theorem uw2 : ∀ w ∈ u_ws RX2 TX2 3, w ∈ lw_tbl ∧ goodWord w = true := by decide +kernel
theorem uw3 : ∀ w ∈ u_ws RX3 TX3 2, w ∈ lw_tbl ∧ goodWord w = true := by decide +kernel
theorem uw4 : ∀ w ∈ u_ws RX4 TX4 11, w ∈ lw_tbl ∧ goodWord w = true := by decide +kernel
theorem uw5 : ∀ w ∈ u_ws RX5 TX5 3, w ∈ lw_tbl ∧ goodWord w = true := by decide +kernel
theorem uw6 : ∀ w ∈ u_ws RX6 TX6 2, w ∈ lw_tbl ∧ goodWord w = true := by decide +kernel
theorem uw7 : ∀ w ∈ u_ws RX7 TX7 3, w ∈ lw_tbl ∧ goodWord w = true := by decide +kernel
theorem uw8 : ∀ w ∈ u_ws RX8 TX8 8, w ∈ lw_tbl ∧ goodWord w = true := by decide +kernel
theorem uw9 : ∀ w ∈ u_ws RX9 TX9 4, w ∈ lw_tbl ∧ goodWord w = true := by decide +kernel
theorem uw10 : ∀ w ∈ u_ws RX10 TX10 15, w ∈ lw_tbl ∧ goodWord w = true := by decide +kernel
theorem uw11 : ∀ w ∈ u_ws RX11 TX11 42, w ∈ lw_tbl ∧ goodWord w = true := by decide +kernel
theorem uw_all (ci : Nat) (q : vw_C) (h : vwCl[ci]? = some q) : ∀ w ∈ u_ws q.1 q.2.1 q.2.2, w ∈ BW := by
  have key : ∀ w ∈ u_ws q.1 q.2.1 q.2.2, w ∈ lw_tbl ∧ goodWord w = true := by
    match ci, h with
    | 0, h => cases h; exact uw0
    | 1, h => cases h; exact uw1
    | 2, h => cases h; exact uw2
    | 3, h => cases h; exact uw3
    | 4, h => cases h; exact uw4
    | 5, h => cases h; exact uw5
    | 6, h => cases h; exact uw6
    | 7, h => cases h; exact uw7
    | 8, h => cases h; exact uw8
    | 9, h => cases h; exact uw9
    | 10, h => cases h; exact uw10
    | 11, h => cases h; exact uw11
    | k + 12, h => simp [vwCl] at h
  exact fun w hw => List.mem_filter.mpr (key w hw)
def tyq (ci : Nat) : Nat → FieldType := match ci with
  | 0 => tyX0
  | 1 => tyX1
  | 2 => tyX2
  | 3 => tyX3
  | 4 => tyX4
  | 5 => tyX5
  | 6 => tyX6
  | 7 => tyX7
  | 8 => tyX8
  | 9 => tyX9
  | 10 => tyX10
  | 11 => tyX11
  | _ => fun _ => .int
theorem tyq_ok (ci : Nat) (q : vw_C) (h : vwCl[ci]? = some q) : ∀ k, k < q.2.2 → parseFieldDescriptor (q.2.1 k).2.2.1 = some (tyq ci k) := by
  match ci, h with
  | 0, h => cases h; exact tyX0_ok
  | 1, h => cases h; exact tyX1_ok
  | 2, h => cases h; exact tyX2_ok
  | 3, h => cases h; exact tyX3_ok
  | 4, h => cases h; exact tyX4_ok
  | 5, h => cases h; exact tyX5_ok
  | 6, h => cases h; exact tyX6_ok
  | 7, h => cases h; exact tyX7_ok
  | 8, h => cases h; exact tyX8_ok
  | 9, h => cases h; exact tyX9_ok
  | 10, h => cases h; exact tyX10_ok
  | 11, h => cases h; exact tyX11_ok
  | k + 12, h => simp [vwCl] at h
theorem nmq_ok (ci : Nat) (q : vw_C) (h : vwCl[ci]? = some q) : ∀ a, a < q.2.2 → ∀ b, b < q.2.2 → a ≠ b → (q.2.1 a).2.1 ≠ (q.2.1 b).2.1 := by
  match ci, h with
  | 0, h => cases h; exact nmX0
  | 1, h => cases h; exact nmX1
  | 2, h => cases h; exact nmX2
  | 3, h => cases h; exact nmX3
  | 4, h => cases h; exact nmX4
  | 5, h => cases h; exact nmX5
  | 6, h => cases h; exact nmX6
  | 7, h => cases h; exact nmX7
  | 8, h => cases h; exact nmX8
  | 9, h => cases h; exact nmX9
  | 10, h => cases h; exact nmX10
  | 11, h => cases h; exact nmX11
  | k + 12, h => simp [vwCl] at h
/-- the field of a class that a pool entry names -/
def FG (own : String) (idx ci k : Nat) : Prop := ∃ q : vw_C, vwCl[ci]? = some q ∧ k < q.2.2 ∧ Cond.fieldLink own idx (q.2.1 k).1 (q.2.1 k).2.1 (q.2.1 k).2.2.1 ∈ BW
def FGN (own : String) (idx ci k : Nat) : Prop := ∃ (q : vw_C) (host : String), vwCl[ci]? = some q ∧ k < q.2.2 ∧ Cond.fieldLinkNest own idx (q.2.1 k).1 (q.2.1 k).2.1 (q.2.1 k).2.2.1 host ∈ NW
/-- it is final (declared here), or not -/
def fin (ci k : Nat) : Option Bool := (vwCl[ci]?).map (fun q => (q.2.1 k).2.2.2)
section JH
variable {G : GT} {Y : YT} {d mc ms : Nat} {post : OT} {pc n : Nat} {lv : List (Nat × Value)} {st : List Value} {ws : va_W} {kc ks : Nat}
theorem j_get {idx ci k a : Nat} (q : Nat) {fs : List Value} {v : Value} (hd : decode Y.2.1 pc = .ok (.getfield idx, 3)) (hF : FG Y.1.cls idx ci k) (hn : pc + 3 = n) (he : ws[q]? = some (a, .inr (ci, fs))) (hv : fs[k]? = some v) (kk : JJ G Y d mc ms post n lv (v :: st) ws kc ks) : JJ G Y d mc ms post pc lv (.ref a :: st) ws kc ks := by
  subst hn
  obtain ⟨⟨C0, T, N⟩, hc, hk, hl⟩ := hF
  intro p e s m args below meth c H locs ls C hS hW hlv
  exact va_get (T := T) C.1 C.2.1 C.2.2.2.2.2.2.2.1 (uw_all ci _ hc) C.2.2.2.2.2.2.1 C.2.2.2.2.2.2.2.2.1.2.1 hW.1 q he hc k hk (C.2.2.2.2.2.2.2.1 _ hl) (fun _ h => h) hv hd (kk p e s m args below meth c H locs ls C hS hW hlv)
theorem j_getN {idx ci k a : Nat} (q : Nat) {fs : List Value} {v : Value} (hd : decode Y.2.1 pc = .ok (.getfield idx, 3)) (hF : FGN Y.1.cls idx ci k) (hn : pc + 3 = n) (he : ws[q]? = some (a, .inr (ci, fs))) (hv : fs[k]? = some v) (kk : JJ G Y d mc ms post n lv (v :: st) ws kc ks) : JJ G Y d mc ms post pc lv (.ref a :: st) ws kc ks := by
  subst hn
  obtain ⟨⟨C0, T, N⟩, host, hc, hk, hl⟩ := hF
  intro p e s m args below meth c H locs ls C hS hW hlv
  exact va_getN (T := T) (host := host) C.1 C.2.1 C.2.2.2.2.2.2.2.1 (uw_all ci _ hc) C.2.2.2.2.2.2.1 C.2.2.2.2.2.2.2.2.1.2.1 hW.1 q he hc k hk (va_Nw.use rfl (C.2.2.2.2.2.2.2.2.1.2.2.1 _ hl)) (fun _ h => h) hv hd (kk p e s m args below meth c H locs ls C hS hW hlv)
theorem j_put {idx ci k a : Nat} (q : Nat) {fs : List Value} {v : Value} (hd : decode Y.2.1 pc = .ok (.putfield idx, 3)) (hF : FG Y.1.cls idx ci k) (hn : pc + 3 = n) (hf : fin ci k = some false) (he : ws[q]? = some (a, .inr (ci, fs))) (hl : k < fs.length) (hnr : narrow (tyq ci k) v = v) (hft : fits (tyq ci k) v = true) (kk : JJ G Y d mc ms post n lv st (ws.set q (a, .inr (ci, fs.set k v))) kc ks) : JJ G Y d mc ms post pc lv (v :: .ref a :: st) ws kc ks := by
  subst hn
  obtain ⟨⟨C0, T, N⟩, hc, hk, hlk⟩ := hF
  have hf : (T k).2.2.2 = false := by unfold fin at hf; rw [hc] at hf; exact Option.some.inj hf
  intro p e s m args below meth c H locs ls C hS hW hlv
  exact va_put (T := T) C.1 C.2.1 C.2.2.2.2.2.2.2.1 (uw_all ci _ hc) (tyq ci) (tyq_ok ci _ hc) (nmq_ok ci _ hc) C.2.2.2.2.2.2.1 C.2.2.2.2.2.2.2.2.1.2.1 hW.1 hW.2 hS q he hc k hk (C.2.2.2.2.2.2.2.1 _ hlk) (fun _ h => h) hf (tyq_ok ci _ hc k hk) hnr hft hl hd (fun H1 locs1 hP hD hS1 => kk p e s m args below meth c H1 locs1 ls C hS1 ⟨hP, hD⟩ hlv)
theorem j_putN {idx ci k a : Nat} (q : Nat) {fs : List Value} {v : Value} (hd : decode Y.2.1 pc = .ok (.putfield idx, 3)) (hF : FGN Y.1.cls idx ci k) (hn : pc + 3 = n) (hf : fin ci k = some false) (he : ws[q]? = some (a, .inr (ci, fs))) (hl : k < fs.length) (hnr : narrow (tyq ci k) v = v) (hft : fits (tyq ci k) v = true) (kk : JJ G Y d mc ms post n lv st (ws.set q (a, .inr (ci, fs.set k v))) kc ks) : JJ G Y d mc ms post pc lv (v :: .ref a :: st) ws kc ks := by
  subst hn
  obtain ⟨⟨C0, T, N⟩, host, hc, hk, hlk⟩ := hF
  have hf : (T k).2.2.2 = false := by unfold fin at hf; rw [hc] at hf; exact Option.some.inj hf
  intro p e s m args below meth c H locs ls C hS hW hlv
  exact va_putN (T := T) (host := host) C.1 C.2.1 C.2.2.2.2.2.2.2.1 (uw_all ci _ hc) (tyq ci) (tyq_ok ci _ hc) (nmq_ok ci _ hc) C.2.2.2.2.2.2.1 C.2.2.2.2.2.2.2.2.1.2.1 hW.1 hW.2 hS q he hc k hk (va_Nw.use rfl (C.2.2.2.2.2.2.2.2.1.2.2.1 _ hlk)) (fun _ h => h) hf (tyq_ok ci _ hc k hk) hnr hft hl hd (fun H1 locs1 hP hD hS1 => kk p e s m args below meth c H1 locs1 ls C hS1 ⟨hP, hD⟩ hlv)
/-- a final field, in its class's own constructor -/
theorem j_putF {idx ci k a : Nat} (q : Nat) {fs : List Value} {v : Value} (hd : decode Y.2.1 pc = .ok (.putfield idx, 3)) (hF : FG Y.1.cls idx ci k) (hn : pc + 3 = n) (hf : fin ci k = some true) (hin : Y.1.name = "<init>") (ho : ∀ q : vw_C, vwCl[ci]? = some q → (q.2.1 k).1 = Y.1.cls) (he : ws[q]? = some (a, .inr (ci, fs))) (hl : k < fs.length) (hnr : narrow (tyq ci k) v = v) (hft : fits (tyq ci k) v = true) (kk : JJ G Y d mc ms post n lv st (ws.set q (a, .inr (ci, fs.set k v))) kc ks) : JJ G Y d mc ms post pc lv (v :: .ref a :: st) ws kc ks := by
  subst hn
  obtain ⟨⟨C0, T, N⟩, hc, hk, hlk⟩ := hF
  have hf : (T k).2.2.2 = true := by unfold fin at hf; rw [hc] at hf; exact Option.some.inj hf
  intro p e s m args below meth c H locs ls C hS hW hlv
  exact va_putF (T := T) C.1 C.2.1 C.2.2.2.2.2.2.2.1 (uw_all ci _ hc) (tyq ci) (tyq_ok ci _ hc) (nmq_ok ci _ hc) C.2.2.2.2.2.2.1 C.2.2.2.2.2.2.2.2.1.2.1 hW.1 hW.2 hS q he hc k hk (C.2.2.2.2.2.2.2.1 _ hlk) (fun _ h => h) hf (C.2.2.2.2.2.1.trans hin) (ho _ hc) (tyq_ok ci _ hc k hk) hnr hft hl hd (fun H1 locs1 hP hD hS1 => kk p e s m args below meth c H1 locs1 ls C hS1 ⟨hP, hD⟩ hlv)
theorem nI_ix {i : Int32} {j N : Nat} (hi : i = nI j) (hj : j < N) (hN : N < 2147483648) : vp_in i N ∧ i.toNatClampNeg = j := by
  subst hi
  exact ⟨vp_in_nI hj hN, nI_clamp (Nat.lt_trans hj hN)⟩
theorem j_iald (q j : Nat) {a N : Nat} {f : Nat → Int32} {i : Int32} (hd : decode Y.2.1 pc = .ok (.iaload, 1)) (hn : pc + 1 = n) (he : ws[q]? = some (a, .inl (gI G, N, .inl f))) (hi : i = nI j) (hj : j < N) (hN : N < 2147483648) (kk : JJ G Y d mc ms post n lv (.int (f j) :: st) ws kc ks) : JJ G Y d mc ms post pc lv (.int i :: .ref a :: st) ws kc ks := by
  subst hn
  obtain ⟨h1, h2⟩ := nI_ix hi hj hN
  intro p e s m args below meth c H locs ls C hS hW hlv
  exact va_iald C.1 C.2.1 C.2.2.2.2.2.2.2.2.1.2.1 hW.1 q 0 he C.2.2.2.2.2.2.2.2.1.1.1 h1 hd (by rw [h2]; exact kk p e s m args below meth c H locs ls C hS hW hlv)
theorem j_bald (q j : Nat) {a N : Nat} {f : Nat → Int32} {i : Int32} (hd : decode Y.2.1 pc = .ok (.baload, 1)) (hn : pc + 1 = n) (he : ws[q]? = some (a, .inl (gB G, N, .inl f))) (hi : i = nI j) (hj : j < N) (hN : N < 2147483648) (kk : JJ G Y d mc ms post n lv (.int (f j) :: st) ws kc ks) : JJ G Y d mc ms post pc lv (.int i :: .ref a :: st) ws kc ks := by
  subst hn
  obtain ⟨h1, h2⟩ := nI_ix hi hj hN
  intro p e s m args below meth c H locs ls C hS hW hlv
  exact va_bald C.1 C.2.1 C.2.2.2.2.2.2.2.2.1.2.1 hW.1 q 1 he C.2.2.2.2.2.2.2.2.1.1.2.1 h1 hd (by rw [h2]; exact kk p e s m args below meth c H locs ls C hS hW hlv)
theorem j_zald (q j : Nat) {a N : Nat} {f : Nat → Int32} {i : Int32} (hd : decode Y.2.1 pc = .ok (.baload, 1)) (hn : pc + 1 = n) (he : ws[q]? = some (a, .inl (gZ G, N, .inl f))) (hi : i = nI j) (hj : j < N) (hN : N < 2147483648) (kk : JJ G Y d mc ms post n lv (.int (f j) :: st) ws kc ks) : JJ G Y d mc ms post pc lv (.int i :: .ref a :: st) ws kc ks := by
  subst hn
  obtain ⟨h1, h2⟩ := nI_ix hi hj hN
  intro p e s m args below meth c H locs ls C hS hW hlv
  exact va_zald C.1 C.2.1 C.2.2.2.2.2.2.2.2.1.2.1 hW.1 q 2 he C.2.2.2.2.2.2.2.2.1.1.2.2.1 h1 hd (by rw [h2]; exact kk p e s m args below meth c H locs ls C hS hW hlv)
theorem j_iast (q j : Nat) {a N : Nat} {f : Nat → Int32} {i x : Int32} (hd : decode Y.2.1 pc = .ok (.iastore, 1)) (hn : pc + 1 = n) (he : ws[q]? = some (a, .inl (gI G, N, .inl f))) (hi : i = nI j) (hj : j < N) (hN : N < 2147483648) (kk : JJ G Y d mc ms post n lv st (ws.set q (a, .inl (gI G, N, .inl (upd f j x)))) kc ks) : JJ G Y d mc ms post pc lv (.int x :: .int i :: .ref a :: st) ws kc ks := by
  subst hn
  obtain ⟨h1, h2⟩ := nI_ix hi hj hN
  intro p e s m args below meth c H locs ls C hS hW hlv
  exact va_iast C.1 C.2.1 C.2.2.2.2.2.2.2.2.1.2.1 hW.1 hW.2 hS q 0 he C.2.2.2.2.2.2.2.2.1.1.1 h1 hd (by rw [h2]; exact fun H1 locs1 hP hD hS1 => kk p e s m args below meth c H1 locs1 ls C hS1 ⟨hP, hD⟩ hlv)
theorem j_bast (q j : Nat) {a N : Nat} {f : Nat → Int32} {i x : Int32} (hd : decode Y.2.1 pc = .ok (.bastore, 1)) (hn : pc + 1 = n) (he : ws[q]? = some (a, .inl (gB G, N, .inl f))) (hi : i = nI j) (hj : j < N) (hN : N < 2147483648) (kk : JJ G Y d mc ms post n lv st (ws.set q (a, .inl (gB G, N, .inl (upd f j (vp_nar .byte x))))) kc ks) : JJ G Y d mc ms post pc lv (.int x :: .int i :: .ref a :: st) ws kc ks := by
  subst hn
  obtain ⟨h1, h2⟩ := nI_ix hi hj hN
  intro p e s m args below meth c H locs ls C hS hW hlv
  exact va_bast C.1 C.2.1 C.2.2.2.2.2.2.2.2.1.2.1 hW.1 hW.2 hS q 1 he C.2.2.2.2.2.2.2.2.1.1.2.1 h1 hd (by rw [h2]; exact fun H1 locs1 hP hD hS1 => kk p e s m args below meth c H1 locs1 ls C hS1 ⟨hP, hD⟩ hlv)
theorem j_zast (q j : Nat) {a N : Nat} {f : Nat → Int32} {i x : Int32} (hd : decode Y.2.1 pc = .ok (.bastore, 1)) (hn : pc + 1 = n) (he : ws[q]? = some (a, .inl (gZ G, N, .inl f))) (hi : i = nI j) (hj : j < N) (hN : N < 2147483648) (kk : JJ G Y d mc ms post n lv st (ws.set q (a, .inl (gZ G, N, .inl (upd f j (vp_nar .boolean x))))) kc ks) : JJ G Y d mc ms post pc lv (.int x :: .int i :: .ref a :: st) ws kc ks := by
  subst hn
  obtain ⟨h1, h2⟩ := nI_ix hi hj hN
  intro p e s m args below meth c H locs ls C hS hW hlv
  exact va_zast C.1 C.2.1 C.2.2.2.2.2.2.2.2.1.2.1 hW.1 hW.2 hS q 2 he C.2.2.2.2.2.2.2.2.1.1.2.2.1 h1 hd (by rw [h2]; exact fun H1 locs1 hP hD hS1 => kk p e s m args below meth c H1 locs1 ls C hS1 ⟨hP, hD⟩ hlv)
theorem j_aaldR (q j : Nat) {a N : Nat} {f : Nat → Option Nat} {i : Int32} (hd : decode Y.2.1 pc = .ok (.aaload, 1)) (hn : pc + 1 = n) (he : ws[q]? = some (a, .inl (gR G, N, .inr (.inr (.inr (.inr f)))))) (hi : i = nI j) (hj : j < N) (hN : N < 2147483648) (kk : JJ G Y d mc ms post n lv (va_rf (f j) :: st) ws kc ks) : JJ G Y d mc ms post pc lv (.int i :: .ref a :: st) ws kc ks := by
  subst hn
  obtain ⟨h1, h2⟩ := nI_ix hi hj hN
  intro p e s m args below meth c H locs ls C hS hW hlv
  exact va_aldq C.1 C.2.1 C.2.2.2.2.2.2.2.2.1.2.1 hW.1 q 3 he C.2.2.2.2.2.2.2.2.1.1.2.2.2.1 h1 hd (by rw [h2]; exact kk p e s m args below meth c H locs ls C hS hW hlv)
theorem j_aastR (q j qk : Nat) {a N v : Nat} {vs : List Value} {f : Nat → Option Nat} {i : Int32} (hd : decode Y.2.1 pc = .ok (.aastore, 1)) (hn : pc + 1 = n) (he : ws[q]? = some (a, .inl (gR G, N, .inr (.inr (.inr (.inr f)))))) (hv : ws[qk]? = some (v, .inr (5, vs))) (hi : i = nI j) (hj : j < N) (hN : N < 2147483648) (kk : JJ G Y d mc ms post n lv st (ws.set q (a, .inl (gR G, N, .inr (.inr (.inr (.inr (va_up f j (some v)))))))) kc ks) : JJ G Y d mc ms post pc lv (.ref v :: .int i :: .ref a :: st) ws kc ks := by
  subst hn
  obtain ⟨h1, h2⟩ := nI_ix hi hj hN
  intro p e s m args below meth c H locs ls C hS hW hlv
  exact va_astq (r := (RX5, TX5, 3)) C.1 C.2.1 C.2.2.2.2.2.2.2.2.1.2.1 hW.1 hW.2 hS q 3 qk 5 he C.2.2.2.2.2.2.2.2.1.1.2.2.2.1 hv rfl h1 hd (by rw [h2]; exact fun H1 locs1 hP hD hS1 => kk p e s m args below meth c H1 locs1 ls C hS1 ⟨hP, hD⟩ hlv)
theorem j_aaldE (q j : Nat) {a N : Nat} {f : Nat → Option Nat} {i : Int32} (hd : decode Y.2.1 pc = .ok (.aaload, 1)) (hn : pc + 1 = n) (he : ws[q]? = some (a, .inl (gE G, N, .inr (.inr (.inr (.inr f)))))) (hi : i = nI j) (hj : j < N) (hN : N < 2147483648) (kk : JJ G Y d mc ms post n lv (va_rf (f j) :: st) ws kc ks) : JJ G Y d mc ms post pc lv (.int i :: .ref a :: st) ws kc ks := by
  subst hn
  obtain ⟨h1, h2⟩ := nI_ix hi hj hN
  intro p e s m args below meth c H locs ls C hS hW hlv
  exact va_aldq C.1 C.2.1 C.2.2.2.2.2.2.2.2.1.2.1 hW.1 q 4 he C.2.2.2.2.2.2.2.2.1.1.2.2.2.2 h1 hd (by rw [h2]; exact kk p e s m args below meth c H locs ls C hS hW hlv)
theorem j_aastE (q j qk : Nat) {a N v : Nat} {vs : List Value} {f : Nat → Option Nat} {i : Int32} (hd : decode Y.2.1 pc = .ok (.aastore, 1)) (hn : pc + 1 = n) (he : ws[q]? = some (a, .inl (gE G, N, .inr (.inr (.inr (.inr f)))))) (hv : ws[qk]? = some (v, .inr (0, vs))) (hi : i = nI j) (hj : j < N) (hN : N < 2147483648) (kk : JJ G Y d mc ms post n lv st (ws.set q (a, .inl (gE G, N, .inr (.inr (.inr (.inr (va_up f j (some v)))))))) kc ks) : JJ G Y d mc ms post pc lv (.ref v :: .int i :: .ref a :: st) ws kc ks := by
  subst hn
  obtain ⟨h1, h2⟩ := nI_ix hi hj hN
  intro p e s m args below meth c H locs ls C hS hW hlv
  exact va_astq (r := (RX0, TX0, 4)) C.1 C.2.1 C.2.2.2.2.2.2.2.2.1.2.1 hW.1 hW.2 hS q 4 qk 0 he C.2.2.2.2.2.2.2.2.1.1.2.2.2.2 hv rfl h1 hd (by rw [h2]; exact fun H1 locs1 hP hD hS1 => kk p e s m args below meth c H1 locs1 ls C hS1 ⟨hP, hD⟩ hlv)
theorem j_alen (q : Nat) {a N : Nat} {f : Nat → Int32} (hd : decode Y.2.1 pc = .ok (.arraylength, 1)) (hn : pc + 1 = n) (he : ws[q]? = some (a, .inl (gI G, N, .inl f))) (kk : JJ G Y d mc ms post n lv (.int (nI N) :: st) ws kc ks) : JJ G Y d mc ms post pc lv (.ref a :: st) ws kc ks := by
  subst hn
  intro p e s m args below meth c H locs ls C hS hW hlv
  exact va_alen C.1 C.2.1 C.2.2.2.2.2.2.2.2.1.2.1 hW.1 q 0 he C.2.2.2.2.2.2.2.2.1.1.1 rfl hd (kk p e s m args below meth c H locs ls C hS hW hlv)
theorem nI_new {N : Nat} (h : N < 134217728) : ¬ nI N < 0 ∧ (nI N).toNatClampNeg = N := ⟨nI_pos (by omega), nI_clamp (by omega)⟩
theorem aw_newi : Cond.arrayClass .int ∈ BW := by
  refine List.mem_filter.mpr ⟨?_, rfl⟩
  decide +kernel
theorem j_newi (N : Nat) {i : Int32} (hd : decode Y.2.1 pc = .ok (.newarray .int, 2)) (hn : pc + 2 = n) (hi : i = nI N) (hN : N < 134217728) (h1 : kc + 1 ≤ mc) (h2 : ks + N ≤ ms) (kk : ∀ a : Nat, JJ G Y d mc ms post n lv (.ref a :: st) (ws ++ [(a, .inl (gI G, N, .inl (fun _ => 0)))]) (kc + 1) (ks + N)) : JJ G Y d mc ms post pc lv (.int i :: st) ws kc ks := by
  subst hn
  subst hi
  intro p e s m args below meth c H locs ls C hS hW hlv
  have hK := C.2.2.2.2.2.2.2.2.1.2.1
  have hz := C.2.2.2.2.2.2.2.2.2
  have ht := C.2.2.2.2.2.2.2.2.1.1.1
  refine va_newa (atype := .int) (ty := .int) (a0 := (N, .inl (fun _ => 0))) C.1 C.2.1 (C.2.2.2.2.2.2.2.1 _ aw_newi) rfl hK hW.1 hW.2 hS (fun q h => Nat.le_trans hz h) (fun _ => rfl) (nI_new hN).1 (nI_new hN).2 (by simp only [componentBytes]; omega) h1 h2 hd (fun q cA H1 hK1 hP hD hS1 => ?_)
  have e1 := (hK1.2 G.2.2.1.length (cA, .int) (by rw [List.getElem?_append_right (Nat.le_refl _), Nat.sub_self]; rfl)).2
  have e2 := (hK.2 0 _ ht).2
  have e3 : cA = gI G := Option.some.inj (Eq.trans (Eq.symm e1) e2)
  subst e3
  exact kk q p e s m args below meth c H1 locs ls C hS1 ⟨hP, hD⟩ hlv
theorem aw_newb : Cond.arrayClass .byte ∈ BW := by
  refine List.mem_filter.mpr ⟨?_, rfl⟩
  decide +kernel
theorem j_newb (N : Nat) {i : Int32} (hd : decode Y.2.1 pc = .ok (.newarray .byte, 2)) (hn : pc + 2 = n) (hi : i = nI N) (hN : N < 134217728) (h1 : kc + 1 ≤ mc) (h2 : ks + N ≤ ms) (kk : ∀ a : Nat, JJ G Y d mc ms post n lv (.ref a :: st) (ws ++ [(a, .inl (gB G, N, .inl (fun _ => 0)))]) (kc + 1) (ks + N)) : JJ G Y d mc ms post pc lv (.int i :: st) ws kc ks := by
  subst hn
  subst hi
  intro p e s m args below meth c H locs ls C hS hW hlv
  have hK := C.2.2.2.2.2.2.2.2.1.2.1
  have hz := C.2.2.2.2.2.2.2.2.2
  have ht := C.2.2.2.2.2.2.2.2.1.1.2.1
  refine va_newa (atype := .byte) (ty := .byte) (a0 := (N, .inl (fun _ => 0))) C.1 C.2.1 (C.2.2.2.2.2.2.2.1 _ aw_newb) rfl hK hW.1 hW.2 hS (fun q h => Nat.le_trans hz h) (fun _ => rfl) (nI_new hN).1 (nI_new hN).2 (by simp only [componentBytes]; omega) h1 h2 hd (fun q cA H1 hK1 hP hD hS1 => ?_)
  have e1 := (hK1.2 G.2.2.1.length (cA, .byte) (by rw [List.getElem?_append_right (Nat.le_refl _), Nat.sub_self]; rfl)).2
  have e2 := (hK.2 1 _ ht).2
  have e3 : cA = gB G := Option.some.inj (Eq.trans (Eq.symm e1) e2)
  subst e3
  exact kk q p e s m args below meth c H1 locs ls C hS1 ⟨hP, hD⟩ hlv
theorem aw_newz : Cond.arrayClass .boolean ∈ BW := by
  refine List.mem_filter.mpr ⟨?_, rfl⟩
  decide +kernel
theorem j_newz (N : Nat) {i : Int32} (hd : decode Y.2.1 pc = .ok (.newarray .boolean, 2)) (hn : pc + 2 = n) (hi : i = nI N) (hN : N < 134217728) (h1 : kc + 1 ≤ mc) (h2 : ks + N ≤ ms) (kk : ∀ a : Nat, JJ G Y d mc ms post n lv (.ref a :: st) (ws ++ [(a, .inl (gZ G, N, .inl (fun _ => 0)))]) (kc + 1) (ks + N)) : JJ G Y d mc ms post pc lv (.int i :: st) ws kc ks := by
  subst hn
  subst hi
  intro p e s m args below meth c H locs ls C hS hW hlv
  have hK := C.2.2.2.2.2.2.2.2.1.2.1
  have hz := C.2.2.2.2.2.2.2.2.2
  have ht := C.2.2.2.2.2.2.2.2.1.1.2.2.1
  refine va_newa (atype := .boolean) (ty := .boolean) (a0 := (N, .inl (fun _ => 0))) C.1 C.2.1 (C.2.2.2.2.2.2.2.1 _ aw_newz) rfl hK hW.1 hW.2 hS (fun q h => Nat.le_trans hz h) (fun _ => rfl) (nI_new hN).1 (nI_new hN).2 (by simp only [componentBytes]; omega) h1 h2 hd (fun q cA H1 hK1 hP hD hS1 => ?_)
  have e1 := (hK1.2 G.2.2.1.length (cA, .boolean) (by rw [List.getElem?_append_right (Nat.le_refl _), Nat.sub_self]; rfl)).2
  have e2 := (hK.2 2 _ ht).2
  have e3 : cA = gZ G := Option.some.inj (Eq.trans (Eq.symm e1) e2)
  subst e3
  exact kk q p e s m args below meth c H1 locs ls C hS1 ⟨hP, hD⟩ hlv
/-- a class that a pool entry names, to be made -/
def NC (own : String) (idx ci : Nat) : Prop := ∃ q : vw_C, vwCl[ci]? = some q ∧ Cond.classLink own idx q.1 ∈ BW ∧ Cond.instantiable q.1 q.2.2 ∈ BW ∧ Cond.initialized q.1 ∈ BW
def dfl (ci N : Nat) : List Value := (List.range N).map (fun k => defaultValue (tyq ci k))
theorem j_new (ci N : Nat) {idx : Nat} (hd : decode Y.2.1 pc = .ok (.new idx, 3)) (hF : NC Y.1.cls idx ci) (hn : pc + 3 = n) (hN : (vwCl[ci]?).map (fun q => q.2.2) = some N) (h1 : kc + 1 ≤ mc) (h2 : ks + N ≤ ms) {fs : List Value} (hfs : dfl ci N = fs) (kk : ∀ a : Nat, JJ G Y d mc ms post n lv (.ref a :: st) (ws ++ [(a, .inr (ci, fs))]) (kc + 1) (ks + N)) : JJ G Y d mc ms post pc lv st ws kc ks := by
  subst hn
  subst hfs
  obtain ⟨⟨C0, T, M⟩, hc, w1, w2, w3⟩ := hF
  have hM : M = N := by rw [hc] at hN; exact Option.some.inj hN
  subst hM
  intro p e s m args below meth c H locs ls C hS hW hlv
  have hK := C.2.2.2.2.2.2.2.2.1.2.1
  have hz := C.2.2.2.2.2.2.2.2.2
  have ht := C.2.2.2.2.2.2.2.1
  refine va_new (T := T) C.1 C.2.1 ht (uw_all ci _ hc) (tyq ci) (tyq_ok ci _ hc) C.2.2.2.2.2.2.1 (ht _ w1) (ht _ w2) (ht _ w3) hK hW.1 hW.2 hS (fun q h => Nat.le_trans hz h) hc (fs := dfl ci M) (fun j hj => ?_) h1 h2 hd (fun q H1 hP hD hS1 => kk q p e s m args below meth c H1 locs ls C hS1 ⟨hP, hD⟩ hlv)
  unfold vp_V dfl
  rw [List.getD_eq_getElem?_getD, List.getElem?_map, List.getElem?_range hj]
  rfl
theorem j_newR (N : Nat) {idx : Nat} {i : Int32} (hd : decode Y.2.1 pc = .ok (.anewarray idx, 3)) (hF : Cond.classLink Y.1.cls idx RX5 ∈ BW) (hn : pc + 3 = n) (hi : i = nI N) (hN : N < 134217728) (h1 : kc + 1 ≤ mc) (h2 : ks + N ≤ ms) (kk : ∀ a : Nat, JJ G Y d mc ms post n lv (.ref a :: st) (ws ++ [(a, .inl (gR G, N, .inr (.inr (.inr (.inr (fun _ => none))))))]) (kc + 1) (ks + N)) : JJ G Y d mc ms post pc lv (.int i :: st) ws kc ks := by
  subst hn
  subst hi
  intro p e s m args below meth c H locs ls C hS hW hlv
  have hK := C.2.2.2.2.2.2.2.2.1.2.1
  have hz := C.2.2.2.2.2.2.2.2.2
  have ht := C.2.2.2.2.2.2.2.2.1.1.2.2.2.1
  refine va_newq C.1 C.2.1 C.2.2.2.2.2.2.1 (C.2.2.2.2.2.2.2.1 _ hF) C.2.2.2.2.2.2.2.2.1.2.2.2.1 hK hW.1 hW.2 hS (fun q h => Nat.le_trans hz h) (nI_new hN).1 (nI_new hN).2 (by omega) h1 h2 hd (fun q cA H1 hK1 hP hD hS1 => ?_)
  obtain ⟨k1, c1, a1, a2, a3, a4⟩ := (hK1.2 G.2.2.1.length (cA, .object RX5) (by rw [List.getElem?_append_right (Nat.le_refl _), Nat.sub_self]; rfl)).2
  obtain ⟨k2, c2, b1, b2, b3, b4⟩ := (hK.2 3 _ ht).2
  have e3 : cA = gR G := Option.some.inj (a4.symm.trans b4)
  subst e3
  exact kk q p e s m args below meth c H1 locs ls C hS1 ⟨hP, hD⟩ hlv
theorem j_newE (N : Nat) {idx : Nat} {i : Int32} (hd : decode Y.2.1 pc = .ok (.anewarray idx, 3)) (hF : Cond.classLink Y.1.cls idx RX0 ∈ BW) (hn : pc + 3 = n) (hi : i = nI N) (hN : N < 134217728) (h1 : kc + 1 ≤ mc) (h2 : ks + N ≤ ms) (kk : ∀ a : Nat, JJ G Y d mc ms post n lv (.ref a :: st) (ws ++ [(a, .inl (gE G, N, .inr (.inr (.inr (.inr (fun _ => none))))))]) (kc + 1) (ks + N)) : JJ G Y d mc ms post pc lv (.int i :: st) ws kc ks := by
  subst hn
  subst hi
  intro p e s m args below meth c H locs ls C hS hW hlv
  have hK := C.2.2.2.2.2.2.2.2.1.2.1
  have hz := C.2.2.2.2.2.2.2.2.2
  have ht := C.2.2.2.2.2.2.2.2.1.1.2.2.2.2
  refine va_newq C.1 C.2.1 C.2.2.2.2.2.2.1 (C.2.2.2.2.2.2.2.1 _ hF) C.2.2.2.2.2.2.2.2.1.2.2.2.2.1 hK hW.1 hW.2 hS (fun q h => Nat.le_trans hz h) (nI_new hN).1 (nI_new hN).2 (by omega) h1 h2 hd (fun q cA H1 hK1 hP hD hS1 => ?_)
  obtain ⟨k1, c1, a1, a2, a3, a4⟩ := (hK1.2 G.2.2.1.length (cA, .object RX0) (by rw [List.getElem?_append_right (Nat.le_refl _), Nat.sub_self]; rfl)).2
  obtain ⟨k2, c2, b1, b2, b3, b4⟩ := (hK.2 4 _ ht).2
  have e3 : cA = gE G := Option.some.inj (a4.symm.trans b4)
  subst e3
  exact kk q p e s m args below meth c H1 locs ls C hS1 ⟨hP, hD⟩ hlv
/-- the two static arrays -/
theorem j_getX {idx : Nat} (hd : decode Y.2.1 pc = .ok (.getstatic idx, 3)) (hF : Cond.fieldLink Y.1.cls idx "NameGuard$Measure" "X_SIGNS" "[I" ∈ BW) (hn : pc + 3 = n) (kk : JJ G Y d mc ms post n lv (.ref G.2.2.2.2.1 :: st) ws kc ks) : JJ G Y d mc ms post pc lv st ws kc ks := by
  subst hn
  intro p e s m args below meth c H locs ls C hS hW hlv
  exact va_gets C.1 C.2.1 C.2.2.2.2.2.2.2.2.1.2.2.2.2.2.1 hS C.2.2.2.2.2.2.1 (C.2.2.2.2.2.2.2.1 _ hF) (fun _ h => h) hd (kk p e s m args below meth c H locs ls C hS hW hlv)
theorem j_getY {idx : Nat} (hd : decode Y.2.1 pc = .ok (.getstatic idx, 3)) (hF : Cond.fieldLink Y.1.cls idx "NameGuard$Measure" "Y_SIGNS" "[I" ∈ BW) (hn : pc + 3 = n) (kk : JJ G Y d mc ms post n lv (.ref G.2.2.2.2.2 :: st) ws kc ks) : JJ G Y d mc ms post pc lv st ws kc ks := by
  subst hn
  intro p e s m args below meth c H locs ls C hS hW hlv
  exact va_gets C.1 C.2.1 C.2.2.2.2.2.2.2.2.1.2.2.2.2.2.2.2.1 hS C.2.2.2.2.2.2.1 (C.2.2.2.2.2.2.2.1 _ hF) (fun _ h => h) hd (kk p e s m args below meth c H locs ls C hS hW hlv)
theorem j_xald (j : Nat) {i : Int32} (v : Value) (hd : decode Y.2.1 pc = .ok (.iaload, 1)) (hn : pc + 1 = n) (hi : i = nI j) (hj : j < 4) (hv : fXS j = v) (kk : JJ G Y d mc ms post n lv (v :: st) ws kc ks) : JJ G Y d mc ms post pc lv (.int i :: .ref G.2.2.2.2.1 :: st) ws kc ks := by
  subst hn
  obtain ⟨h1, h2⟩ := nI_ix hi hj (by omega)
  intro p e s m args below meth c H locs ls C hS hW hlv
  exact va_ti C.1 C.2.1 C.2.2.2.2.2.2.2.2.1.2.2.2.2.2.2.1 hS h1 (by rw [h2]; exact hv) hd (kk p e s m args below meth c H locs ls C hS hW hlv)
theorem j_yald (j : Nat) {i : Int32} (v : Value) (hd : decode Y.2.1 pc = .ok (.iaload, 1)) (hn : pc + 1 = n) (hi : i = nI j) (hj : j < 4) (hv : fYS j = v) (kk : JJ G Y d mc ms post n lv (v :: st) ws kc ks) : JJ G Y d mc ms post pc lv (.int i :: .ref G.2.2.2.2.2 :: st) ws kc ks := by
  subst hn
  obtain ⟨h1, h2⟩ := nI_ix hi hj (by omega)
  intro p e s m args below meth c H locs ls C hS hW hlv
  exact va_ti C.1 C.2.1 C.2.2.2.2.2.2.2.2.1.2.2.2.2.2.2.2.2 hS h1 (by rw [h2]; exact hv) hd (kk p e s m args below meth c H locs ls C hS hW hlv)
theorem ow_1 : Cond.instanceMethod objectInit ∈ BW := List.mem_filter.mpr ⟨by decide +kernel, rfl⟩
theorem ow_2 : Cond.code objectInit ⟨#[0xb1]⟩ 1 none ∈ BW := List.mem_filter.mpr ⟨by decide +kernel, rfl⟩
theorem j_objInit {idx a : Nat} (hd : decode Y.2.1 pc = .ok (.invokespecial idx, 3)) (hF : Cond.methodLink Y.1.cls idx objectInit ∈ BW) (hn : pc + 3 = n) (hd1 : 1 ≤ d) (hst : (st.map fun v => v.category).sum ≤ 8) (kk : JJ G Y d mc ms post n lv st ws kc ks) : JJ G Y d mc ms post pc lv (.ref a :: st) ws kc ks := by
  subst hn
  intro p e s m args below meth c H locs ls C hS hW hlv
  have ht := C.2.2.2.2.2.2.2.1
  refine W.objInit C.1 C.2.1 C.2.2.2.2.2.2.1 (ht _ hF) (ht _ ow_1) (ht _ ow_2) rfl (by rw [C.2.2.1]; exact hlv.1.1) rfl hd hd1 (by show 2 * 0 + _ + 12 ≤ 41 * d; omega) ?_
  exact W.eq (g2 := F0 m (pc + 3) ls st) rfl (kk p e s m args below meth c H locs ls C hS hW hlv)
theorem mw_i : Cond.initialized "java/lang/Math" ∈ BW := List.mem_filter.mpr ⟨by decide +kernel, rfl⟩
theorem mw_1 : Cond.static Lib.Math.max.name ∈ BW := List.mem_filter.mpr ⟨by decide +kernel, rfl⟩
theorem mw_2 : Cond.code Lib.Math.max.name Lib.Math.max.code 2 (some .int) ∈ BW := List.mem_filter.mpr ⟨by decide +kernel, rfl⟩
theorem mw_3 : Cond.static Lib.Math.min.name ∈ BW := List.mem_filter.mpr ⟨by decide +kernel, rfl⟩
theorem mw_4 : Cond.code Lib.Math.min.name Lib.Math.min.code 2 (some .int) ∈ BW := List.mem_filter.mpr ⟨by decide +kernel, rfl⟩
theorem j_max {idx : Nat} {x y : Int32} (hd : decode Y.2.1 pc = .ok (.invokestatic idx, 3)) (hF : Cond.methodLink Y.1.cls idx Lib.Math.max.name ∈ BW) (hn : pc + 3 = n) (hd1 : 1 ≤ d) (h1 : kc ≤ mc) (h2 : ks ≤ ms) (hst : (st.map fun v => v.category).sum ≤ 8) (kk : JJ G Y d mc ms post n lv (.int (if x < y then y else x) :: st) ws kc ks) : JJ G Y d mc ms post pc lv (.int y :: .int x :: st) ws kc ks := by
  subst hn
  intro p e s m args below meth c H locs ls C hS hW hlv
  have ht := C.2.2.2.2.2.2.2.1
  exact va_mmax C.1 C.2.1 (by rw [C.2.2.1]; exact hlv.1.1.symm) C.2.2.2.2.2.2.1 (ht _ hF) (ht _ mw_1) (ht _ mw_i) (ht _ mw_2) hd1 (by show _ + 13 ≤ 41 * d; omega) h1 h2 hd (kk p e s m args below meth c H locs ls C hS hW hlv)
theorem j_min {idx : Nat} {x y : Int32} (hd : decode Y.2.1 pc = .ok (.invokestatic idx, 3)) (hF : Cond.methodLink Y.1.cls idx Lib.Math.min.name ∈ BW) (hn : pc + 3 = n) (hd1 : 1 ≤ d) (h1 : kc ≤ mc) (h2 : ks ≤ ms) (hst : (st.map fun v => v.category).sum ≤ 8) (kk : JJ G Y d mc ms post n lv (.int (if y < x then y else x) :: st) ws kc ks) : JJ G Y d mc ms post pc lv (.int y :: .int x :: st) ws kc ks := by
  subst hn
  intro p e s m args below meth c H locs ls C hS hW hlv
  have ht := C.2.2.2.2.2.2.2.1
  exact va_mmin C.1 C.2.1 (by rw [C.2.2.1]; exact hlv.1.1.symm) C.2.2.2.2.2.2.1 (ht _ hF) (ht _ mw_3) (ht _ mw_i) (ht _ mw_4) hd1 (by show _ + 13 ≤ 41 * d; omega) h1 h2 hd (kk p e s m args below meth c H locs ls C hS hW hlv)
/-- what a call needs of its callee -/
def CY (Y : YT) (n : Nat) : Prop := Cond.code Y.1 Y.2.1 Y.2.2.1 Y.2.2.2 ∈ BW ∧ Cond.initialized Y.1.cls ∈ BW ∧ Y.2.2.1 ≤ 22 ∧ Y.1.cls ≠ "java/lang/invoke/MethodHandle" ∧ Y.1.cls ≠ "java/lang/invoke/VarHandle" ∧ (parseMethodDescriptor Y.1.desc).map (fun d => d.parameters.length) = some n
/-- and of an instance method -/
def CI (Y : YT) : Prop := Cond.instanceMethod Y.1 ∈ BW ∧ Cond.selects Y.1.cls Y.1 Y.1 ∈ BW
theorem cy_warm {Y1 : YT} {k : Nat} (h : CY Y1 k) {s : State} {args : Array Value} (ht : ∀ w ∈ BW, w.before args s = true) : ∀ w ∈ (Cond.code Y1.1 Y1.2.1 Y1.2.2.1 Y1.2.2.2 :: BW), ∀ (a' : Array Value) (U : State), s.WarmedH U.vm → w.before a' U = true := by
  refine pay_in ht (fun w hw => ?_)
  rcases List.mem_cons.mp hw with rfl | hw
  · exact ⟨h.1, bw_good h.1⟩
  · exact ⟨hw, bw_good hw⟩
theorem cy_len {Y1 : YT} {k : Nat} (h : CY Y1 k) : ∀ sig, parseMethodDescriptor Y1.1.desc = some sig → k = sig.parameters.length := by
  intro sig hs
  have h2 := h.2.2.2.2.2
  rw [hs] at h2
  exact (Option.some.inj h2).symm
theorem cy_B {Y1 : YT} {k d1 mc1 ms1 d mc ms idx : Nat} {own : String} (h : CY Y1 k) {s : State} {args : Array Value} (ht : ∀ w ∈ BW, w.before args s = true) (hF : Cond.methodLink own idx Y1.1 ∈ BW) (hd : d1 + 1 ≤ d) : CallB (rm d mc ms) s args own idx Y1.1 Y1.2.1 Y1.2.2.1 Y1.2.2.2 (Cond.code Y1.1 Y1.2.1 Y1.2.2.1 Y1.2.2.2 :: BW) (rm d1 mc1 ms1) mc1 ms1 k := by
  have h3 := h.2.2.1
  exact ⟨rfl, rfl, hd, by show 8 + (Y1.2.2.1 + 11) + 41 * d1 ≤ 41 * d; omega, cy_warm h ht, List.mem_cons_self, ht _ h.1, ht _ h.2.1, ⟨h.2.2.2.1, h.2.2.2.2.1⟩, cy_len h, ht _ hF⟩
theorem jp_blind {av : List Value} {w0 : va_W} : FrameBlind (JP G av w0) := fun a U g mk h => ⟨h.1, h.2.1, JK.same (u := U) (U := U.calling g mk a) (H := U.heap) rfl h.2.2.1, h.2.2.2⟩
theorem jp_at {Y1 : YT} {av : List Value} {w0 : va_W} {p : Program} {s : State} {m : MethodId} {args : Array Value} {meth : Method} {c : Code} {H : Heap} {locs : List Loc} (C : JC G Y1 p s m args meth c) (hS : va_S (JA G) s.heap H locs) (hW : JW G w0 H) : ∀ U : State, U.heap = H → s.WarmedH U.vm → JP G av w0 av.toArray U := by
  intro U hU hw
  refine ⟨rfl, ?_, ?_, by rw [hU]; exact hW⟩
  · rw [hU]; exact Nat.le_trans C.2.2.2.2.2.2.2.2.2 hS.1
  · exact JK.moved hw (fun a h1 h2 => by rw [hU]; exact hS.2.1 a h1 h2) C.2.2.2.2.2.2.2.2.1
theorem j_ofRun {p : Program} {e : Env} {s : State} {m : MethodId} {args : Array Value} {below : List Frame} {meth : Method} {c : Code} {H : Heap} {locs : List Loc} {R : Room} {Q : State → Prop} {mc1 ms1 : Nat} {ls : Array Slot} {st0 rest : List Value} {post1 : OT} {a : Array Value} {H0 : Heap}
    (hr : va_Run p G.1 e R s m args below meth c H locs kc ks mc1 ms1 (F0 m pc ls st0) rest (JQ G post1 a) (JA G)) (hS : va_S (JA G) H0 H locs)
    (kk : ∀ (r : Option Value) (w : va_W) (H1 : Heap) (locs1 : List Loc), post1 r w → JW G w H1 → va_S (JA G) H0 H1 locs1 → W p G.1 e R s m args below meth c H1 locs1 (kc + mc1) (ks + ms1) Q (F0 m (pc + 3) ls (r.toList ++ rest))) : W p G.1 e R s m args below meth c H locs kc ks Q (F0 m pc ls st0) := by
  intro T hT X
  obtain ⟨v, st₀, t, T', L, h0, X', hL, e1, e2, ⟨⟨r, u, hv, hp, hb⟩, hz, hk⟩, stp⟩ := hr T hT X
  cases hv
  rw [h0] at hz hk
  obtain ⟨t2, a1, b1⟩ := kk v u T'.heap (locs ++ L) hp (by rw [e1]; exact hb)
    ⟨Nat.le_trans hS.1 (by rw [e1]; exact hz), fun q h1 h2 => by rw [e1, hk q (Nat.lt_of_lt_of_le h1 hS.1) h2]; exact hS.2.1 q h1 h2, fun q hq => by
      rcases List.mem_append.mp hq with h | h
      · exact hS.2.2 q h
      · exact hL q h⟩ T' rfl X'
  exact ⟨t2, stp t2 a1, b1⟩
/-- a call of an instance method -/
theorem j_callV (q : Nat) {Y1 : YT} {k d1 mc1 ms1 idx b ci : Nat} {fs : List Value} {As rest : List Value} {post1 : OT} (hd : decode Y.2.1 pc = .ok (.invokevirtual idx, 3)) (hF : Cond.methodLink Y.1.cls idx Y1.1 ∈ BW) (hY : CY Y1 k) (hI : CI Y1) (hM : JM G Y1 d1 mc1 ms1 (.ref b :: As) ws post1) (hn : pc + 3 = n) (hst : st = As.reverse ++ .ref b :: rest) (hk : As.length = k) (he : ws[q]? = some (b, .inr (ci, fs))) (hc : (vwCl[ci]?).map (fun q => q.1) = some Y1.1.cls) (hd1 : d1 + 1 ≤ d) (h1 : kc + mc1 ≤ mc) (h2 : ks + ms1 ≤ ms) (hr : (rest.map fun v => v.category).sum ≤ 8)
    (kk : ∀ (r : Option Value) (w : va_W), post1 r w → JJ G Y d mc ms post n lv (r.toList ++ rest) w (kc + mc1) (ks + ms1)) : JJ G Y d mc ms post pc lv st ws kc ks := by
  subst hn
  subst hst
  intro p e s m args below meth c H locs ls C hS hW hlv
  have ht := C.2.2.2.2.2.2.2.1
  have hrec : ∃ cellB : Cell, H[b]? = some cellB ∧ cellB.vm.isStatics = false ∧ s.vm.findClass Y1.1.cls = some cellB.cls := by
    cases hcl : vwCl[ci]? with
    | none => rw [hcl] at hc; cases hc
    | some r =>
      rw [hcl] at hc
      have := va_recv C.2.2.2.2.2.2.2.2.1.2.1 hW.1 hcl he
      rw [← Option.some.inj hc]
      exact this
  exact j_ofRun (va_runV (C := Y1.1.cls) (g := F0 m pc ls (As.reverse ++ .ref b :: rest)) ⟨C.1, C.2.1, C.2.2.1, C.2.2.2.2.2.2.1, ht⟩ hM ⟨cy_B hY ht hF hd1, ht _ hI.1, ht _ hI.2⟩ ⟨jp_blind, hrec, jp_at C hS hW⟩ rfl hk hlv.1.1 rfl (lv_room hr) hd ⟨h1, h2⟩) hS (fun r w H1 locs1 hp hw hS1 => kk r w hp p e s m args below meth c H1 locs1 ls C hS1 hw hlv)
/-- a call of a static method -/
theorem j_callS {Y1 : YT} {k d1 mc1 ms1 idx : Nat} {As rest : List Value} {post1 : OT} (hd : decode Y.2.1 pc = .ok (.invokestatic idx, 3)) (hF : Cond.methodLink Y.1.cls idx Y1.1 ∈ BW) (hY : CY Y1 k) (hI : Cond.static Y1.1 ∈ BW) (hM : JM G Y1 d1 mc1 ms1 As ws post1) (hn : pc + 3 = n) (hst : st = As.reverse ++ rest) (hk : As.length = k) (hd1 : d1 + 1 ≤ d) (h1 : kc + mc1 ≤ mc) (h2 : ks + ms1 ≤ ms) (hr : (rest.map fun v => v.category).sum ≤ 8)
    (kk : ∀ (r : Option Value) (w : va_W), post1 r w → JJ G Y d mc ms post n lv (r.toList ++ rest) w (kc + mc1) (ks + ms1)) : JJ G Y d mc ms post pc lv st ws kc ks := by
  subst hn
  subst hst
  intro p e s m args below meth c H locs ls C hS hW hlv
  have ht := C.2.2.2.2.2.2.2.1
  exact j_ofRun (va_runS (g := F0 m pc ls (As.reverse ++ rest)) ⟨C.1, C.2.1, C.2.2.1, C.2.2.2.2.2.2.1, ht⟩ hM ⟨cy_B hY ht hF hd1, ht _ hI⟩ ⟨jp_blind, jp_at C hS hW⟩ rfl hk hlv.1.1 rfl (lv_room hr) hd ⟨h1, h2⟩) hS (fun r w H1 locs1 hp hw hS1 => kk r w hp p e s m args below meth c H1 locs1 ls C hS1 hw hlv)
/-- a call of a private static method of a nest mate -/
theorem j_callSN {Y1 : YT} {k d1 mc1 ms1 idx : Nat} {host : String} {As rest : List Value} {post1 : OT} (hd : decode Y.2.1 pc = .ok (.invokestatic idx, 3)) (hF : Cond.methodLinkNest Y.1.cls idx Y1.1 host ∈ NW) (hY : CY Y1 k) (hI : Cond.static Y1.1 ∈ BW) (hM : JM G Y1 d1 mc1 ms1 As ws post1) (hn : pc + 3 = n) (hst : st = As.reverse ++ rest) (hk : As.length = k) (hd1 : d1 + 1 ≤ d) (h1 : kc + mc1 ≤ mc) (h2 : ks + ms1 ≤ ms) (hr : (rest.map fun v => v.category).sum ≤ 8)
    (kk : ∀ (r : Option Value) (w : va_W), post1 r w → JJ G Y d mc ms post n lv (r.toList ++ rest) w (kc + mc1) (ks + ms1)) : JJ G Y d mc ms post pc lv st ws kc ks := by
  subst hn
  subst hst
  have h3 := hY.2.2.1
  intro p e s m args below meth c H locs ls C hS hW hlv
  have ht := C.2.2.2.2.2.2.2.1
  have cn : va_CN (rm d mc ms) s args Y.1.cls idx Y1.1 host Y1.2.1 Y1.2.2.1 Y1.2.2.2 (Cond.code Y1.1 Y1.2.1 Y1.2.2.1 Y1.2.2.2 :: BW) (rm d1 mc1 ms1) mc1 ms1 k :=
    ⟨⟨rfl, rfl, hd1, by show 8 + (Y1.2.2.1 + 11) + 41 * d1 ≤ 41 * d; omega, cy_warm hY ht, List.mem_cons_self⟩, ht _ hY.1, ht _ hY.2.1, ⟨hY.2.2.2.1, hY.2.2.2.2.1⟩, cy_len hY, va_Nw.use rfl (C.2.2.2.2.2.2.2.2.1.2.2.1 _ hF)⟩
  exact j_ofRun (va_runSN (g := F0 m pc ls (As.reverse ++ rest)) ⟨C.1, C.2.1, C.2.2.1, C.2.2.2.2.2.2.1, ht⟩ hM ⟨cn, ht _ hI, trivial⟩ ⟨jp_blind, jp_at C hS hW⟩ rfl hk hlv.1.1 rfl (lv_room hr) hd ⟨h1, h2⟩) hS (fun r w H1 locs1 hp hw hS1 => kk r w hp p e s m args below meth c H1 locs1 ls C hS1 hw hlv)
/-- a call of a constructor -/
theorem j_callI {Y1 : YT} {k d1 mc1 ms1 idx b : Nat} {As rest : List Value} {post1 : OT} (hd : decode Y.2.1 pc = .ok (.invokespecial idx, 3)) (hF : Cond.methodLink Y.1.cls idx Y1.1 ∈ BW) (hY : CY Y1 k) (hI : Cond.instanceMethod Y1.1 ∈ BW) (hnm : Y1.1.name = "<init>") (hre : Y1.2.2.2 = none) (hM : JM G Y1 d1 mc1 ms1 (.ref b :: As) ws post1) (hn : pc + 3 = n) (hst : st = As.reverse ++ .ref b :: rest) (hk : As.length = k) (hd1 : d1 + 1 ≤ d) (h1 : kc + mc1 ≤ mc) (h2 : ks + ms1 ≤ ms) (hr : (rest.map fun v => v.category).sum ≤ 8)
    (kk : ∀ (r : Option Value) (w : va_W), post1 r w → JJ G Y d mc ms post n lv (r.toList ++ rest) w (kc + mc1) (ks + ms1)) : JJ G Y d mc ms post pc lv st ws kc ks := by
  subst hn
  subst hst
  intro p e s m args below meth c H locs ls C hS hW hlv
  have ht := C.2.2.2.2.2.2.2.1
  have hB := cy_B (mc1 := mc1) (ms1 := ms1) (mc := mc) (ms := ms) hY ht hF hd1
  unfold JM at hM
  rw [hre] at hB hM
  exact j_ofRun (va_runI (g := F0 m pc ls (As.reverse ++ .ref b :: rest)) ⟨C.1, C.2.1, C.2.2.1, C.2.2.2.2.2.2.1, ht⟩ hM ⟨hB, hnm, ht _ hI⟩ ⟨jp_blind, jp_at C hS hW⟩ rfl hk hlv.1.1 rfl (lv_room hr) hd ⟨h1, h2⟩) hS (fun r w H1 locs1 hp hw hS1 => kk r w hp p e s m args below meth c H1 locs1 ls C hS1 hw hlv)
/-- the world in another order, or less of it -/
theorem j_world {ws' : va_W} (h : ∀ G : GT, ∀ H : Heap, JW G ws H → JW G ws' H) (kk : JJ G Y d mc ms post pc lv st ws' kc ks) : JJ G Y d mc ms post pc lv st ws kc ks := by
  intro p e s m args below meth c H locs ls C hS hW hlv
  exact kk p e s m args below meth c H locs ls C hS (h G H hW) hlv
end JH
end
section
abbrev Y_X10_init : YT := (yX10_init, cX10_init, 2, none)
theorem cy_X10_init : CY Y_X10_init 0 := ⟨bw_of (i := 58) (w := Cond.code yX10_init cX10_init 2 (none)) (by decide +kernel) rfl, bw_of (i := 38) (w := Cond.initialized yX10_init.cls) (by decide +kernel) rfl, by decide, by decide +kernel, by decide +kernel, by decide +kernel⟩
theorem ci_X10_init : Cond.instanceMethod yX10_init ∈ BW := bw_of (i := 57) (w := Cond.instanceMethod yX10_init) (by decide +kernel) rfl
abbrev Y_X7_init : YT := (yX7_init, cX7_init, 1, none)
theorem cy_X7_init : CY Y_X7_init 0 := ⟨bw_of (i := 66) (w := Cond.code yX7_init cX7_init 1 (none)) (by decide +kernel) rfl, bw_of (i := 39) (w := Cond.initialized yX7_init.cls) (by decide +kernel) rfl, by decide, by decide +kernel, by decide +kernel, by decide +kernel⟩
theorem ci_X7_init : Cond.instanceMethod yX7_init ∈ BW := bw_of (i := 65) (w := Cond.instanceMethod yX7_init) (by decide +kernel) rfl
abbrev Y_J7_fill_fda19 : YT := (yJ7_fill_fda19, cJ7_fill_fda19, 5, none)
theorem cy_J7_fill_fda19 : CY Y_J7_fill_fda19 4 := ⟨bw_of (i := 70) (w := Cond.code yJ7_fill_fda19 cJ7_fill_fda19 5 (none)) (by decide +kernel) rfl, bw_of (i := 40) (w := Cond.initialized yJ7_fill_fda19.cls) (by decide +kernel) rfl, by decide, by decide +kernel, by decide +kernel, by decide +kernel⟩
theorem cs_J7_fill_fda19 : Cond.static yJ7_fill_fda19 ∈ BW := bw_of (i := 69) (w := Cond.static yJ7_fill_fda19) (by decide +kernel) rfl
abbrev Y_J7_rangeCheck_23922 : YT := (yJ7_rangeCheck_23922, cJ7_rangeCheck_23922, 3, none)
theorem cy_J7_rangeCheck_23922 : CY Y_J7_rangeCheck_23922 3 := ⟨bw_of (i := 73) (w := Cond.code yJ7_rangeCheck_23922 cJ7_rangeCheck_23922 3 (none)) (by decide +kernel) rfl, bw_of (i := 40) (w := Cond.initialized yJ7_rangeCheck_23922.cls) (by decide +kernel) rfl, by decide, by decide +kernel, by decide +kernel, by decide +kernel⟩
theorem cs_J7_rangeCheck_23922 : Cond.static yJ7_rangeCheck_23922 ∈ BW := bw_of (i := 72) (w := Cond.static yJ7_rangeCheck_23922) (by decide +kernel) rfl
abbrev Y_X6_init : YT := (yX6_init, cX6_init, 1, none)
theorem cy_X6_init : CY Y_X6_init 0 := ⟨bw_of (i := 90) (w := Cond.code yX6_init cX6_init 1 (none)) (by decide +kernel) rfl, bw_of (i := 41) (w := Cond.initialized yX6_init.cls) (by decide +kernel) rfl, by decide, by decide +kernel, by decide +kernel, by decide +kernel⟩
theorem ci_X6_init : Cond.instanceMethod yX6_init ∈ BW := bw_of (i := 89) (w := Cond.instanceMethod yX6_init) (by decide +kernel) rfl
abbrev Y_X4_init : YT := (yX4_init, cX4_init, 1, none)
theorem cy_X4_init : CY Y_X4_init 0 := ⟨bw_of (i := 104) (w := Cond.code yX4_init cX4_init 1 (none)) (by decide +kernel) rfl, bw_of (i := 42) (w := Cond.initialized yX4_init.cls) (by decide +kernel) rfl, by decide, by decide +kernel, by decide +kernel, by decide +kernel⟩
theorem ci_X4_init : Cond.instanceMethod yX4_init ∈ BW := bw_of (i := 103) (w := Cond.instanceMethod yX4_init) (by decide +kernel) rfl
abbrev Y_X5_init : YT := (yX5_init, cX5_init, 1, none)
theorem cy_X5_init : CY Y_X5_init 0 := ⟨bw_of (i := 147) (w := Cond.code yX5_init cX5_init 1 (none)) (by decide +kernel) rfl, bw_of (i := 43) (w := Cond.initialized yX5_init.cls) (by decide +kernel) rfl, by decide, by decide +kernel, by decide +kernel, by decide +kernel⟩
theorem ci_X5_init : Cond.instanceMethod yX5_init ∈ BW := bw_of (i := 146) (w := Cond.instanceMethod yX5_init) (by decide +kernel) rfl
abbrev Y_X1_init : YT := (yX1_init, cX1_init, 2, none)
theorem cy_X1_init : CY Y_X1_init 1 := ⟨bw_of (i := 168) (w := Cond.code yX1_init cX1_init 2 (none)) (by decide +kernel) rfl, bw_of (i := 44) (w := Cond.initialized yX1_init.cls) (by decide +kernel) rfl, by decide, by decide +kernel, by decide +kernel, by decide +kernel⟩
theorem ci_X1_init : Cond.instanceMethod yX1_init ∈ BW := bw_of (i := 167) (w := Cond.instanceMethod yX1_init) (by decide +kernel) rfl
abbrev Y_X2_init : YT := (yX2_init, cX2_init, 1, none)
theorem cy_X2_init : CY Y_X2_init 0 := ⟨bw_of (i := 181) (w := Cond.code yX2_init cX2_init 1 (none)) (by decide +kernel) rfl, bw_of (i := 45) (w := Cond.initialized yX2_init.cls) (by decide +kernel) rfl, by decide, by decide +kernel, by decide +kernel, by decide +kernel⟩
theorem ci_X2_init : Cond.instanceMethod yX2_init ∈ BW := bw_of (i := 180) (w := Cond.instanceMethod yX2_init) (by decide +kernel) rfl
abbrev Y_X9_init : YT := (yX9_init, cX9_init, 1, none)
theorem cy_X9_init : CY Y_X9_init 0 := ⟨bw_of (i := 198) (w := Cond.code yX9_init cX9_init 1 (none)) (by decide +kernel) rfl, bw_of (i := 46) (w := Cond.initialized yX9_init.cls) (by decide +kernel) rfl, by decide, by decide +kernel, by decide +kernel, by decide +kernel⟩
theorem ci_X9_init : Cond.instanceMethod yX9_init ∈ BW := bw_of (i := 197) (w := Cond.instanceMethod yX9_init) (by decide +kernel) rfl
abbrev Y_X3_init : YT := (yX3_init, cX3_init, 1, none)
theorem cy_X3_init : CY Y_X3_init 0 := ⟨bw_of (i := 219) (w := Cond.code yX3_init cX3_init 1 (none)) (by decide +kernel) rfl, bw_of (i := 47) (w := Cond.initialized yX3_init.cls) (by decide +kernel) rfl, by decide, by decide +kernel, by decide +kernel, by decide +kernel⟩
theorem ci_X3_init : Cond.instanceMethod yX3_init ∈ BW := bw_of (i := 218) (w := Cond.instanceMethod yX3_init) (by decide +kernel) rfl
abbrev Y_X10_feed : YT := (yX10_feed, cX10_feed, 6, some .int)
theorem cy_X10_feed : CY Y_X10_feed 5 := ⟨bw_of (i := 278) (w := Cond.code yX10_feed cX10_feed 6 (some .int)) (by decide +kernel) rfl, bw_of (i := 38) (w := Cond.initialized yX10_feed.cls) (by decide +kernel) rfl, by decide, by decide +kernel, by decide +kernel, by decide +kernel⟩
theorem ci_X10_feed : CI Y_X10_feed := ⟨bw_of (i := 276) (w := Cond.instanceMethod yX10_feed) (by decide +kernel) rfl, bw_of (i := 277) (w := Cond.selects yX10_feed.cls yX10_feed yX10_feed) (by decide +kernel) rfl⟩
abbrev Y_X10_putBytes : YT := (yX10_putBytes, cX10_putBytes, 3, none)
theorem cy_X10_putBytes : CY Y_X10_putBytes 1 := ⟨bw_of (i := 282) (w := Cond.code yX10_putBytes cX10_putBytes 3 (none)) (by decide +kernel) rfl, bw_of (i := 38) (w := Cond.initialized yX10_putBytes.cls) (by decide +kernel) rfl, by decide, by decide +kernel, by decide +kernel, by decide +kernel⟩
theorem ci_X10_putBytes : CI Y_X10_putBytes := ⟨bw_of (i := 281) (w := Cond.instanceMethod yX10_putBytes) (by decide +kernel) rfl, bw_of (i := 0) (w := Cond.selects yX10_putBytes.cls yX10_putBytes yX10_putBytes) (by decide +kernel) rfl⟩
abbrev Y_X10_end : YT := (yX10_end, cX10_end, 2, some .int)
theorem cy_X10_end : CY Y_X10_end 1 := ⟨bw_of (i := 286) (w := Cond.code yX10_end cX10_end 2 (some .int)) (by decide +kernel) rfl, bw_of (i := 38) (w := Cond.initialized yX10_end.cls) (by decide +kernel) rfl, by decide, by decide +kernel, by decide +kernel, by decide +kernel⟩
theorem ci_X10_end : CI Y_X10_end := ⟨bw_of (i := 284) (w := Cond.instanceMethod yX10_end) (by decide +kernel) rfl, bw_of (i := 285) (w := Cond.selects yX10_end.cls yX10_end yX10_end) (by decide +kernel) rfl⟩
abbrev Y_X10_script : YT := (yX10_script, cX10_script, 3, some .int)
theorem cy_X10_script : CY Y_X10_script 2 := ⟨bw_of (i := 290) (w := Cond.code yX10_script cX10_script 3 (some .int)) (by decide +kernel) rfl, bw_of (i := 38) (w := Cond.initialized yX10_script.cls) (by decide +kernel) rfl, by decide, by decide +kernel, by decide +kernel, by decide +kernel⟩
theorem ci_X10_script : CI Y_X10_script := ⟨bw_of (i := 288) (w := Cond.instanceMethod yX10_script) (by decide +kernel) rfl, bw_of (i := 289) (w := Cond.selects yX10_script.cls yX10_script yX10_script) (by decide +kernel) rfl⟩
abbrev Y_X10_isSign : YT := (yX10_isSign, cX10_isSign, 1, some .boolean)
theorem cy_X10_isSign : CY Y_X10_isSign 1 := ⟨bw_of (i := 293) (w := Cond.code yX10_isSign cX10_isSign 1 (some .boolean)) (by decide +kernel) rfl, bw_of (i := 38) (w := Cond.initialized yX10_isSign.cls) (by decide +kernel) rfl, by decide, by decide +kernel, by decide +kernel, by decide +kernel⟩
theorem cs_X10_isSign : Cond.static yX10_isSign ∈ BW := bw_of (i := 292) (w := Cond.static yX10_isSign) (by decide +kernel) rfl
abbrev Y_X7_changeScript : YT := (yX7_changeScript, cX7_changeScript, 4, some .int)
theorem cy_X7_changeScript : CY Y_X7_changeScript 2 := ⟨bw_of (i := 297) (w := Cond.code yX7_changeScript cX7_changeScript 4 (some .int)) (by decide +kernel) rfl, bw_of (i := 39) (w := Cond.initialized yX7_changeScript.cls) (by decide +kernel) rfl, by decide, by decide +kernel, by decide +kernel, by decide +kernel⟩
theorem ci_X7_changeScript : CI Y_X7_changeScript := ⟨bw_of (i := 295) (w := Cond.instanceMethod yX7_changeScript) (by decide +kernel) rfl, bw_of (i := 296) (w := Cond.selects yX7_changeScript.cls yX7_changeScript yX7_changeScript) (by decide +kernel) rfl⟩
abbrev Y_X7_scriptOf : YT := (yX7_scriptOf, cX7_scriptOf, 2, some .int)
theorem cy_X7_scriptOf : CY Y_X7_scriptOf 1 := ⟨bw_of (i := 301) (w := Cond.code yX7_scriptOf cX7_scriptOf 2 (some .int)) (by decide +kernel) rfl, bw_of (i := 39) (w := Cond.initialized yX7_scriptOf.cls) (by decide +kernel) rfl, by decide, by decide +kernel, by decide +kernel, by decide +kernel⟩
theorem ci_X7_scriptOf : CI Y_X7_scriptOf := ⟨bw_of (i := 299) (w := Cond.instanceMethod yX7_scriptOf) (by decide +kernel) rfl, bw_of (i := 300) (w := Cond.selects yX7_scriptOf.cls yX7_scriptOf yX7_scriptOf) (by decide +kernel) rfl⟩
abbrev Y_X10_seen : YT := (yX10_seen, cX10_seen, 3, some .int)
theorem cy_X10_seen : CY Y_X10_seen 2 := ⟨bw_of (i := 306) (w := Cond.code yX10_seen cX10_seen 3 (some .int)) (by decide +kernel) rfl, bw_of (i := 38) (w := Cond.initialized yX10_seen.cls) (by decide +kernel) rfl, by decide, by decide +kernel, by decide +kernel, by decide +kernel⟩
theorem ci_X10_seen : CI Y_X10_seen := ⟨bw_of (i := 304) (w := Cond.instanceMethod yX10_seen) (by decide +kernel) rfl, bw_of (i := 305) (w := Cond.selects yX10_seen.cls yX10_seen yX10_seen) (by decide +kernel) rfl⟩
abbrev Y_X7_changeHow : YT := (yX7_changeHow, cX7_changeHow, 4, some .int)
theorem cy_X7_changeHow : CY Y_X7_changeHow 2 := ⟨bw_of (i := 310) (w := Cond.code yX7_changeHow cX7_changeHow 4 (some .int)) (by decide +kernel) rfl, bw_of (i := 39) (w := Cond.initialized yX7_changeHow.cls) (by decide +kernel) rfl, by decide, by decide +kernel, by decide +kernel, by decide +kernel⟩
theorem ci_X7_changeHow : CI Y_X7_changeHow := ⟨bw_of (i := 308) (w := Cond.instanceMethod yX7_changeHow) (by decide +kernel) rfl, bw_of (i := 309) (w := Cond.selects yX7_changeHow.cls yX7_changeHow yX7_changeHow) (by decide +kernel) rfl⟩
abbrev Y_X7_howOf : YT := (yX7_howOf, cX7_howOf, 2, some .int)
theorem cy_X7_howOf : CY Y_X7_howOf 1 := ⟨bw_of (i := 314) (w := Cond.code yX7_howOf cX7_howOf 2 (some .int)) (by decide +kernel) rfl, bw_of (i := 39) (w := Cond.initialized yX7_howOf.cls) (by decide +kernel) rfl, by decide, by decide +kernel, by decide +kernel, by decide +kernel⟩
theorem ci_X7_howOf : CI Y_X7_howOf := ⟨bw_of (i := 312) (w := Cond.instanceMethod yX7_howOf) (by decide +kernel) rfl, bw_of (i := 313) (w := Cond.selects yX7_howOf.cls yX7_howOf yX7_howOf) (by decide +kernel) rfl⟩
abbrev Y_X10_confuse : YT := (yX10_confuse, cX10_confuse, 4, some .int)
theorem cy_X10_confuse : CY Y_X10_confuse 3 := ⟨bw_of (i := 318) (w := Cond.code yX10_confuse cX10_confuse 4 (some .int)) (by decide +kernel) rfl, bw_of (i := 38) (w := Cond.initialized yX10_confuse.cls) (by decide +kernel) rfl, by decide, by decide +kernel, by decide +kernel, by decide +kernel⟩
theorem ci_X10_confuse : CI Y_X10_confuse := ⟨bw_of (i := 316) (w := Cond.instanceMethod yX10_confuse) (by decide +kernel) rfl, bw_of (i := 317) (w := Cond.selects yX10_confuse.cls yX10_confuse yX10_confuse) (by decide +kernel) rfl⟩
abbrev Y_X10_isPiece : YT := (yX10_isPiece, cX10_isPiece, 1, some .boolean)
theorem cy_X10_isPiece : CY Y_X10_isPiece 1 := ⟨bw_of (i := 321) (w := Cond.code yX10_isPiece cX10_isPiece 1 (some .boolean)) (by decide +kernel) rfl, bw_of (i := 38) (w := Cond.initialized yX10_isPiece.cls) (by decide +kernel) rfl, by decide, by decide +kernel, by decide +kernel, by decide +kernel⟩
theorem cs_X10_isPiece : Cond.static yX10_isPiece ∈ BW := bw_of (i := 320) (w := Cond.static yX10_isPiece) (by decide +kernel) rfl
abbrev Y_X4_forget : YT := (yX4_forget, cX4_forget, 5, some .int)
theorem cy_X4_forget : CY Y_X4_forget 2 := ⟨bw_of (i := 325) (w := Cond.code yX4_forget cX4_forget 5 (some .int)) (by decide +kernel) rfl, bw_of (i := 42) (w := Cond.initialized yX4_forget.cls) (by decide +kernel) rfl, by decide, by decide +kernel, by decide +kernel, by decide +kernel⟩
theorem ci_X4_forget : CI Y_X4_forget := ⟨bw_of (i := 323) (w := Cond.instanceMethod yX4_forget) (by decide +kernel) rfl, bw_of (i := 324) (w := Cond.selects yX4_forget.cls yX4_forget yX4_forget) (by decide +kernel) rfl⟩
abbrev Y_X4_placeOf : YT := (yX4_placeOf, cX4_placeOf, 4, some .int)
theorem cy_X4_placeOf : CY Y_X4_placeOf 2 := ⟨bw_of (i := 329) (w := Cond.code yX4_placeOf cX4_placeOf 4 (some .int)) (by decide +kernel) rfl, bw_of (i := 42) (w := Cond.initialized yX4_placeOf.cls) (by decide +kernel) rfl, by decide, by decide +kernel, by decide +kernel, by decide +kernel⟩
theorem ci_X4_placeOf : CI Y_X4_placeOf := ⟨bw_of (i := 328) (w := Cond.instanceMethod yX4_placeOf) (by decide +kernel) rfl, bw_of (i := 1) (w := Cond.selects yX4_placeOf.cls yX4_placeOf yX4_placeOf) (by decide +kernel) rfl⟩
abbrev Y_X4_tell : YT := (yX4_tell, cX4_tell, 6, some .int)
theorem cy_X4_tell : CY Y_X4_tell 3 := ⟨bw_of (i := 333) (w := Cond.code yX4_tell cX4_tell 6 (some .int)) (by decide +kernel) rfl, bw_of (i := 42) (w := Cond.initialized yX4_tell.cls) (by decide +kernel) rfl, by decide, by decide +kernel, by decide +kernel, by decide +kernel⟩
theorem ci_X4_tell : CI Y_X4_tell := ⟨bw_of (i := 331) (w := Cond.instanceMethod yX4_tell) (by decide +kernel) rfl, bw_of (i := 332) (w := Cond.selects yX4_tell.cls yX4_tell yX4_tell) (by decide +kernel) rfl⟩
abbrev Y_X10_chain : YT := (yX10_chain, cX10_chain, 4, some .int)
theorem cy_X10_chain : CY Y_X10_chain 2 := ⟨bw_of (i := 337) (w := Cond.code yX10_chain cX10_chain 4 (some .int)) (by decide +kernel) rfl, bw_of (i := 38) (w := Cond.initialized yX10_chain.cls) (by decide +kernel) rfl, by decide, by decide +kernel, by decide +kernel, by decide +kernel⟩
theorem ci_X10_chain : CI Y_X10_chain := ⟨bw_of (i := 335) (w := Cond.instanceMethod yX10_chain) (by decide +kernel) rfl, bw_of (i := 336) (w := Cond.selects yX10_chain.cls yX10_chain yX10_chain) (by decide +kernel) rfl⟩
abbrev Y_X4_closeChains : YT := (yX4_closeChains, cX4_closeChains, 2, none)
theorem cy_X4_closeChains : CY Y_X4_closeChains 0 := ⟨bw_of (i := 341) (w := Cond.code yX4_closeChains cX4_closeChains 2 (none)) (by decide +kernel) rfl, bw_of (i := 42) (w := Cond.initialized yX4_closeChains.cls) (by decide +kernel) rfl, by decide, by decide +kernel, by decide +kernel, by decide +kernel⟩
theorem ci_X4_closeChains : CI Y_X4_closeChains := ⟨bw_of (i := 339) (w := Cond.instanceMethod yX4_closeChains) (by decide +kernel) rfl, bw_of (i := 340) (w := Cond.selects yX4_closeChains.cls yX4_closeChains yX4_closeChains) (by decide +kernel) rfl⟩
abbrev Y_J7_fill_53178 : YT := (yJ7_fill_53178, cJ7_fill_53178, 4, none)
theorem cy_J7_fill_53178 : CY Y_J7_fill_53178 2 := ⟨bw_of (i := 344) (w := Cond.code yJ7_fill_53178 cJ7_fill_53178 4 (none)) (by decide +kernel) rfl, bw_of (i := 40) (w := Cond.initialized yJ7_fill_53178.cls) (by decide +kernel) rfl, by decide, by decide +kernel, by decide +kernel, by decide +kernel⟩
theorem cs_J7_fill_53178 : Cond.static yJ7_fill_53178 ∈ BW := bw_of (i := 343) (w := Cond.static yJ7_fill_53178) (by decide +kernel) rfl
abbrev Y_X4_addPiece : YT := (yX4_addPiece, cX4_addPiece, 3, none)
theorem cy_X4_addPiece : CY Y_X4_addPiece 1 := ⟨bw_of (i := 348) (w := Cond.code yX4_addPiece cX4_addPiece 3 (none)) (by decide +kernel) rfl, bw_of (i := 42) (w := Cond.initialized yX4_addPiece.cls) (by decide +kernel) rfl, by decide, by decide +kernel, by decide +kernel, by decide +kernel⟩
theorem ci_X4_addPiece : CI Y_X4_addPiece := ⟨bw_of (i := 347) (w := Cond.instanceMethod yX4_addPiece) (by decide +kernel) rfl, bw_of (i := 2) (w := Cond.selects yX4_addPiece.cls yX4_addPiece yX4_addPiece) (by decide +kernel) rfl⟩
abbrev Y_X4_leadingSign : YT := (yX4_leadingSign, cX4_leadingSign, 1, some .int)
theorem cy_X4_leadingSign : CY Y_X4_leadingSign 1 := ⟨bw_of (i := 351) (w := Cond.code yX4_leadingSign cX4_leadingSign 1 (some .int)) (by decide +kernel) rfl, bw_of (i := 42) (w := Cond.initialized yX4_leadingSign.cls) (by decide +kernel) rfl, by decide, by decide +kernel, by decide +kernel, by decide +kernel⟩
theorem cs_X4_leadingSign : Cond.static yX4_leadingSign ∈ BW := bw_of (i := 350) (w := Cond.static yX4_leadingSign) (by decide +kernel) rfl
abbrev Y_X4_indexOf : YT := (yX4_indexOf, cX4_indexOf, 5, some .int)
theorem cy_X4_indexOf : CY Y_X4_indexOf 1 := ⟨bw_of (i := 356) (w := Cond.code yX4_indexOf cX4_indexOf 5 (some .int)) (by decide +kernel) rfl, bw_of (i := 42) (w := Cond.initialized yX4_indexOf.cls) (by decide +kernel) rfl, by decide, by decide +kernel, by decide +kernel, by decide +kernel⟩
theorem ci_X4_indexOf : CI Y_X4_indexOf := ⟨bw_of (i := 354) (w := Cond.instanceMethod yX4_indexOf) (by decide +kernel) rfl, bw_of (i := 355) (w := Cond.selects yX4_indexOf.cls yX4_indexOf yX4_indexOf) (by decide +kernel) rfl⟩
abbrev Y_X4_writeSteps : YT := (yX4_writeSteps, cX4_writeSteps, 5, none)
theorem cy_X4_writeSteps : CY Y_X4_writeSteps 0 := ⟨bw_of (i := 360) (w := Cond.code yX4_writeSteps cX4_writeSteps 5 (none)) (by decide +kernel) rfl, bw_of (i := 42) (w := Cond.initialized yX4_writeSteps.cls) (by decide +kernel) rfl, by decide, by decide +kernel, by decide +kernel, by decide +kernel⟩
theorem ci_X4_writeSteps : CI Y_X4_writeSteps := ⟨bw_of (i := 359) (w := Cond.instanceMethod yX4_writeSteps) (by decide +kernel) rfl, bw_of (i := 3) (w := Cond.selects yX4_writeSteps.cls yX4_writeSteps yX4_writeSteps) (by decide +kernel) rfl⟩
abbrev Y_J9_min_7cf53 : YT := (yJ9_min_7cf53, cJ9_min_7cf53, 2, some .int)
theorem cy_J9_min_7cf53 : CY Y_J9_min_7cf53 2 := ⟨bw_of (i := 363) (w := Cond.code yJ9_min_7cf53 cJ9_min_7cf53 2 (some .int)) (by decide +kernel) rfl, bw_of (i := 49) (w := Cond.initialized yJ9_min_7cf53.cls) (by decide +kernel) rfl, by decide, by decide +kernel, by decide +kernel, by decide +kernel⟩
theorem cs_J9_min_7cf53 : Cond.static yJ9_min_7cf53 ∈ BW := bw_of (i := 362) (w := Cond.static yJ9_min_7cf53) (by decide +kernel) rfl
abbrev Y_J9_max_7cf53 : YT := (yJ9_max_7cf53, cJ9_max_7cf53, 2, some .int)
theorem cy_J9_max_7cf53 : CY Y_J9_max_7cf53 2 := ⟨bw_of (i := 366) (w := Cond.code yJ9_max_7cf53 cJ9_max_7cf53 2 (some .int)) (by decide +kernel) rfl, bw_of (i := 49) (w := Cond.initialized yJ9_max_7cf53.cls) (by decide +kernel) rfl, by decide, by decide +kernel, by decide +kernel, by decide +kernel⟩
theorem cs_J9_max_7cf53 : Cond.static yJ9_max_7cf53 ∈ BW := bw_of (i := 365) (w := Cond.static yJ9_max_7cf53) (by decide +kernel) rfl
abbrev Y_X4_goOver : YT := (yX4_goOver, cX4_goOver, 7, none)
theorem cy_X4_goOver : CY Y_X4_goOver 1 := ⟨bw_of (i := 372) (w := Cond.code yX4_goOver cX4_goOver 7 (none)) (by decide +kernel) rfl, bw_of (i := 42) (w := Cond.initialized yX4_goOver.cls) (by decide +kernel) rfl, by decide, by decide +kernel, by decide +kernel, by decide +kernel⟩
theorem ci_X4_goOver : CI Y_X4_goOver := ⟨bw_of (i := 371) (w := Cond.instanceMethod yX4_goOver) (by decide +kernel) rfl, bw_of (i := 4) (w := Cond.selects yX4_goOver.cls yX4_goOver yX4_goOver) (by decide +kernel) rfl⟩
abbrev Y_X4_leastBetween : YT := (yX4_leastBetween, cX4_leastBetween, 3, some .int)
theorem cy_X4_leastBetween : CY Y_X4_leastBetween 2 := ⟨bw_of (i := 377) (w := Cond.code yX4_leastBetween cX4_leastBetween 3 (some .int)) (by decide +kernel) rfl, bw_of (i := 42) (w := Cond.initialized yX4_leastBetween.cls) (by decide +kernel) rfl, by decide, by decide +kernel, by decide +kernel, by decide +kernel⟩
theorem ci_X4_leastBetween : CI Y_X4_leastBetween := ⟨bw_of (i := 375) (w := Cond.instanceMethod yX4_leastBetween) (by decide +kernel) rfl, bw_of (i := 376) (w := Cond.selects yX4_leastBetween.cls yX4_leastBetween yX4_leastBetween) (by decide +kernel) rfl⟩
abbrev Y_X10_allow : YT := (yX10_allow, cX10_allow, 2, some .int)
theorem cy_X10_allow : CY Y_X10_allow 1 := ⟨bw_of (i := 382) (w := Cond.code yX10_allow cX10_allow 2 (some .int)) (by decide +kernel) rfl, bw_of (i := 38) (w := Cond.initialized yX10_allow.cls) (by decide +kernel) rfl, by decide, by decide +kernel, by decide +kernel, by decide +kernel⟩
theorem ci_X10_allow : CI Y_X10_allow := ⟨bw_of (i := 380) (w := Cond.instanceMethod yX10_allow) (by decide +kernel) rfl, bw_of (i := 381) (w := Cond.selects yX10_allow.cls yX10_allow yX10_allow) (by decide +kernel) rfl⟩
abbrev Y_X10_isSet : YT := (yX10_isSet, cX10_isSet, 1, some .boolean)
theorem cy_X10_isSet : CY Y_X10_isSet 1 := ⟨bw_of (i := 385) (w := Cond.code yX10_isSet cX10_isSet 1 (some .boolean)) (by decide +kernel) rfl, bw_of (i := 38) (w := Cond.initialized yX10_isSet.cls) (by decide +kernel) rfl, by decide, by decide +kernel, by decide +kernel, by decide +kernel⟩
theorem cs_X10_isSet : Cond.static yX10_isSet ∈ BW := bw_of (i := 384) (w := Cond.static yX10_isSet) (by decide +kernel) rfl
abbrev Y_X6_add : YT := (yX6_add, cX6_add, 3, some .int)
theorem cy_X6_add : CY Y_X6_add 1 := ⟨bw_of (i := 389) (w := Cond.code yX6_add cX6_add 3 (some .int)) (by decide +kernel) rfl, bw_of (i := 41) (w := Cond.initialized yX6_add.cls) (by decide +kernel) rfl, by decide, by decide +kernel, by decide +kernel, by decide +kernel⟩
theorem ci_X6_add : CI Y_X6_add := ⟨bw_of (i := 387) (w := Cond.instanceMethod yX6_add) (by decide +kernel) rfl, bw_of (i := 388) (w := Cond.selects yX6_add.cls yX6_add yX6_add) (by decide +kernel) rfl⟩
abbrev Y_X10_name : YT := (yX10_name, cX10_name, 2, some .int)
theorem cy_X10_name : CY Y_X10_name 0 := ⟨bw_of (i := 393) (w := Cond.code yX10_name cX10_name 2 (some .int)) (by decide +kernel) rfl, bw_of (i := 38) (w := Cond.initialized yX10_name.cls) (by decide +kernel) rfl, by decide, by decide +kernel, by decide +kernel, by decide +kernel⟩
theorem ci_X10_name : CI Y_X10_name := ⟨bw_of (i := 391) (w := Cond.instanceMethod yX10_name) (by decide +kernel) rfl, bw_of (i := 392) (w := Cond.selects yX10_name.cls yX10_name yX10_name) (by decide +kernel) rfl⟩
abbrev Y_X10_judgeTape : YT := (yX10_judgeTape, cX10_judgeTape, 5, none)
theorem cy_X10_judgeTape : CY Y_X10_judgeTape 1 := ⟨bw_of (i := 397) (w := Cond.code yX10_judgeTape cX10_judgeTape 5 (none)) (by decide +kernel) rfl, bw_of (i := 38) (w := Cond.initialized yX10_judgeTape.cls) (by decide +kernel) rfl, by decide, by decide +kernel, by decide +kernel, by decide +kernel⟩
theorem ci_X10_judgeTape : CI Y_X10_judgeTape := ⟨bw_of (i := 396) (w := Cond.instanceMethod yX10_judgeTape) (by decide +kernel) rfl, bw_of (i := 5) (w := Cond.selects yX10_judgeTape.cls yX10_judgeTape yX10_judgeTape) (by decide +kernel) rfl⟩
abbrev Y_X10_setFault : YT := (yX10_setFault, cX10_setFault, 3, none)
theorem cy_X10_setFault : CY Y_X10_setFault 2 := ⟨bw_of (i := 401) (w := Cond.code yX10_setFault cX10_setFault 3 (none)) (by decide +kernel) rfl, bw_of (i := 38) (w := Cond.initialized yX10_setFault.cls) (by decide +kernel) rfl, by decide, by decide +kernel, by decide +kernel, by decide +kernel⟩
theorem ci_X10_setFault : CI Y_X10_setFault := ⟨bw_of (i := 400) (w := Cond.instanceMethod yX10_setFault) (by decide +kernel) rfl, bw_of (i := 6) (w := Cond.selects yX10_setFault.cls yX10_setFault yX10_setFault) (by decide +kernel) rfl⟩
abbrev Y_X8_init : YT := (yX8_init, cX8_init, 3, none)
theorem cy_X8_init : CY Y_X8_init 2 := ⟨bw_of (i := 407) (w := Cond.code yX8_init cX8_init 3 (none)) (by decide +kernel) rfl, bw_of (i := 50) (w := Cond.initialized yX8_init.cls) (by decide +kernel) rfl, by decide, by decide +kernel, by decide +kernel, by decide +kernel⟩
theorem ci_X8_init : Cond.instanceMethod yX8_init ∈ BW := bw_of (i := 406) (w := Cond.instanceMethod yX8_init) (by decide +kernel) rfl
abbrev Y_J7_copyOf_59c91 : YT := (yJ7_copyOf_59c91, cJ7_copyOf_59c91, 3, some (.array .int))
theorem cy_J7_copyOf_59c91 : CY Y_J7_copyOf_59c91 2 := ⟨bw_of (i := 413) (w := Cond.code yJ7_copyOf_59c91 cJ7_copyOf_59c91 3 (some (.array .int))) (by decide +kernel) rfl, bw_of (i := 40) (w := Cond.initialized yJ7_copyOf_59c91.cls) (by decide +kernel) rfl, by decide, by decide +kernel, by decide +kernel, by decide +kernel⟩
theorem cs_J7_copyOf_59c91 : Cond.static yJ7_copyOf_59c91 ∈ BW := bw_of (i := 412) (w := Cond.static yJ7_copyOf_59c91) (by decide +kernel) rfl
abbrev Y_X8_look : YT := (yX8_look, cX8_look, 6, none)
theorem cy_X8_look : CY Y_X8_look 1 := ⟨bw_of (i := 456) (w := Cond.code yX8_look cX8_look 6 (none)) (by decide +kernel) rfl, bw_of (i := 50) (w := Cond.initialized yX8_look.cls) (by decide +kernel) rfl, by decide, by decide +kernel, by decide +kernel, by decide +kernel⟩
theorem ci_X8_look : CI Y_X8_look := ⟨bw_of (i := 454) (w := Cond.instanceMethod yX8_look) (by decide +kernel) rfl, bw_of (i := 455) (w := Cond.selects yX8_look.cls yX8_look yX8_look) (by decide +kernel) rfl⟩
abbrev Y_X8_turnFrom : YT := (yX8_turnFrom, cX8_turnFrom, 5, none)
theorem cy_X8_turnFrom : CY Y_X8_turnFrom 1 := ⟨bw_of (i := 461) (w := Cond.code yX8_turnFrom cX8_turnFrom 5 (none)) (by decide +kernel) rfl, bw_of (i := 50) (w := Cond.initialized yX8_turnFrom.cls) (by decide +kernel) rfl, by decide, by decide +kernel, by decide +kernel, by decide +kernel⟩
theorem ci_X8_turnFrom : CI Y_X8_turnFrom := ⟨bw_of (i := 460) (w := Cond.instanceMethod yX8_turnFrom) (by decide +kernel) rfl, bw_of (i := 7) (w := Cond.selects yX8_turnFrom.cls yX8_turnFrom yX8_turnFrom) (by decide +kernel) rfl⟩
abbrev Y_X10_fault : YT := (yX10_fault, cX10_fault, 2, some .int)
theorem cy_X10_fault : CY Y_X10_fault 1 := ⟨bw_of (i := 465) (w := Cond.code yX10_fault cX10_fault 2 (some .int)) (by decide +kernel) rfl, bw_of (i := 38) (w := Cond.initialized yX10_fault.cls) (by decide +kernel) rfl, by decide, by decide +kernel, by decide +kernel, by decide +kernel⟩
theorem ci_X10_fault : CI Y_X10_fault := ⟨bw_of (i := 463) (w := Cond.instanceMethod yX10_fault) (by decide +kernel) rfl, bw_of (i := 464) (w := Cond.selects yX10_fault.cls yX10_fault yX10_fault) (by decide +kernel) rfl⟩
abbrev Y_X10_about : YT := (yX10_about, cX10_about, 2, some .int)
theorem cy_X10_about : CY Y_X10_about 1 := ⟨bw_of (i := 469) (w := Cond.code yX10_about cX10_about 2 (some .int)) (by decide +kernel) rfl, bw_of (i := 38) (w := Cond.initialized yX10_about.cls) (by decide +kernel) rfl, by decide, by decide +kernel, by decide +kernel, by decide +kernel⟩
theorem ci_X10_about : CI Y_X10_about := ⟨bw_of (i := 467) (w := Cond.instanceMethod yX10_about) (by decide +kernel) rfl, bw_of (i := 468) (w := Cond.selects yX10_about.cls yX10_about yX10_about) (by decide +kernel) rfl⟩
abbrev Y_X8_scriptBits : YT := (yX8_scriptBits, cX8_scriptBits, 4, some .int)
theorem cy_X8_scriptBits : CY Y_X8_scriptBits 1 := ⟨bw_of (i := 473) (w := Cond.code yX8_scriptBits cX8_scriptBits 4 (some .int)) (by decide +kernel) rfl, bw_of (i := 50) (w := Cond.initialized yX8_scriptBits.cls) (by decide +kernel) rfl, by decide, by decide +kernel, by decide +kernel, by decide +kernel⟩
theorem ci_X8_scriptBits : CI Y_X8_scriptBits := ⟨bw_of (i := 471) (w := Cond.instanceMethod yX8_scriptBits) (by decide +kernel) rfl, bw_of (i := 472) (w := Cond.selects yX8_scriptBits.cls yX8_scriptBits yX8_scriptBits) (by decide +kernel) rfl⟩
abbrev Y_X10_isMixed : YT := (yX10_isMixed, cX10_isMixed, 3, some .boolean)
theorem cy_X10_isMixed : CY Y_X10_isMixed 1 := ⟨bw_of (i := 478) (w := Cond.code yX10_isMixed cX10_isMixed 3 (some .boolean)) (by decide +kernel) rfl, bw_of (i := 38) (w := Cond.initialized yX10_isMixed.cls) (by decide +kernel) rfl, by decide, by decide +kernel, by decide +kernel, by decide +kernel⟩
theorem ci_X10_isMixed : CI Y_X10_isMixed := ⟨bw_of (i := 477) (w := Cond.instanceMethod yX10_isMixed) (by decide +kernel) rfl, bw_of (i := 8) (w := Cond.selects yX10_isMixed.cls yX10_isMixed yX10_isMixed) (by decide +kernel) rfl⟩
abbrev Y_J6_bitCount_0f7a4 : YT := (yJ6_bitCount_0f7a4, cJ6_bitCount_0f7a4, 1, some .int)
theorem cy_J6_bitCount_0f7a4 : CY Y_J6_bitCount_0f7a4 1 := ⟨bw_of (i := 481) (w := Cond.code yJ6_bitCount_0f7a4 cJ6_bitCount_0f7a4 1 (some .int)) (by decide +kernel) rfl, bw_of (i := 52) (w := Cond.initialized yJ6_bitCount_0f7a4.cls) (by decide +kernel) rfl, by decide, by decide +kernel, by decide +kernel, by decide +kernel⟩
theorem cs_J6_bitCount_0f7a4 : Cond.static yJ6_bitCount_0f7a4 ∈ BW := bw_of (i := 480) (w := Cond.static yJ6_bitCount_0f7a4) (by decide +kernel) rfl
abbrev Y_X6_holdTogether : YT := (yX6_holdTogether, cX6_holdTogether, 3, some .boolean)
theorem cy_X6_holdTogether : CY Y_X6_holdTogether 1 := ⟨bw_of (i := 488) (w := Cond.code yX6_holdTogether cX6_holdTogether 3 (some .boolean)) (by decide +kernel) rfl, bw_of (i := 41) (w := Cond.initialized yX6_holdTogether.cls) (by decide +kernel) rfl, by decide, by decide +kernel, by decide +kernel, by decide +kernel⟩
theorem ci_X6_holdTogether : CI Y_X6_holdTogether := ⟨bw_of (i := 486) (w := Cond.instanceMethod yX6_holdTogether) (by decide +kernel) rfl, bw_of (i := 487) (w := Cond.selects yX6_holdTogether.cls yX6_holdTogether yX6_holdTogether) (by decide +kernel) rfl⟩
abbrev Y_X10_bit : YT := (yX10_bit, cX10_bit, 1, some .int)
theorem cy_X10_bit : CY Y_X10_bit 1 := ⟨bw_of (i := 491) (w := Cond.code yX10_bit cX10_bit 1 (some .int)) (by decide +kernel) rfl, bw_of (i := 38) (w := Cond.initialized yX10_bit.cls) (by decide +kernel) rfl, by decide, by decide +kernel, by decide +kernel, by decide +kernel⟩
theorem cs_X10_bit : Cond.static yX10_bit ∈ BW := bw_of (i := 490) (w := Cond.static yX10_bit) (by decide +kernel) rfl
abbrev Y_X8_has : YT := (yX8_has, cX8_has, 4, some .boolean)
theorem cy_X8_has : CY Y_X8_has 2 := ⟨bw_of (i := 495) (w := Cond.code yX8_has cX8_has 4 (some .boolean)) (by decide +kernel) rfl, bw_of (i := 50) (w := Cond.initialized yX8_has.cls) (by decide +kernel) rfl, by decide, by decide +kernel, by decide +kernel, by decide +kernel⟩
theorem ci_X8_has : CI Y_X8_has := ⟨bw_of (i := 493) (w := Cond.instanceMethod yX8_has) (by decide +kernel) rfl, bw_of (i := 494) (w := Cond.selects yX8_has.cls yX8_has yX8_has) (by decide +kernel) rfl⟩
abbrev Y_X8_isPadded : YT := (yX8_isPadded, cX8_isPadded, 2, some .boolean)
theorem cy_X8_isPadded : CY Y_X8_isPadded 1 := ⟨bw_of (i := 499) (w := Cond.code yX8_isPadded cX8_isPadded 2 (some .boolean)) (by decide +kernel) rfl, bw_of (i := 50) (w := Cond.initialized yX8_isPadded.cls) (by decide +kernel) rfl, by decide, by decide +kernel, by decide +kernel, by decide +kernel⟩
theorem ci_X8_isPadded : CI Y_X8_isPadded := ⟨bw_of (i := 497) (w := Cond.instanceMethod yX8_isPadded) (by decide +kernel) rfl, bw_of (i := 498) (w := Cond.selects yX8_isPadded.cls yX8_isPadded yX8_isPadded) (by decide +kernel) rfl⟩
abbrev Y_X8_seenAt : YT := (yX8_seenAt, cX8_seenAt, 2, some .int)
theorem cy_X8_seenAt : CY Y_X8_seenAt 1 := ⟨bw_of (i := 503) (w := Cond.code yX8_seenAt cX8_seenAt 2 (some .int)) (by decide +kernel) rfl, bw_of (i := 50) (w := Cond.initialized yX8_seenAt.cls) (by decide +kernel) rfl, by decide, by decide +kernel, by decide +kernel, by decide +kernel⟩
theorem ci_X8_seenAt : CI Y_X8_seenAt := ⟨bw_of (i := 501) (w := Cond.instanceMethod yX8_seenAt) (by decide +kernel) rfl, bw_of (i := 502) (w := Cond.selects yX8_seenAt.cls yX8_seenAt yX8_seenAt) (by decide +kernel) rfl⟩
abbrev Y_X10_rule : YT := (yX10_rule, cX10_rule, 6, some .int)
theorem cy_X10_rule : CY Y_X10_rule 4 := ⟨bw_of (i := 507) (w := Cond.code yX10_rule cX10_rule 6 (some .int)) (by decide +kernel) rfl, bw_of (i := 38) (w := Cond.initialized yX10_rule.cls) (by decide +kernel) rfl, by decide, by decide +kernel, by decide +kernel, by decide +kernel⟩
theorem ci_X10_rule : CI Y_X10_rule := ⟨bw_of (i := 505) (w := Cond.instanceMethod yX10_rule) (by decide +kernel) rfl, bw_of (i := 506) (w := Cond.selects yX10_rule.cls yX10_rule yX10_rule) (by decide +kernel) rfl⟩
abbrev Y_X10_registerAt : YT := (yX10_registerAt, cX10_registerAt, 2, some (.object "NameGuard$Register"))
theorem cy_X10_registerAt : CY Y_X10_registerAt 1 := ⟨bw_of (i := 511) (w := Cond.code yX10_registerAt cX10_registerAt 2 (some (.object "NameGuard$Register"))) (by decide +kernel) rfl, bw_of (i := 38) (w := Cond.initialized yX10_registerAt.cls) (by decide +kernel) rfl, by decide, by decide +kernel, by decide +kernel, by decide +kernel⟩
theorem ci_X10_registerAt : CI Y_X10_registerAt := ⟨bw_of (i := 510) (w := Cond.instanceMethod yX10_registerAt) (by decide +kernel) rfl, bw_of (i := 9) (w := Cond.selects yX10_registerAt.cls yX10_registerAt yX10_registerAt) (by decide +kernel) rfl⟩
abbrev Y_X10_ask : YT := (yX10_ask, cX10_ask, 3, some .int)
theorem cy_X10_ask : CY Y_X10_ask 2 := ⟨bw_of (i := 515) (w := Cond.code yX10_ask cX10_ask 3 (some .int)) (by decide +kernel) rfl, bw_of (i := 38) (w := Cond.initialized yX10_ask.cls) (by decide +kernel) rfl, by decide, by decide +kernel, by decide +kernel, by decide +kernel⟩
theorem ci_X10_ask : CI Y_X10_ask := ⟨bw_of (i := 513) (w := Cond.instanceMethod yX10_ask) (by decide +kernel) rfl, bw_of (i := 514) (w := Cond.selects yX10_ask.cls yX10_ask yX10_ask) (by decide +kernel) rfl⟩
abbrev Y_X10_verdict : YT := (yX10_verdict, cX10_verdict, 6, some .int)
theorem cy_X10_verdict : CY Y_X10_verdict 2 := ⟨bw_of (i := 519) (w := Cond.code yX10_verdict cX10_verdict 6 (some .int)) (by decide +kernel) rfl, bw_of (i := 38) (w := Cond.initialized yX10_verdict.cls) (by decide +kernel) rfl, by decide, by decide +kernel, by decide +kernel, by decide +kernel⟩
theorem ci_X10_verdict : CI Y_X10_verdict := ⟨bw_of (i := 518) (w := Cond.instanceMethod yX10_verdict) (by decide +kernel) rfl, bw_of (i := 10) (w := Cond.selects yX10_verdict.cls yX10_verdict yX10_verdict) (by decide +kernel) rfl⟩
abbrev Y_X10_isHeld : YT := (yX10_isHeld, cX10_isHeld, 5, some .boolean)
theorem cy_X10_isHeld : CY Y_X10_isHeld 2 := ⟨bw_of (i := 523) (w := Cond.code yX10_isHeld cX10_isHeld 5 (some .boolean)) (by decide +kernel) rfl, bw_of (i := 38) (w := Cond.initialized yX10_isHeld.cls) (by decide +kernel) rfl, by decide, by decide +kernel, by decide +kernel, by decide +kernel⟩
theorem ci_X10_isHeld : CI Y_X10_isHeld := ⟨bw_of (i := 522) (w := Cond.instanceMethod yX10_isHeld) (by decide +kernel) rfl, bw_of (i := 11) (w := Cond.selects yX10_isHeld.cls yX10_isHeld yX10_isHeld) (by decide +kernel) rfl⟩
abbrev Y_X10_standingAt : YT := (yX10_standingAt, cX10_standingAt, 3, some (.object "NameGuard$Entry"))
theorem cy_X10_standingAt : CY Y_X10_standingAt 1 := ⟨bw_of (i := 527) (w := Cond.code yX10_standingAt cX10_standingAt 3 (some (.object "NameGuard$Entry"))) (by decide +kernel) rfl, bw_of (i := 38) (w := Cond.initialized yX10_standingAt.cls) (by decide +kernel) rfl, by decide, by decide +kernel, by decide +kernel, by decide +kernel⟩
theorem ci_X10_standingAt : CI Y_X10_standingAt := ⟨bw_of (i := 526) (w := Cond.instanceMethod yX10_standingAt) (by decide +kernel) rfl, bw_of (i := 12) (w := Cond.selects yX10_standingAt.cls yX10_standingAt yX10_standingAt) (by decide +kernel) rfl⟩
abbrev Y_X10_entryAt : YT := (yX10_entryAt, cX10_entryAt, 2, some (.object "NameGuard$Entry"))
theorem cy_X10_entryAt : CY Y_X10_entryAt 1 := ⟨bw_of (i := 531) (w := Cond.code yX10_entryAt cX10_entryAt 2 (some (.object "NameGuard$Entry"))) (by decide +kernel) rfl, bw_of (i := 38) (w := Cond.initialized yX10_entryAt.cls) (by decide +kernel) rfl, by decide, by decide +kernel, by decide +kernel, by decide +kernel⟩
theorem ci_X10_entryAt : CI Y_X10_entryAt := ⟨bw_of (i := 530) (w := Cond.instanceMethod yX10_entryAt) (by decide +kernel) rfl, bw_of (i := 13) (w := Cond.selects yX10_entryAt.cls yX10_entryAt yX10_entryAt) (by decide +kernel) rfl⟩
abbrev Y_X8_isSeenAs : YT := (yX8_isSeenAs, cX8_isSeenAs, 3, some .boolean)
theorem cy_X8_isSeenAs : CY Y_X8_isSeenAs 1 := ⟨bw_of (i := 535) (w := Cond.code yX8_isSeenAs cX8_isSeenAs 3 (some .boolean)) (by decide +kernel) rfl, bw_of (i := 50) (w := Cond.initialized yX8_isSeenAs.cls) (by decide +kernel) rfl, by decide, by decide +kernel, by decide +kernel, by decide +kernel⟩
theorem ci_X8_isSeenAs : CI Y_X8_isSeenAs := ⟨bw_of (i := 533) (w := Cond.instanceMethod yX8_isSeenAs) (by decide +kernel) rfl, bw_of (i := 534) (w := Cond.selects yX8_isSeenAs.cls yX8_isSeenAs yX8_isSeenAs) (by decide +kernel) rfl⟩
abbrev Y_X10_leastToOthers : YT := (yX10_leastToOthers, cX10_leastToOthers, 9, some .int)
theorem cy_X10_leastToOthers : CY Y_X10_leastToOthers 4 := ⟨bw_of (i := 540) (w := Cond.code yX10_leastToOthers cX10_leastToOthers 9 (some .int)) (by decide +kernel) rfl, bw_of (i := 38) (w := Cond.initialized yX10_leastToOthers.cls) (by decide +kernel) rfl, by decide, by decide +kernel, by decide +kernel, by decide +kernel⟩
theorem ci_X10_leastToOthers : CI Y_X10_leastToOthers := ⟨bw_of (i := 539) (w := Cond.instanceMethod yX10_leastToOthers) (by decide +kernel) rfl, bw_of (i := 14) (w := Cond.selects yX10_leastToOthers.cls yX10_leastToOthers yX10_leastToOthers) (by decide +kernel) rfl⟩
abbrev Y_X10_costBetween : YT := (yX10_costBetween, cX10_costBetween, 4, some .int)
theorem cy_X10_costBetween : CY Y_X10_costBetween 3 := ⟨bw_of (i := 545) (w := Cond.code yX10_costBetween cX10_costBetween 4 (some .int)) (by decide +kernel) rfl, bw_of (i := 38) (w := Cond.initialized yX10_costBetween.cls) (by decide +kernel) rfl, by decide, by decide +kernel, by decide +kernel, by decide +kernel⟩
theorem ci_X10_costBetween : CI Y_X10_costBetween := ⟨bw_of (i := 544) (w := Cond.instanceMethod yX10_costBetween) (by decide +kernel) rfl, bw_of (i := 15) (w := Cond.selects yX10_costBetween.cls yX10_costBetween yX10_costBetween) (by decide +kernel) rfl⟩
abbrev Y_X8_findPieces : YT := (yX8_findPieces, cX8_findPieces, 3, none)
theorem cy_X8_findPieces : CY Y_X8_findPieces 1 := ⟨bw_of (i := 549) (w := Cond.code yX8_findPieces cX8_findPieces 3 (none)) (by decide +kernel) rfl, bw_of (i := 50) (w := Cond.initialized yX8_findPieces.cls) (by decide +kernel) rfl, by decide, by decide +kernel, by decide +kernel, by decide +kernel⟩
theorem ci_X8_findPieces : CI Y_X8_findPieces := ⟨bw_of (i := 547) (w := Cond.instanceMethod yX8_findPieces) (by decide +kernel) rfl, bw_of (i := 548) (w := Cond.selects yX8_findPieces.cls yX8_findPieces yX8_findPieces) (by decide +kernel) rfl⟩
abbrev Y_X8_pieceAt : YT := (yX8_pieceAt, cX8_pieceAt, 3, some .int)
theorem cy_X8_pieceAt : CY Y_X8_pieceAt 2 := ⟨bw_of (i := 554) (w := Cond.code yX8_pieceAt cX8_pieceAt 3 (some .int)) (by decide +kernel) rfl, bw_of (i := 50) (w := Cond.initialized yX8_pieceAt.cls) (by decide +kernel) rfl, by decide, by decide +kernel, by decide +kernel, by decide +kernel⟩
theorem ci_X8_pieceAt : CI Y_X8_pieceAt := ⟨bw_of (i := 552) (w := Cond.instanceMethod yX8_pieceAt) (by decide +kernel) rfl, bw_of (i := 553) (w := Cond.selects yX8_pieceAt.cls yX8_pieceAt yX8_pieceAt) (by decide +kernel) rfl⟩
abbrev Y_X1_leastWithin : YT := (yX1_leastWithin, cX1_leastWithin, 9, some .int)
theorem cy_X1_leastWithin : CY Y_X1_leastWithin 3 := ⟨bw_of (i := 558) (w := Cond.code yX1_leastWithin cX1_leastWithin 9 (some .int)) (by decide +kernel) rfl, bw_of (i := 44) (w := Cond.initialized yX1_leastWithin.cls) (by decide +kernel) rfl, by decide, by decide +kernel, by decide +kernel, by decide +kernel⟩
theorem ci_X1_leastWithin : CI Y_X1_leastWithin := ⟨bw_of (i := 556) (w := Cond.instanceMethod yX1_leastWithin) (by decide +kernel) rfl, bw_of (i := 557) (w := Cond.selects yX1_leastWithin.cls yX1_leastWithin yX1_leastWithin) (by decide +kernel) rfl⟩
abbrev Y_X1_fillRow : YT := (yX1_fillRow, cX1_fillRow, 12, some .int)
theorem cy_X1_fillRow : CY Y_X1_fillRow 3 := ⟨bw_of (i := 564) (w := Cond.code yX1_fillRow cX1_fillRow 12 (some .int)) (by decide +kernel) rfl, bw_of (i := 44) (w := Cond.initialized yX1_fillRow.cls) (by decide +kernel) rfl, by decide, by decide +kernel, by decide +kernel, by decide +kernel⟩
theorem ci_X1_fillRow : CI Y_X1_fillRow := ⟨bw_of (i := 563) (w := Cond.instanceMethod yX1_fillRow) (by decide +kernel) rfl, bw_of (i := 16) (w := Cond.selects yX1_fillRow.cls yX1_fillRow yX1_fillRow) (by decide +kernel) rfl⟩
abbrev Y_X1_costBy : YT := (yX1_costBy, cX1_costBy, 9, some .int)
theorem cy_X1_costBy : CY Y_X1_costBy 5 := ⟨bw_of (i := 570) (w := Cond.code yX1_costBy cX1_costBy 9 (some .int)) (by decide +kernel) rfl, bw_of (i := 44) (w := Cond.initialized yX1_costBy.cls) (by decide +kernel) rfl, by decide, by decide +kernel, by decide +kernel, by decide +kernel⟩
theorem ci_X1_costBy : CI Y_X1_costBy := ⟨bw_of (i := 569) (w := Cond.instanceMethod yX1_costBy) (by decide +kernel) rfl, bw_of (i := 17) (w := Cond.selects yX1_costBy.cls yX1_costBy yX1_costBy) (by decide +kernel) rfl⟩
abbrev Y_X8_pieceIndexAt : YT := (yX8_pieceIndexAt, cX8_pieceIndexAt, 3, some .int)
theorem cy_X8_pieceIndexAt : CY Y_X8_pieceIndexAt 2 := ⟨bw_of (i := 579) (w := Cond.code yX8_pieceIndexAt cX8_pieceIndexAt 3 (some .int)) (by decide +kernel) rfl, bw_of (i := 50) (w := Cond.initialized yX8_pieceIndexAt.cls) (by decide +kernel) rfl, by decide, by decide +kernel, by decide +kernel, by decide +kernel⟩
theorem ci_X8_pieceIndexAt : CI Y_X8_pieceIndexAt := ⟨bw_of (i := 577) (w := Cond.instanceMethod yX8_pieceIndexAt) (by decide +kernel) rfl, bw_of (i := 578) (w := Cond.selects yX8_pieceIndexAt.cls yX8_pieceIndexAt yX8_pieceIndexAt) (by decide +kernel) rfl⟩
abbrev Y_X10_enter : YT := (yX10_enter, cX10_enter, 4, some .int)
theorem cy_X10_enter : CY Y_X10_enter 2 := ⟨bw_of (i := 584) (w := Cond.code yX10_enter cX10_enter 4 (some .int)) (by decide +kernel) rfl, bw_of (i := 38) (w := Cond.initialized yX10_enter.cls) (by decide +kernel) rfl, by decide, by decide +kernel, by decide +kernel, by decide +kernel⟩
theorem ci_X10_enter : CI Y_X10_enter := ⟨bw_of (i := 582) (w := Cond.instanceMethod yX10_enter) (by decide +kernel) rfl, bw_of (i := 583) (w := Cond.selects yX10_enter.cls yX10_enter yX10_enter) (by decide +kernel) rfl⟩
abbrev Y_X0_init : YT := (yX0_init, cX0_init, 4, none)
theorem cy_X0_init : CY Y_X0_init 3 := ⟨bw_of (i := 588) (w := Cond.code yX0_init cX0_init 4 (none)) (by decide +kernel) rfl, bw_of (i := 53) (w := Cond.initialized yX0_init.cls) (by decide +kernel) rfl, by decide, by decide +kernel, by decide +kernel, by decide +kernel⟩
theorem ci_X0_init : Cond.instanceMethod yX0_init ∈ BW := bw_of (i := 587) (w := Cond.instanceMethod yX0_init) (by decide +kernel) rfl
abbrev Y_X10_strike : YT := (yX10_strike, cX10_strike, 3, some .int)
theorem cy_X10_strike : CY Y_X10_strike 1 := ⟨bw_of (i := 610) (w := Cond.code yX10_strike cX10_strike 3 (some .int)) (by decide +kernel) rfl, bw_of (i := 38) (w := Cond.initialized yX10_strike.cls) (by decide +kernel) rfl, by decide, by decide +kernel, by decide +kernel, by decide +kernel⟩
theorem ci_X10_strike : CI Y_X10_strike := ⟨bw_of (i := 608) (w := Cond.instanceMethod yX10_strike) (by decide +kernel) rfl, bw_of (i := 609) (w := Cond.selects yX10_strike.cls yX10_strike yX10_strike) (by decide +kernel) rfl⟩
abbrev Y_X10_entry : YT := (yX10_entry, cX10_entry, 4, some .int)
theorem cy_X10_entry : CY Y_X10_entry 2 := ⟨bw_of (i := 614) (w := Cond.code yX10_entry cX10_entry 4 (some .int)) (by decide +kernel) rfl, bw_of (i := 38) (w := Cond.initialized yX10_entry.cls) (by decide +kernel) rfl, by decide, by decide +kernel, by decide +kernel, by decide +kernel⟩
theorem ci_X10_entry : CI Y_X10_entry := ⟨bw_of (i := 612) (w := Cond.instanceMethod yX10_entry) (by decide +kernel) rfl, bw_of (i := 613) (w := Cond.selects yX10_entry.cls yX10_entry yX10_entry) (by decide +kernel) rfl⟩
abbrev Y_X8_toldAt : YT := (yX8_toldAt, cX8_toldAt, 2, some .int)
theorem cy_X8_toldAt : CY Y_X8_toldAt 1 := ⟨bw_of (i := 618) (w := Cond.code yX8_toldAt cX8_toldAt 2 (some .int)) (by decide +kernel) rfl, bw_of (i := 50) (w := Cond.initialized yX8_toldAt.cls) (by decide +kernel) rfl, by decide, by decide +kernel, by decide +kernel, by decide +kernel⟩
theorem ci_X8_toldAt : CI Y_X8_toldAt := ⟨bw_of (i := 616) (w := Cond.instanceMethod yX8_toldAt) (by decide +kernel) rfl, bw_of (i := 617) (w := Cond.selects yX8_toldAt.cls yX8_toldAt yX8_toldAt) (by decide +kernel) rfl⟩
abbrev Y_X10_far : YT := (yX10_far, cX10_far, 3, some .int)
theorem cy_X10_far : CY Y_X10_far 1 := ⟨bw_of (i := 622) (w := Cond.code yX10_far cX10_far 3 (some .int)) (by decide +kernel) rfl, bw_of (i := 38) (w := Cond.initialized yX10_far.cls) (by decide +kernel) rfl, by decide, by decide +kernel, by decide +kernel, by decide +kernel⟩
theorem ci_X10_far : CI Y_X10_far := ⟨bw_of (i := 620) (w := Cond.instanceMethod yX10_far) (by decide +kernel) rfl, bw_of (i := 621) (w := Cond.selects yX10_far.cls yX10_far yX10_far) (by decide +kernel) rfl⟩
abbrev Y_X10_near : YT := (yX10_near, cX10_near, 6, some .int)
theorem cy_X10_near : CY Y_X10_near 2 := ⟨bw_of (i := 627) (w := Cond.code yX10_near cX10_near 6 (some .int)) (by decide +kernel) rfl, bw_of (i := 38) (w := Cond.initialized yX10_near.cls) (by decide +kernel) rfl, by decide, by decide +kernel, by decide +kernel, by decide +kernel⟩
theorem ci_X10_near : CI Y_X10_near := ⟨bw_of (i := 625) (w := Cond.instanceMethod yX10_near) (by decide +kernel) rfl, bw_of (i := 626) (w := Cond.selects yX10_near.cls yX10_near yX10_near) (by decide +kernel) rfl⟩
abbrev Y_X2_insert : YT := (yX2_insert, cX2_insert, 4, none)
theorem cy_X2_insert : CY Y_X2_insert 2 := ⟨bw_of (i := 631) (w := Cond.code yX2_insert cX2_insert 4 (none)) (by decide +kernel) rfl, bw_of (i := 45) (w := Cond.initialized yX2_insert.cls) (by decide +kernel) rfl, by decide, by decide +kernel, by decide +kernel, by decide +kernel⟩
theorem ci_X2_insert : CI Y_X2_insert := ⟨bw_of (i := 629) (w := Cond.instanceMethod yX2_insert) (by decide +kernel) rfl, bw_of (i := 630) (w := Cond.selects yX2_insert.cls yX2_insert yX2_insert) (by decide +kernel) rfl⟩
abbrev Y_X10_nearest : YT := (yX10_nearest, cX10_nearest, 3, some .int)
theorem cy_X10_nearest : CY Y_X10_nearest 2 := ⟨bw_of (i := 635) (w := Cond.code yX10_nearest cX10_nearest 3 (some .int)) (by decide +kernel) rfl, bw_of (i := 38) (w := Cond.initialized yX10_nearest.cls) (by decide +kernel) rfl, by decide, by decide +kernel, by decide +kernel, by decide +kernel⟩
theorem ci_X10_nearest : CI Y_X10_nearest := ⟨bw_of (i := 633) (w := Cond.instanceMethod yX10_nearest) (by decide +kernel) rfl, bw_of (i := 634) (w := Cond.selects yX10_nearest.cls yX10_nearest yX10_nearest) (by decide +kernel) rfl⟩
abbrev Y_X2_tell : YT := (yX2_tell, cX2_tell, 3, some .int)
theorem cy_X2_tell : CY Y_X2_tell 2 := ⟨bw_of (i := 639) (w := Cond.code yX2_tell cX2_tell 3 (some .int)) (by decide +kernel) rfl, bw_of (i := 45) (w := Cond.initialized yX2_tell.cls) (by decide +kernel) rfl, by decide, by decide +kernel, by decide +kernel, by decide +kernel⟩
theorem ci_X2_tell : CI Y_X2_tell := ⟨bw_of (i := 637) (w := Cond.instanceMethod yX2_tell) (by decide +kernel) rfl, bw_of (i := 638) (w := Cond.selects yX2_tell.cls yX2_tell yX2_tell) (by decide +kernel) rfl⟩
abbrev Y_X10_ways : YT := (yX10_ways, cX10_ways, 3, some .int)
theorem cy_X10_ways : CY Y_X10_ways 1 := ⟨bw_of (i := 643) (w := Cond.code yX10_ways cX10_ways 3 (some .int)) (by decide +kernel) rfl, bw_of (i := 38) (w := Cond.initialized yX10_ways.cls) (by decide +kernel) rfl, by decide, by decide +kernel, by decide +kernel, by decide +kernel⟩
theorem ci_X10_ways : CI Y_X10_ways := ⟨bw_of (i := 641) (w := Cond.instanceMethod yX10_ways) (by decide +kernel) rfl, bw_of (i := 642) (w := Cond.selects yX10_ways.cls yX10_ways yX10_ways) (by decide +kernel) rfl⟩
abbrev Y_X1_writeWay : YT := (yX1_writeWay, cX1_writeWay, 11, none)
theorem cy_X1_writeWay : CY Y_X1_writeWay 3 := ⟨bw_of (i := 647) (w := Cond.code yX1_writeWay cX1_writeWay 11 (none)) (by decide +kernel) rfl, bw_of (i := 44) (w := Cond.initialized yX1_writeWay.cls) (by decide +kernel) rfl, by decide, by decide +kernel, by decide +kernel, by decide +kernel⟩
theorem ci_X1_writeWay : CI Y_X1_writeWay := ⟨bw_of (i := 645) (w := Cond.instanceMethod yX1_writeWay) (by decide +kernel) rfl, bw_of (i := 646) (w := Cond.selects yX1_writeWay.cls yX1_writeWay yX1_writeWay) (by decide +kernel) rfl⟩
abbrev Y_X1_firstShape : YT := (yX1_firstShape, cX1_firstShape, 6, some .int)
theorem cy_X1_firstShape : CY Y_X1_firstShape 4 := ⟨bw_of (i := 651) (w := Cond.code yX1_firstShape cX1_firstShape 6 (some .int)) (by decide +kernel) rfl, bw_of (i := 44) (w := Cond.initialized yX1_firstShape.cls) (by decide +kernel) rfl, by decide, by decide +kernel, by decide +kernel, by decide +kernel⟩
theorem ci_X1_firstShape : CI Y_X1_firstShape := ⟨bw_of (i := 650) (w := Cond.instanceMethod yX1_firstShape) (by decide +kernel) rfl, bw_of (i := 18) (w := Cond.selects yX1_firstShape.cls yX1_firstShape yX1_firstShape) (by decide +kernel) rfl⟩
abbrev Y_X9_add : YT := (yX9_add, cX9_add, 4, none)
theorem cy_X9_add : CY Y_X9_add 3 := ⟨bw_of (i := 656) (w := Cond.code yX9_add cX9_add 4 (none)) (by decide +kernel) rfl, bw_of (i := 46) (w := Cond.initialized yX9_add.cls) (by decide +kernel) rfl, by decide, by decide +kernel, by decide +kernel, by decide +kernel⟩
theorem ci_X9_add : CI Y_X9_add := ⟨bw_of (i := 654) (w := Cond.instanceMethod yX9_add) (by decide +kernel) rfl, bw_of (i := 655) (w := Cond.selects yX9_add.cls yX9_add yX9_add) (by decide +kernel) rfl⟩
abbrev Y_X10_way : YT := (yX10_way, cX10_way, 3, some .int)
theorem cy_X10_way : CY Y_X10_way 2 := ⟨bw_of (i := 660) (w := Cond.code yX10_way cX10_way 3 (some .int)) (by decide +kernel) rfl, bw_of (i := 38) (w := Cond.initialized yX10_way.cls) (by decide +kernel) rfl, by decide, by decide +kernel, by decide +kernel, by decide +kernel⟩
theorem ci_X10_way : CI Y_X10_way := ⟨bw_of (i := 658) (w := Cond.instanceMethod yX10_way) (by decide +kernel) rfl, bw_of (i := 659) (w := Cond.selects yX10_way.cls yX10_way yX10_way) (by decide +kernel) rfl⟩
abbrev Y_X9_tell : YT := (yX9_tell, cX9_tell, 3, some .int)
theorem cy_X9_tell : CY Y_X9_tell 2 := ⟨bw_of (i := 664) (w := Cond.code yX9_tell cX9_tell 3 (some .int)) (by decide +kernel) rfl, bw_of (i := 46) (w := Cond.initialized yX9_tell.cls) (by decide +kernel) rfl, by decide, by decide +kernel, by decide +kernel, by decide +kernel⟩
theorem ci_X9_tell : CI Y_X9_tell := ⟨bw_of (i := 662) (w := Cond.instanceMethod yX9_tell) (by decide +kernel) rfl, bw_of (i := 663) (w := Cond.selects yX9_tell.cls yX9_tell yX9_tell) (by decide +kernel) rfl⟩
abbrev Y_X10_likes : YT := (yX10_likes, cX10_likes, 5, some .int)
theorem cy_X10_likes : CY Y_X10_likes 1 := ⟨bw_of (i := 668) (w := Cond.code yX10_likes cX10_likes 5 (some .int)) (by decide +kernel) rfl, bw_of (i := 38) (w := Cond.initialized yX10_likes.cls) (by decide +kernel) rfl, by decide, by decide +kernel, by decide +kernel, by decide +kernel⟩
theorem ci_X10_likes : CI Y_X10_likes := ⟨bw_of (i := 666) (w := Cond.instanceMethod yX10_likes) (by decide +kernel) rfl, bw_of (i := 667) (w := Cond.selects yX10_likes.cls yX10_likes yX10_likes) (by decide +kernel) rfl⟩
abbrev Y_X10_addPairsOf : YT := (yX10_addPairsOf, cX10_addPairsOf, 7, none)
theorem cy_X10_addPairsOf : CY Y_X10_addPairsOf 3 := ⟨bw_of (i := 672) (w := Cond.code yX10_addPairsOf cX10_addPairsOf 7 (none)) (by decide +kernel) rfl, bw_of (i := 38) (w := Cond.initialized yX10_addPairsOf.cls) (by decide +kernel) rfl, by decide, by decide +kernel, by decide +kernel, by decide +kernel⟩
theorem ci_X10_addPairsOf : CI Y_X10_addPairsOf := ⟨bw_of (i := 671) (w := Cond.instanceMethod yX10_addPairsOf) (by decide +kernel) rfl, bw_of (i := 19) (w := Cond.selects yX10_addPairsOf.cls yX10_addPairsOf yX10_addPairsOf) (by decide +kernel) rfl⟩
abbrev Y_X3_add : YT := (yX3_add, cX3_add, 4, none)
theorem cy_X3_add : CY Y_X3_add 3 := ⟨bw_of (i := 676) (w := Cond.code yX3_add cX3_add 4 (none)) (by decide +kernel) rfl, bw_of (i := 47) (w := Cond.initialized yX3_add.cls) (by decide +kernel) rfl, by decide, by decide +kernel, by decide +kernel, by decide +kernel⟩
theorem ci_X3_add : CI Y_X3_add := ⟨bw_of (i := 674) (w := Cond.instanceMethod yX3_add) (by decide +kernel) rfl, bw_of (i := 675) (w := Cond.selects yX3_add.cls yX3_add yX3_add) (by decide +kernel) rfl⟩
abbrev Y_X10_like : YT := (yX10_like, cX10_like, 3, some .int)
theorem cy_X10_like : CY Y_X10_like 2 := ⟨bw_of (i := 680) (w := Cond.code yX10_like cX10_like 3 (some .int)) (by decide +kernel) rfl, bw_of (i := 38) (w := Cond.initialized yX10_like.cls) (by decide +kernel) rfl, by decide, by decide +kernel, by decide +kernel, by decide +kernel⟩
theorem ci_X10_like : CI Y_X10_like := ⟨bw_of (i := 678) (w := Cond.instanceMethod yX10_like) (by decide +kernel) rfl, bw_of (i := 679) (w := Cond.selects yX10_like.cls yX10_like yX10_like) (by decide +kernel) rfl⟩
abbrev Y_X3_tell : YT := (yX3_tell, cX3_tell, 3, some .int)
theorem cy_X3_tell : CY Y_X3_tell 2 := ⟨bw_of (i := 684) (w := Cond.code yX3_tell cX3_tell 3 (some .int)) (by decide +kernel) rfl, bw_of (i := 47) (w := Cond.initialized yX3_tell.cls) (by decide +kernel) rfl, by decide, by decide +kernel, by decide +kernel, by decide +kernel⟩
theorem ci_X3_tell : CI Y_X3_tell := ⟨bw_of (i := 682) (w := Cond.instanceMethod yX3_tell) (by decide +kernel) rfl, bw_of (i := 683) (w := Cond.selects yX3_tell.cls yX3_tell yX3_tell) (by decide +kernel) rfl⟩
abbrev Y_X10_count : YT := (yX10_count, cX10_count, 2, some .int)
theorem cy_X10_count : CY Y_X10_count 1 := ⟨bw_of (i := 688) (w := Cond.code yX10_count cX10_count 2 (some .int)) (by decide +kernel) rfl, bw_of (i := 38) (w := Cond.initialized yX10_count.cls) (by decide +kernel) rfl, by decide, by decide +kernel, by decide +kernel, by decide +kernel⟩
theorem ci_X10_count : CI Y_X10_count := ⟨bw_of (i := 686) (w := Cond.instanceMethod yX10_count) (by decide +kernel) rfl, bw_of (i := 687) (w := Cond.selects yX10_count.cls yX10_count yX10_count) (by decide +kernel) rfl⟩
abbrev Y_X10_countStanding : YT := (yX10_countStanding, cX10_countStanding, 3, some .int)
theorem cy_X10_countStanding : CY Y_X10_countStanding 0 := ⟨bw_of (i := 692) (w := Cond.code yX10_countStanding cX10_countStanding 3 (some .int)) (by decide +kernel) rfl, bw_of (i := 38) (w := Cond.initialized yX10_countStanding.cls) (by decide +kernel) rfl, by decide, by decide +kernel, by decide +kernel, by decide +kernel⟩
theorem ci_X10_countStanding : CI Y_X10_countStanding := ⟨bw_of (i := 691) (w := Cond.instanceMethod yX10_countStanding) (by decide +kernel) rfl, bw_of (i := 20) (w := Cond.selects yX10_countStanding.cls yX10_countStanding yX10_countStanding) (by decide +kernel) rfl⟩
abbrev Y_X4_countPieces : YT := (yX4_countPieces, cX4_countPieces, 1, some .int)
theorem cy_X4_countPieces : CY Y_X4_countPieces 0 := ⟨bw_of (i := 696) (w := Cond.code yX4_countPieces cX4_countPieces 1 (some .int)) (by decide +kernel) rfl, bw_of (i := 42) (w := Cond.initialized yX4_countPieces.cls) (by decide +kernel) rfl, by decide, by decide +kernel, by decide +kernel, by decide +kernel⟩
theorem ci_X4_countPieces : CI Y_X4_countPieces := ⟨bw_of (i := 694) (w := Cond.instanceMethod yX4_countPieces) (by decide +kernel) rfl, bw_of (i := 695) (w := Cond.selects yX4_countPieces.cls yX4_countPieces yX4_countPieces) (by decide +kernel) rfl⟩
abbrev Y_X10_countOfRegister : YT := (yX10_countOfRegister, cX10_countOfRegister, 3, some .int)
theorem cy_X10_countOfRegister : CY Y_X10_countOfRegister 1 := ⟨bw_of (i := 701) (w := Cond.code yX10_countOfRegister cX10_countOfRegister 3 (some .int)) (by decide +kernel) rfl, bw_of (i := 38) (w := Cond.initialized yX10_countOfRegister.cls) (by decide +kernel) rfl, by decide, by decide +kernel, by decide +kernel, by decide +kernel⟩
theorem ci_X10_countOfRegister : CI Y_X10_countOfRegister := ⟨bw_of (i := 700) (w := Cond.instanceMethod yX10_countOfRegister) (by decide +kernel) rfl, bw_of (i := 21) (w := Cond.selects yX10_countOfRegister.cls yX10_countOfRegister yX10_countOfRegister) (by decide +kernel) rfl⟩
abbrev Y_X11_init : YT := (yX11_init, cX11_init, 2, none)
theorem cy_X11_init : CY Y_X11_init 0 := ⟨bw_of (i := 706) (w := Cond.code yX11_init cX11_init 2 (none)) (by decide +kernel) rfl, bw_of (i := 48) (w := Cond.initialized yX11_init.cls) (by decide +kernel) rfl, by decide, by decide +kernel, by decide +kernel, by decide +kernel⟩
theorem ci_X11_init : Cond.instanceMethod yX11_init ∈ BW := bw_of (i := 705) (w := Cond.instanceMethod yX11_init) (by decide +kernel) rfl
abbrev Y_X11_makeNodes : YT := (yX11_makeNodes, cX11_makeNodes, 5, none)
theorem cy_X11_makeNodes : CY Y_X11_makeNodes 0 := ⟨bw_of (i := 711) (w := Cond.code yX11_makeNodes cX11_makeNodes 5 (none)) (by decide +kernel) rfl, bw_of (i := 48) (w := Cond.initialized yX11_makeNodes.cls) (by decide +kernel) rfl, by decide, by decide +kernel, by decide +kernel, by decide +kernel⟩
theorem ci_X11_makeNodes : CI Y_X11_makeNodes := ⟨bw_of (i := 710) (w := Cond.instanceMethod yX11_makeNodes) (by decide +kernel) rfl, bw_of (i := 22) (w := Cond.selects yX11_makeNodes.cls yX11_makeNodes yX11_makeNodes) (by decide +kernel) rfl⟩
abbrev Y_X11_node : YT := (yX11_node, cX11_node, 2, some .int)
theorem cy_X11_node : CY Y_X11_node 1 := ⟨bw_of (i := 716) (w := Cond.code yX11_node cX11_node 2 (some .int)) (by decide +kernel) rfl, bw_of (i := 48) (w := Cond.initialized yX11_node.cls) (by decide +kernel) rfl, by decide, by decide +kernel, by decide +kernel, by decide +kernel⟩
theorem ci_X11_node : CI Y_X11_node := ⟨bw_of (i := 715) (w := Cond.instanceMethod yX11_node) (by decide +kernel) rfl, bw_of (i := 23) (w := Cond.selects yX11_node.cls yX11_node yX11_node) (by decide +kernel) rfl⟩
abbrev Y_X11_nodeOf : YT := (yX11_nodeOf, cX11_nodeOf, 2, some .int)
theorem cy_X11_nodeOf : CY Y_X11_nodeOf 1 := ⟨bw_of (i := 720) (w := Cond.code yX11_nodeOf cX11_nodeOf 2 (some .int)) (by decide +kernel) rfl, bw_of (i := 48) (w := Cond.initialized yX11_nodeOf.cls) (by decide +kernel) rfl, by decide, by decide +kernel, by decide +kernel, by decide +kernel⟩
theorem ci_X11_nodeOf : CI Y_X11_nodeOf := ⟨bw_of (i := 719) (w := Cond.instanceMethod yX11_nodeOf) (by decide +kernel) rfl, bw_of (i := 24) (w := Cond.selects yX11_nodeOf.cls yX11_nodeOf yX11_nodeOf) (by decide +kernel) rfl⟩
abbrev Y_X11_feed : YT := (yX11_feed, cX11_feed, 9, some .int)
theorem cy_X11_feed : CY Y_X11_feed 5 := ⟨bw_of (i := 853) (w := Cond.code yX11_feed cX11_feed 9 (some .int)) (by decide +kernel) rfl, bw_of (i := 48) (w := Cond.initialized yX11_feed.cls) (by decide +kernel) rfl, by decide, by decide +kernel, by decide +kernel, by decide +kernel⟩
theorem ci_X11_feed : CI Y_X11_feed := ⟨bw_of (i := 851) (w := Cond.instanceMethod yX11_feed) (by decide +kernel) rfl, bw_of (i := 852) (w := Cond.selects yX11_feed.cls yX11_feed yX11_feed) (by decide +kernel) rfl⟩
abbrev Y_X11_end : YT := (yX11_end, cX11_end, 2, some .int)
theorem cy_X11_end : CY Y_X11_end 1 := ⟨bw_of (i := 857) (w := Cond.code yX11_end cX11_end 2 (some .int)) (by decide +kernel) rfl, bw_of (i := 48) (w := Cond.initialized yX11_end.cls) (by decide +kernel) rfl, by decide, by decide +kernel, by decide +kernel, by decide +kernel⟩
theorem ci_X11_end : CI Y_X11_end := ⟨bw_of (i := 855) (w := Cond.instanceMethod yX11_end) (by decide +kernel) rfl, bw_of (i := 856) (w := Cond.selects yX11_end.cls yX11_end yX11_end) (by decide +kernel) rfl⟩
abbrev Y_X11_script : YT := (yX11_script, cX11_script, 4, some .int)
theorem cy_X11_script : CY Y_X11_script 2 := ⟨bw_of (i := 861) (w := Cond.code yX11_script cX11_script 4 (some .int)) (by decide +kernel) rfl, bw_of (i := 48) (w := Cond.initialized yX11_script.cls) (by decide +kernel) rfl, by decide, by decide +kernel, by decide +kernel, by decide +kernel⟩
theorem ci_X11_script : CI Y_X11_script := ⟨bw_of (i := 859) (w := Cond.instanceMethod yX11_script) (by decide +kernel) rfl, bw_of (i := 860) (w := Cond.selects yX11_script.cls yX11_script yX11_script) (by decide +kernel) rfl⟩
abbrev Y_X11_isSign : YT := (yX11_isSign, cX11_isSign, 1, some .boolean)
theorem cy_X11_isSign : CY Y_X11_isSign 1 := ⟨bw_of (i := 864) (w := Cond.code yX11_isSign cX11_isSign 1 (some .boolean)) (by decide +kernel) rfl, bw_of (i := 48) (w := Cond.initialized yX11_isSign.cls) (by decide +kernel) rfl, by decide, by decide +kernel, by decide +kernel, by decide +kernel⟩
theorem cs_X11_isSign : Cond.static yX11_isSign ∈ BW := bw_of (i := 863) (w := Cond.static yX11_isSign) (by decide +kernel) rfl
abbrev Y_X11_in : YT := (yX11_in, cX11_in, 3, some .boolean)
theorem cy_X11_in : CY Y_X11_in 3 := ⟨bw_of (i := 867) (w := Cond.code yX11_in cX11_in 3 (some .boolean)) (by decide +kernel) rfl, bw_of (i := 48) (w := Cond.initialized yX11_in.cls) (by decide +kernel) rfl, by decide, by decide +kernel, by decide +kernel, by decide +kernel⟩
theorem cs_X11_in : Cond.static yX11_in ∈ BW := bw_of (i := 866) (w := Cond.static yX11_in) (by decide +kernel) rfl
abbrev Y_X11_seen : YT := (yX11_seen, cX11_seen, 4, some .int)
theorem cy_X11_seen : CY Y_X11_seen 2 := ⟨bw_of (i := 871) (w := Cond.code yX11_seen cX11_seen 4 (some .int)) (by decide +kernel) rfl, bw_of (i := 48) (w := Cond.initialized yX11_seen.cls) (by decide +kernel) rfl, by decide, by decide +kernel, by decide +kernel, by decide +kernel⟩
theorem ci_X11_seen : CI Y_X11_seen := ⟨bw_of (i := 869) (w := Cond.instanceMethod yX11_seen) (by decide +kernel) rfl, bw_of (i := 870) (w := Cond.selects yX11_seen.cls yX11_seen yX11_seen) (by decide +kernel) rfl⟩
abbrev Y_X11_confuse : YT := (yX11_confuse, cX11_confuse, 6, some .int)
theorem cy_X11_confuse : CY Y_X11_confuse 3 := ⟨bw_of (i := 875) (w := Cond.code yX11_confuse cX11_confuse 6 (some .int)) (by decide +kernel) rfl, bw_of (i := 48) (w := Cond.initialized yX11_confuse.cls) (by decide +kernel) rfl, by decide, by decide +kernel, by decide +kernel, by decide +kernel⟩
theorem ci_X11_confuse : CI Y_X11_confuse := ⟨bw_of (i := 873) (w := Cond.instanceMethod yX11_confuse) (by decide +kernel) rfl, bw_of (i := 874) (w := Cond.selects yX11_confuse.cls yX11_confuse yX11_confuse) (by decide +kernel) rfl⟩
abbrev Y_X11_isPiece : YT := (yX11_isPiece, cX11_isPiece, 1, some .boolean)
theorem cy_X11_isPiece : CY Y_X11_isPiece 1 := ⟨bw_of (i := 878) (w := Cond.code yX11_isPiece cX11_isPiece 1 (some .boolean)) (by decide +kernel) rfl, bw_of (i := 48) (w := Cond.initialized yX11_isPiece.cls) (by decide +kernel) rfl, by decide, by decide +kernel, by decide +kernel, by decide +kernel⟩
theorem cs_X11_isPiece : Cond.static yX11_isPiece ∈ BW := bw_of (i := 877) (w := Cond.static yX11_isPiece) (by decide +kernel) rfl
abbrev Y_X11_find : YT := (yX11_find, cX11_find, 4, some .int)
theorem cy_X11_find : CY Y_X11_find 2 := ⟨bw_of (i := 882) (w := Cond.code yX11_find cX11_find 4 (some .int)) (by decide +kernel) rfl, bw_of (i := 48) (w := Cond.initialized yX11_find.cls) (by decide +kernel) rfl, by decide, by decide +kernel, by decide +kernel, by decide +kernel⟩
theorem ci_X11_find : CI Y_X11_find := ⟨bw_of (i := 881) (w := Cond.instanceMethod yX11_find) (by decide +kernel) rfl, bw_of (i := 25) (w := Cond.selects yX11_find.cls yX11_find yX11_find) (by decide +kernel) rfl⟩
abbrev Y_X11_chain : YT := (yX11_chain, cX11_chain, 4, some .int)
theorem cy_X11_chain : CY Y_X11_chain 2 := ⟨bw_of (i := 886) (w := Cond.code yX11_chain cX11_chain 4 (some .int)) (by decide +kernel) rfl, bw_of (i := 48) (w := Cond.initialized yX11_chain.cls) (by decide +kernel) rfl, by decide, by decide +kernel, by decide +kernel, by decide +kernel⟩
theorem ci_X11_chain : CI Y_X11_chain := ⟨bw_of (i := 884) (w := Cond.instanceMethod yX11_chain) (by decide +kernel) rfl, bw_of (i := 885) (w := Cond.selects yX11_chain.cls yX11_chain yX11_chain) (by decide +kernel) rfl⟩
abbrev Y_X11_chainOf : YT := (yX11_chainOf, cX11_chainOf, 5, some .int)
theorem cy_X11_chainOf : CY Y_X11_chainOf 2 := ⟨bw_of (i := 890) (w := Cond.code yX11_chainOf cX11_chainOf 5 (some .int)) (by decide +kernel) rfl, bw_of (i := 48) (w := Cond.initialized yX11_chainOf.cls) (by decide +kernel) rfl, by decide, by decide +kernel, by decide +kernel, by decide +kernel⟩
theorem ci_X11_chainOf : CI Y_X11_chainOf := ⟨bw_of (i := 889) (w := Cond.instanceMethod yX11_chainOf) (by decide +kernel) rfl, bw_of (i := 26) (w := Cond.selects yX11_chainOf.cls yX11_chainOf yX11_chainOf) (by decide +kernel) rfl⟩
abbrev Y_X11_allow : YT := (yX11_allow, cX11_allow, 3, some .int)
theorem cy_X11_allow : CY Y_X11_allow 1 := ⟨bw_of (i := 894) (w := Cond.code yX11_allow cX11_allow 3 (some .int)) (by decide +kernel) rfl, bw_of (i := 48) (w := Cond.initialized yX11_allow.cls) (by decide +kernel) rfl, by decide, by decide +kernel, by decide +kernel, by decide +kernel⟩
theorem ci_X11_allow : CI Y_X11_allow := ⟨bw_of (i := 892) (w := Cond.instanceMethod yX11_allow) (by decide +kernel) rfl, bw_of (i := 893) (w := Cond.selects yX11_allow.cls yX11_allow yX11_allow) (by decide +kernel) rfl⟩
abbrev Y_X11_name : YT := (yX11_name, cX11_name, 3, some .int)
theorem cy_X11_name : CY Y_X11_name 0 := ⟨bw_of (i := 898) (w := Cond.code yX11_name cX11_name 3 (some .int)) (by decide +kernel) rfl, bw_of (i := 48) (w := Cond.initialized yX11_name.cls) (by decide +kernel) rfl, by decide, by decide +kernel, by decide +kernel, by decide +kernel⟩
theorem ci_X11_name : CI Y_X11_name := ⟨bw_of (i := 896) (w := Cond.instanceMethod yX11_name) (by decide +kernel) rfl, bw_of (i := 897) (w := Cond.selects yX11_name.cls yX11_name yX11_name) (by decide +kernel) rfl⟩
abbrev Y_X11_readName : YT := (yX11_readName, cX11_readName, 4, some .boolean)
theorem cy_X11_readName : CY Y_X11_readName 1 := ⟨bw_of (i := 902) (w := Cond.code yX11_readName cX11_readName 4 (some .boolean)) (by decide +kernel) rfl, bw_of (i := 48) (w := Cond.initialized yX11_readName.cls) (by decide +kernel) rfl, by decide, by decide +kernel, by decide +kernel, by decide +kernel⟩
theorem ci_X11_readName : CI Y_X11_readName := ⟨bw_of (i := 901) (w := Cond.instanceMethod yX11_readName) (by decide +kernel) rfl, bw_of (i := 27) (w := Cond.selects yX11_readName.cls yX11_readName yX11_readName) (by decide +kernel) rfl⟩
abbrev Y_X11_wrong : YT := (yX11_wrong, cX11_wrong, 3, some .boolean)
theorem cy_X11_wrong : CY Y_X11_wrong 2 := ⟨bw_of (i := 906) (w := Cond.code yX11_wrong cX11_wrong 3 (some .boolean)) (by decide +kernel) rfl, bw_of (i := 48) (w := Cond.initialized yX11_wrong.cls) (by decide +kernel) rfl, by decide, by decide +kernel, by decide +kernel, by decide +kernel⟩
theorem ci_X11_wrong : CI Y_X11_wrong := ⟨bw_of (i := 905) (w := Cond.instanceMethod yX11_wrong) (by decide +kernel) rfl, bw_of (i := 28) (w := Cond.selects yX11_wrong.cls yX11_wrong yX11_wrong) (by decide +kernel) rfl⟩
abbrev Y_X11_see : YT := (yX11_see, cX11_see, 8, some .int)
theorem cy_X11_see : CY Y_X11_see 2 := ⟨bw_of (i := 910) (w := Cond.code yX11_see cX11_see 8 (some .int)) (by decide +kernel) rfl, bw_of (i := 48) (w := Cond.initialized yX11_see.cls) (by decide +kernel) rfl, by decide, by decide +kernel, by decide +kernel, by decide +kernel⟩
theorem ci_X11_see : CI Y_X11_see := ⟨bw_of (i := 909) (w := Cond.instanceMethod yX11_see) (by decide +kernel) rfl, bw_of (i := 29) (w := Cond.selects yX11_see.cls yX11_see yX11_see) (by decide +kernel) rfl⟩
abbrev Y_X11_turn : YT := (yX11_turn, cX11_turn, 6, none)
theorem cy_X11_turn : CY Y_X11_turn 3 := ⟨bw_of (i := 913) (w := Cond.code yX11_turn cX11_turn 6 (none)) (by decide +kernel) rfl, bw_of (i := 48) (w := Cond.initialized yX11_turn.cls) (by decide +kernel) rfl, by decide, by decide +kernel, by decide +kernel, by decide +kernel⟩
theorem cs_X11_turn : Cond.static yX11_turn ∈ BW := bw_of (i := 912) (w := Cond.static yX11_turn) (by decide +kernel) rfl
abbrev Y_X11_fault : YT := (yX11_fault, cX11_fault, 2, some .int)
theorem cy_X11_fault : CY Y_X11_fault 1 := ⟨bw_of (i := 917) (w := Cond.code yX11_fault cX11_fault 2 (some .int)) (by decide +kernel) rfl, bw_of (i := 48) (w := Cond.initialized yX11_fault.cls) (by decide +kernel) rfl, by decide, by decide +kernel, by decide +kernel, by decide +kernel⟩
theorem ci_X11_fault : CI Y_X11_fault := ⟨bw_of (i := 915) (w := Cond.instanceMethod yX11_fault) (by decide +kernel) rfl, bw_of (i := 916) (w := Cond.selects yX11_fault.cls yX11_fault yX11_fault) (by decide +kernel) rfl⟩
abbrev Y_X11_about : YT := (yX11_about, cX11_about, 3, some .int)
theorem cy_X11_about : CY Y_X11_about 1 := ⟨bw_of (i := 921) (w := Cond.code yX11_about cX11_about 3 (some .int)) (by decide +kernel) rfl, bw_of (i := 48) (w := Cond.initialized yX11_about.cls) (by decide +kernel) rfl, by decide, by decide +kernel, by decide +kernel, by decide +kernel⟩
theorem ci_X11_about : CI Y_X11_about := ⟨bw_of (i := 919) (w := Cond.instanceMethod yX11_about) (by decide +kernel) rfl, bw_of (i := 920) (w := Cond.selects yX11_about.cls yX11_about yX11_about) (by decide +kernel) rfl⟩
abbrev Y_X11_scripts : YT := (yX11_scripts, cX11_scripts, 4, some .int)
theorem cy_X11_scripts : CY Y_X11_scripts 0 := ⟨bw_of (i := 925) (w := Cond.code yX11_scripts cX11_scripts 4 (some .int)) (by decide +kernel) rfl, bw_of (i := 48) (w := Cond.initialized yX11_scripts.cls) (by decide +kernel) rfl, by decide, by decide +kernel, by decide +kernel, by decide +kernel⟩
theorem ci_X11_scripts : CI Y_X11_scripts := ⟨bw_of (i := 924) (w := Cond.instanceMethod yX11_scripts) (by decide +kernel) rfl, bw_of (i := 30) (w := Cond.selects yX11_scripts.cls yX11_scripts yX11_scripts) (by decide +kernel) rfl⟩
abbrev Y_X11_isMixed : YT := (yX11_isMixed, cX11_isMixed, 3, some .boolean)
theorem cy_X11_isMixed : CY Y_X11_isMixed 0 := ⟨bw_of (i := 929) (w := Cond.code yX11_isMixed cX11_isMixed 3 (some .boolean)) (by decide +kernel) rfl, bw_of (i := 48) (w := Cond.initialized yX11_isMixed.cls) (by decide +kernel) rfl, by decide, by decide +kernel, by decide +kernel, by decide +kernel⟩
theorem ci_X11_isMixed : CI Y_X11_isMixed := ⟨bw_of (i := 928) (w := Cond.instanceMethod yX11_isMixed) (by decide +kernel) rfl, bw_of (i := 31) (w := Cond.selects yX11_isMixed.cls yX11_isMixed yX11_isMixed) (by decide +kernel) rfl⟩
abbrev Y_X11_has : YT := (yX11_has, cX11_has, 3, some .boolean)
theorem cy_X11_has : CY Y_X11_has 1 := ⟨bw_of (i := 933) (w := Cond.code yX11_has cX11_has 3 (some .boolean)) (by decide +kernel) rfl, bw_of (i := 48) (w := Cond.initialized yX11_has.cls) (by decide +kernel) rfl, by decide, by decide +kernel, by decide +kernel, by decide +kernel⟩
theorem ci_X11_has : CI Y_X11_has := ⟨bw_of (i := 932) (w := Cond.instanceMethod yX11_has) (by decide +kernel) rfl, bw_of (i := 32) (w := Cond.selects yX11_has.cls yX11_has yX11_has) (by decide +kernel) rfl⟩
abbrev Y_X11_rule : YT := (yX11_rule, cX11_rule, 5, some .int)
theorem cy_X11_rule : CY Y_X11_rule 4 := ⟨bw_of (i := 937) (w := Cond.code yX11_rule cX11_rule 5 (some .int)) (by decide +kernel) rfl, bw_of (i := 48) (w := Cond.initialized yX11_rule.cls) (by decide +kernel) rfl, by decide, by decide +kernel, by decide +kernel, by decide +kernel⟩
theorem ci_X11_rule : CI Y_X11_rule := ⟨bw_of (i := 935) (w := Cond.instanceMethod yX11_rule) (by decide +kernel) rfl, bw_of (i := 936) (w := Cond.selects yX11_rule.cls yX11_rule yX11_rule) (by decide +kernel) rfl⟩
abbrev Y_X11_isRegister : YT := (yX11_isRegister, cX11_isRegister, 1, some .boolean)
theorem cy_X11_isRegister : CY Y_X11_isRegister 1 := ⟨bw_of (i := 940) (w := Cond.code yX11_isRegister cX11_isRegister 1 (some .boolean)) (by decide +kernel) rfl, bw_of (i := 48) (w := Cond.initialized yX11_isRegister.cls) (by decide +kernel) rfl, by decide, by decide +kernel, by decide +kernel, by decide +kernel⟩
theorem cs_X11_isRegister : Cond.static yX11_isRegister ∈ BW := bw_of (i := 939) (w := Cond.static yX11_isRegister) (by decide +kernel) rfl
abbrev Y_X11_ask : YT := (yX11_ask, cX11_ask, 6, some .int)
theorem cy_X11_ask : CY Y_X11_ask 2 := ⟨bw_of (i := 944) (w := Cond.code yX11_ask cX11_ask 6 (some .int)) (by decide +kernel) rfl, bw_of (i := 48) (w := Cond.initialized yX11_ask.cls) (by decide +kernel) rfl, by decide, by decide +kernel, by decide +kernel, by decide +kernel⟩
theorem ci_X11_ask : CI Y_X11_ask := ⟨bw_of (i := 942) (w := Cond.instanceMethod yX11_ask) (by decide +kernel) rfl, bw_of (i := 943) (w := Cond.selects yX11_ask.cls yX11_ask yX11_ask) (by decide +kernel) rfl⟩
abbrev Y_X11_isIn : YT := (yX11_isIn, cX11_isIn, 3, some .boolean)
theorem cy_X11_isIn : CY Y_X11_isIn 2 := ⟨bw_of (i := 948) (w := Cond.code yX11_isIn cX11_isIn 3 (some .boolean)) (by decide +kernel) rfl, bw_of (i := 48) (w := Cond.initialized yX11_isIn.cls) (by decide +kernel) rfl, by decide, by decide +kernel, by decide +kernel, by decide +kernel⟩
theorem ci_X11_isIn : CI Y_X11_isIn := ⟨bw_of (i := 947) (w := Cond.instanceMethod yX11_isIn) (by decide +kernel) rfl, bw_of (i := 33) (w := Cond.selects yX11_isIn.cls yX11_isIn yX11_isIn) (by decide +kernel) rfl⟩
abbrev Y_X11_isSame : YT := (yX11_isSame, cX11_isSame, 5, some .boolean)
theorem cy_X11_isSame : CY Y_X11_isSame 2 := ⟨bw_of (i := 952) (w := Cond.code yX11_isSame cX11_isSame 5 (some .boolean)) (by decide +kernel) rfl, bw_of (i := 48) (w := Cond.initialized yX11_isSame.cls) (by decide +kernel) rfl, by decide, by decide +kernel, by decide +kernel, by decide +kernel⟩
theorem ci_X11_isSame : CI Y_X11_isSame := ⟨bw_of (i := 951) (w := Cond.instanceMethod yX11_isSame) (by decide +kernel) rfl, bw_of (i := 34) (w := Cond.selects yX11_isSame.cls yX11_isSame yX11_isSame) (by decide +kernel) rfl⟩
abbrev Y_X11_reckon : YT := (yX11_reckon, cX11_reckon, 10, some .int)
theorem cy_X11_reckon : CY Y_X11_reckon 2 := ⟨bw_of (i := 956) (w := Cond.code yX11_reckon cX11_reckon 10 (some .int)) (by decide +kernel) rfl, bw_of (i := 48) (w := Cond.initialized yX11_reckon.cls) (by decide +kernel) rfl, by decide, by decide +kernel, by decide +kernel, by decide +kernel⟩
theorem ci_X11_reckon : CI Y_X11_reckon := ⟨bw_of (i := 955) (w := Cond.instanceMethod yX11_reckon) (by decide +kernel) rfl, bw_of (i := 35) (w := Cond.selects yX11_reckon.cls yX11_reckon yX11_reckon) (by decide +kernel) rfl⟩
abbrev Y_X11_piece : YT := (yX11_piece, cX11_piece, 3, some .int)
theorem cy_X11_piece : CY Y_X11_piece 3 := ⟨bw_of (i := 959) (w := Cond.code yX11_piece cX11_piece 3 (some .int)) (by decide +kernel) rfl, bw_of (i := 48) (w := Cond.initialized yX11_piece.cls) (by decide +kernel) rfl, by decide, by decide +kernel, by decide +kernel, by decide +kernel⟩
theorem cs_X11_piece : Cond.static yX11_piece ∈ BW := bw_of (i := 958) (w := Cond.static yX11_piece) (by decide +kernel) rfl
abbrev Y_X11_enter : YT := (yX11_enter, cX11_enter, 5, some .int)
theorem cy_X11_enter : CY Y_X11_enter 2 := ⟨bw_of (i := 963) (w := Cond.code yX11_enter cX11_enter 5 (some .int)) (by decide +kernel) rfl, bw_of (i := 48) (w := Cond.initialized yX11_enter.cls) (by decide +kernel) rfl, by decide, by decide +kernel, by decide +kernel, by decide +kernel⟩
theorem ci_X11_enter : CI Y_X11_enter := ⟨bw_of (i := 961) (w := Cond.instanceMethod yX11_enter) (by decide +kernel) rfl, bw_of (i := 962) (w := Cond.selects yX11_enter.cls yX11_enter yX11_enter) (by decide +kernel) rfl⟩
abbrev Y_X11_strike : YT := (yX11_strike, cX11_strike, 2, some .int)
theorem cy_X11_strike : CY Y_X11_strike 1 := ⟨bw_of (i := 968) (w := Cond.code yX11_strike cX11_strike 2 (some .int)) (by decide +kernel) rfl, bw_of (i := 48) (w := Cond.initialized yX11_strike.cls) (by decide +kernel) rfl, by decide, by decide +kernel, by decide +kernel, by decide +kernel⟩
theorem ci_X11_strike : CI Y_X11_strike := ⟨bw_of (i := 966) (w := Cond.instanceMethod yX11_strike) (by decide +kernel) rfl, bw_of (i := 967) (w := Cond.selects yX11_strike.cls yX11_strike yX11_strike) (by decide +kernel) rfl⟩
abbrev Y_X11_isEntry : YT := (yX11_isEntry, cX11_isEntry, 2, some .boolean)
theorem cy_X11_isEntry : CY Y_X11_isEntry 1 := ⟨bw_of (i := 972) (w := Cond.code yX11_isEntry cX11_isEntry 2 (some .boolean)) (by decide +kernel) rfl, bw_of (i := 48) (w := Cond.initialized yX11_isEntry.cls) (by decide +kernel) rfl, by decide, by decide +kernel, by decide +kernel, by decide +kernel⟩
theorem ci_X11_isEntry : CI Y_X11_isEntry := ⟨bw_of (i := 971) (w := Cond.instanceMethod yX11_isEntry) (by decide +kernel) rfl, bw_of (i := 36) (w := Cond.selects yX11_isEntry.cls yX11_isEntry yX11_isEntry) (by decide +kernel) rfl⟩
abbrev Y_X11_entry : YT := (yX11_entry, cX11_entry, 3, some .int)
theorem cy_X11_entry : CY Y_X11_entry 2 := ⟨bw_of (i := 976) (w := Cond.code yX11_entry cX11_entry 3 (some .int)) (by decide +kernel) rfl, bw_of (i := 48) (w := Cond.initialized yX11_entry.cls) (by decide +kernel) rfl, by decide, by decide +kernel, by decide +kernel, by decide +kernel⟩
theorem ci_X11_entry : CI Y_X11_entry := ⟨bw_of (i := 974) (w := Cond.instanceMethod yX11_entry) (by decide +kernel) rfl, bw_of (i := 975) (w := Cond.selects yX11_entry.cls yX11_entry yX11_entry) (by decide +kernel) rfl⟩
abbrev Y_X11_far : YT := (yX11_far, cX11_far, 3, some .int)
theorem cy_X11_far : CY Y_X11_far 1 := ⟨bw_of (i := 980) (w := Cond.code yX11_far cX11_far 3 (some .int)) (by decide +kernel) rfl, bw_of (i := 48) (w := Cond.initialized yX11_far.cls) (by decide +kernel) rfl, by decide, by decide +kernel, by decide +kernel, by decide +kernel⟩
theorem ci_X11_far : CI Y_X11_far := ⟨bw_of (i := 978) (w := Cond.instanceMethod yX11_far) (by decide +kernel) rfl, bw_of (i := 979) (w := Cond.selects yX11_far.cls yX11_far yX11_far) (by decide +kernel) rfl⟩
abbrev Y_X11_near : YT := (yX11_near, cX11_near, 6, some .int)
theorem cy_X11_near : CY Y_X11_near 2 := ⟨bw_of (i := 984) (w := Cond.code yX11_near cX11_near 6 (some .int)) (by decide +kernel) rfl, bw_of (i := 48) (w := Cond.initialized yX11_near.cls) (by decide +kernel) rfl, by decide, by decide +kernel, by decide +kernel, by decide +kernel⟩
theorem ci_X11_near : CI Y_X11_near := ⟨bw_of (i := 982) (w := Cond.instanceMethod yX11_near) (by decide +kernel) rfl, bw_of (i := 983) (w := Cond.selects yX11_near.cls yX11_near yX11_near) (by decide +kernel) rfl⟩
abbrev Y_X11_nearest : YT := (yX11_nearest, cX11_nearest, 3, some .int)
theorem cy_X11_nearest : CY Y_X11_nearest 2 := ⟨bw_of (i := 988) (w := Cond.code yX11_nearest cX11_nearest 3 (some .int)) (by decide +kernel) rfl, bw_of (i := 48) (w := Cond.initialized yX11_nearest.cls) (by decide +kernel) rfl, by decide, by decide +kernel, by decide +kernel, by decide +kernel⟩
theorem ci_X11_nearest : CI Y_X11_nearest := ⟨bw_of (i := 986) (w := Cond.instanceMethod yX11_nearest) (by decide +kernel) rfl, bw_of (i := 987) (w := Cond.selects yX11_nearest.cls yX11_nearest yX11_nearest) (by decide +kernel) rfl⟩
abbrev Y_X11_ways : YT := (yX11_ways, cX11_ways, 10, some .int)
theorem cy_X11_ways : CY Y_X11_ways 1 := ⟨bw_of (i := 992) (w := Cond.code yX11_ways cX11_ways 10 (some .int)) (by decide +kernel) rfl, bw_of (i := 48) (w := Cond.initialized yX11_ways.cls) (by decide +kernel) rfl, by decide, by decide +kernel, by decide +kernel, by decide +kernel⟩
theorem ci_X11_ways : CI Y_X11_ways := ⟨bw_of (i := 990) (w := Cond.instanceMethod yX11_ways) (by decide +kernel) rfl, bw_of (i := 991) (w := Cond.selects yX11_ways.cls yX11_ways yX11_ways) (by decide +kernel) rfl⟩
abbrev Y_X11_way : YT := (yX11_way, cX11_way, 3, some .int)
theorem cy_X11_way : CY Y_X11_way 2 := ⟨bw_of (i := 996) (w := Cond.code yX11_way cX11_way 3 (some .int)) (by decide +kernel) rfl, bw_of (i := 48) (w := Cond.initialized yX11_way.cls) (by decide +kernel) rfl, by decide, by decide +kernel, by decide +kernel, by decide +kernel⟩
theorem ci_X11_way : CI Y_X11_way := ⟨bw_of (i := 994) (w := Cond.instanceMethod yX11_way) (by decide +kernel) rfl, bw_of (i := 995) (w := Cond.selects yX11_way.cls yX11_way yX11_way) (by decide +kernel) rfl⟩
abbrev Y_X11_likes : YT := (yX11_likes, cX11_likes, 6, some .int)
theorem cy_X11_likes : CY Y_X11_likes 1 := ⟨bw_of (i := 1000) (w := Cond.code yX11_likes cX11_likes 6 (some .int)) (by decide +kernel) rfl, bw_of (i := 48) (w := Cond.initialized yX11_likes.cls) (by decide +kernel) rfl, by decide, by decide +kernel, by decide +kernel, by decide +kernel⟩
theorem ci_X11_likes : CI Y_X11_likes := ⟨bw_of (i := 998) (w := Cond.instanceMethod yX11_likes) (by decide +kernel) rfl, bw_of (i := 999) (w := Cond.selects yX11_likes.cls yX11_likes yX11_likes) (by decide +kernel) rfl⟩
abbrev Y_X11_like : YT := (yX11_like, cX11_like, 3, some .int)
theorem cy_X11_like : CY Y_X11_like 2 := ⟨bw_of (i := 1004) (w := Cond.code yX11_like cX11_like 3 (some .int)) (by decide +kernel) rfl, bw_of (i := 48) (w := Cond.initialized yX11_like.cls) (by decide +kernel) rfl, by decide, by decide +kernel, by decide +kernel, by decide +kernel⟩
theorem ci_X11_like : CI Y_X11_like := ⟨bw_of (i := 1002) (w := Cond.instanceMethod yX11_like) (by decide +kernel) rfl, bw_of (i := 1003) (w := Cond.selects yX11_like.cls yX11_like yX11_like) (by decide +kernel) rfl⟩
abbrev Y_X11_count : YT := (yX11_count, cX11_count, 4, some .int)
theorem cy_X11_count : CY Y_X11_count 1 := ⟨bw_of (i := 1008) (w := Cond.code yX11_count cX11_count 4 (some .int)) (by decide +kernel) rfl, bw_of (i := 48) (w := Cond.initialized yX11_count.cls) (by decide +kernel) rfl, by decide, by decide +kernel, by decide +kernel, by decide +kernel⟩
theorem ci_X11_count : CI Y_X11_count := ⟨bw_of (i := 1006) (w := Cond.instanceMethod yX11_count) (by decide +kernel) rfl, bw_of (i := 1007) (w := Cond.selects yX11_count.cls yX11_count yX11_count) (by decide +kernel) rfl⟩
theorem a_L_7 : Cond.classLink RL 7 RX10 ∈ BW := bw_of (i := 54) (by decide +kernel) rfl
theorem n_L_7 : NC RL 7 10 := ⟨(RX10, TX10, 15), rfl, a_L_7, bw_of (i := 55) (by decide +kernel) rfl, bw_of (i := 38) (by decide +kernel) rfl⟩
theorem m_L_9 : Cond.methodLink RL 9 yX10_init ∈ BW := bw_of (i := 56) (by decide +kernel) rfl
theorem m_X10_3 : Cond.methodLink RX10 3 objectInit ∈ BW := bw_of (i := 59) (by decide +kernel) rfl
theorem a_X10_17 : Cond.classLink RX10 17 RX7 ∈ BW := bw_of (i := 62) (by decide +kernel) rfl
theorem n_X10_17 : NC RX10 17 7 := ⟨(RX7, TX7, 3), rfl, a_X10_17, bw_of (i := 63) (by decide +kernel) rfl, bw_of (i := 39) (by decide +kernel) rfl⟩
theorem m_X10_19 : Cond.methodLink RX10 19 yX7_init ∈ BW := bw_of (i := 64) (by decide +kernel) rfl
theorem m_X7_3 : Cond.methodLink RX7 3 objectInit ∈ BW := bw_of (i := 67) (by decide +kernel) rfl
theorem m_X7_22 : Cond.methodLink RX7 22 yJ7_fill_fda19 ∈ BW := bw_of (i := 68) (by decide +kernel) rfl
theorem m_J7_13 : Cond.methodLink RJ7 13 yJ7_rangeCheck_23922 ∈ BW := bw_of (i := 71) (by decide +kernel) rfl
theorem f_X7_9 : FG RX7 9 7 0 := ⟨(RX7, TX7, 3), rfl, by decide, bw_of (i := 74) (by decide +kernel) rfl⟩
theorem f_X7_15 : FG RX7 15 7 1 := ⟨(RX7, TX7, 3), rfl, by decide, bw_of (i := 75) (by decide +kernel) rfl⟩
theorem f_X7_18 : FG RX7 18 7 2 := ⟨(RX7, TX7, 3), rfl, by decide, bw_of (i := 76) (by decide +kernel) rfl⟩
theorem f_X8_52 : FGN RX8 52 7 2 := ⟨(RX7, TX7, 3), "NameGuard", rfl, by decide, nw_of (i := 40) (by decide +kernel) rfl⟩
theorem a_X10_24 : Cond.classLink RX10 24 RX6 ∈ BW := bw_of (i := 86) (by decide +kernel) rfl
theorem n_X10_24 : NC RX10 24 6 := ⟨(RX6, TX6, 2), rfl, a_X10_24, bw_of (i := 87) (by decide +kernel) rfl, bw_of (i := 41) (by decide +kernel) rfl⟩
theorem m_X10_26 : Cond.methodLink RX10 26 yX6_init ∈ BW := bw_of (i := 88) (by decide +kernel) rfl
theorem m_X6_3 : Cond.methodLink RX6 3 objectInit ∈ BW := bw_of (i := 91) (by decide +kernel) rfl
theorem f_X6_9 : FG RX6 9 6 0 := ⟨(RX6, TX6, 2), rfl, by decide, bw_of (i := 92) (by decide +kernel) rfl⟩
theorem f_X6_15 : FG RX6 15 6 1 := ⟨(RX6, TX6, 2), rfl, by decide, bw_of (i := 93) (by decide +kernel) rfl⟩
theorem f_X10_283 : FGN RX10 283 6 1 := ⟨(RX6, TX6, 2), "NameGuard", rfl, by decide, nw_of (i := 57) (by decide +kernel) rfl⟩
theorem a_X10_31 : Cond.classLink RX10 31 RX4 ∈ BW := bw_of (i := 100) (by decide +kernel) rfl
theorem n_X10_31 : NC RX10 31 4 := ⟨(RX4, TX4, 11), rfl, a_X10_31, bw_of (i := 101) (by decide +kernel) rfl, bw_of (i := 42) (by decide +kernel) rfl⟩
theorem m_X10_33 : Cond.methodLink RX10 33 yX4_init ∈ BW := bw_of (i := 102) (by decide +kernel) rfl
theorem m_X4_3 : Cond.methodLink RX4 3 objectInit ∈ BW := bw_of (i := 105) (by decide +kernel) rfl
theorem f_X4_9 : FG RX4 9 4 0 := ⟨(RX4, TX4, 11), rfl, by decide, bw_of (i := 106) (by decide +kernel) rfl⟩
theorem f_X4_15 : FG RX4 15 4 1 := ⟨(RX4, TX4, 11), rfl, by decide, bw_of (i := 107) (by decide +kernel) rfl⟩
theorem f_X4_18 : FG RX4 18 4 2 := ⟨(RX4, TX4, 11), rfl, by decide, bw_of (i := 108) (by decide +kernel) rfl⟩
theorem f_X4_21 : FG RX4 21 4 3 := ⟨(RX4, TX4, 11), rfl, by decide, bw_of (i := 109) (by decide +kernel) rfl⟩
theorem f_X10_280 : FGN RX10 280 4 3 := ⟨(RX4, TX4, 11), "NameGuard", rfl, by decide, nw_of (i := 73) (by decide +kernel) rfl⟩
theorem f_X4_25 : FG RX4 25 4 4 := ⟨(RX4, TX4, 11), rfl, by decide, bw_of (i := 111) (by decide +kernel) rfl⟩
theorem f_X8_65 : FGN RX8 65 4 4 := ⟨(RX4, TX4, 11), "NameGuard", rfl, by decide, nw_of (i := 75) (by decide +kernel) rfl⟩
theorem f_X4_28 : FG RX4 28 4 5 := ⟨(RX4, TX4, 11), rfl, by decide, bw_of (i := 113) (by decide +kernel) rfl⟩
theorem f_X4_31 : FG RX4 31 4 6 := ⟨(RX4, TX4, 11), rfl, by decide, bw_of (i := 114) (by decide +kernel) rfl⟩
theorem f_X4_34 : FG RX4 34 4 7 := ⟨(RX4, TX4, 11), rfl, by decide, bw_of (i := 115) (by decide +kernel) rfl⟩
theorem f_X4_37 : FG RX4 37 4 8 := ⟨(RX4, TX4, 11), rfl, by decide, bw_of (i := 116) (by decide +kernel) rfl⟩
theorem f_X4_40 : FG RX4 40 4 9 := ⟨(RX4, TX4, 11), rfl, by decide, bw_of (i := 117) (by decide +kernel) rfl⟩
theorem f_X4_43 : FG RX4 43 4 10 := ⟨(RX4, TX4, 11), rfl, by decide, bw_of (i := 118) (by decide +kernel) rfl⟩
theorem a_X10_48 : Cond.classLink RX10 48 RX5 ∈ BW := bw_of (i := 142) (by decide +kernel) rfl
theorem n_X10_48 : NC RX10 48 5 := ⟨(RX5, TX5, 3), rfl, a_X10_48, bw_of (i := 144) (by decide +kernel) rfl, bw_of (i := 43) (by decide +kernel) rfl⟩
theorem m_X10_54 : Cond.methodLink RX10 54 yX5_init ∈ BW := bw_of (i := 145) (by decide +kernel) rfl
theorem m_X5_1 : Cond.methodLink RX5 1 objectInit ∈ BW := bw_of (i := 148) (by decide +kernel) rfl
theorem f_X5_7 : FG RX5 7 5 0 := ⟨(RX5, TX5, 3), rfl, by decide, bw_of (i := 149) (by decide +kernel) rfl⟩
theorem f_X10_196 : FGN RX10 196 5 0 := ⟨(RX5, TX5, 3), "NameGuard", rfl, by decide, nw_of (i := 113) (by decide +kernel) rfl⟩
theorem f_X5_13 : FG RX5 13 5 1 := ⟨(RX5, TX5, 3), rfl, by decide, bw_of (i := 151) (by decide +kernel) rfl⟩
theorem f_X10_199 : FGN RX10 199 5 1 := ⟨(RX5, TX5, 3), "NameGuard", rfl, by decide, nw_of (i := 115) (by decide +kernel) rfl⟩
theorem f_X5_16 : FG RX5 16 5 2 := ⟨(RX5, TX5, 3), rfl, by decide, bw_of (i := 153) (by decide +kernel) rfl⟩
theorem f_X10_202 : FGN RX10 202 5 2 := ⟨(RX5, TX5, 3), "NameGuard", rfl, by decide, nw_of (i := 117) (by decide +kernel) rfl⟩
theorem a_X10_55 : Cond.classLink RX10 55 RX0 ∈ BW := bw_of (i := 162) (by decide +kernel) rfl
theorem n_X10_55 : NC RX10 55 0 := ⟨(RX0, TX0, 4), rfl, a_X10_55, bw_of (i := 585) (by decide +kernel) rfl, bw_of (i := 53) (by decide +kernel) rfl⟩
theorem a_X10_64 : Cond.classLink RX10 64 RX1 ∈ BW := bw_of (i := 164) (by decide +kernel) rfl
theorem n_X10_64 : NC RX10 64 1 := ⟨(RX1, TX1, 2), rfl, a_X10_64, bw_of (i := 165) (by decide +kernel) rfl, bw_of (i := 44) (by decide +kernel) rfl⟩
theorem m_X10_66 : Cond.methodLink RX10 66 yX1_init ∈ BW := bw_of (i := 166) (by decide +kernel) rfl
theorem m_X1_3 : Cond.methodLink RX1 3 objectInit ∈ BW := bw_of (i := 169) (by decide +kernel) rfl
theorem f_X1_9 : FG RX1 9 1 0 := ⟨(RX1, TX1, 2), rfl, by decide, bw_of (i := 170) (by decide +kernel) rfl⟩
theorem f_X1_15 : FG RX1 15 1 1 := ⟨(RX1, TX1, 2), rfl, by decide, bw_of (i := 171) (by decide +kernel) rfl⟩
theorem a_X10_73 : Cond.classLink RX10 73 RX2 ∈ BW := bw_of (i := 177) (by decide +kernel) rfl
theorem n_X10_73 : NC RX10 73 2 := ⟨(RX2, TX2, 3), rfl, a_X10_73, bw_of (i := 178) (by decide +kernel) rfl, bw_of (i := 45) (by decide +kernel) rfl⟩
theorem m_X10_75 : Cond.methodLink RX10 75 yX2_init ∈ BW := bw_of (i := 179) (by decide +kernel) rfl
theorem m_X2_3 : Cond.methodLink RX2 3 objectInit ∈ BW := bw_of (i := 182) (by decide +kernel) rfl
theorem f_X2_9 : FG RX2 9 2 0 := ⟨(RX2, TX2, 3), rfl, by decide, bw_of (i := 183) (by decide +kernel) rfl⟩
theorem f_X2_15 : FG RX2 15 2 1 := ⟨(RX2, TX2, 3), rfl, by decide, bw_of (i := 184) (by decide +kernel) rfl⟩
theorem f_X2_18 : FG RX2 18 2 2 := ⟨(RX2, TX2, 3), rfl, by decide, bw_of (i := 185) (by decide +kernel) rfl⟩
theorem f_X10_255 : FGN RX10 255 2 2 := ⟨(RX2, TX2, 3), "NameGuard", rfl, by decide, nw_of (i := 149) (by decide +kernel) rfl⟩
theorem a_X10_80 : Cond.classLink RX10 80 RX9 ∈ BW := bw_of (i := 194) (by decide +kernel) rfl
theorem n_X10_80 : NC RX10 80 9 := ⟨(RX9, TX9, 4), rfl, a_X10_80, bw_of (i := 195) (by decide +kernel) rfl, bw_of (i := 46) (by decide +kernel) rfl⟩
theorem m_X10_82 : Cond.methodLink RX10 82 yX9_init ∈ BW := bw_of (i := 196) (by decide +kernel) rfl
theorem m_X9_3 : Cond.methodLink RX9 3 objectInit ∈ BW := bw_of (i := 199) (by decide +kernel) rfl
theorem f_X9_9 : FG RX9 9 9 0 := ⟨(RX9, TX9, 4), rfl, by decide, bw_of (i := 200) (by decide +kernel) rfl⟩
theorem f_X9_15 : FG RX9 15 9 1 := ⟨(RX9, TX9, 4), rfl, by decide, bw_of (i := 201) (by decide +kernel) rfl⟩
theorem f_X9_18 : FG RX9 18 9 2 := ⟨(RX9, TX9, 4), rfl, by decide, bw_of (i := 202) (by decide +kernel) rfl⟩
theorem f_X9_21 : FG RX9 21 9 3 := ⟨(RX9, TX9, 4), rfl, by decide, bw_of (i := 203) (by decide +kernel) rfl⟩
theorem f_X1_67 : FGN RX1 67 9 3 := ⟨(RX9, TX9, 4), "NameGuard", rfl, by decide, nw_of (i := 167) (by decide +kernel) rfl⟩
theorem f_X10_267 : FGN RX10 267 9 3 := ⟨(RX9, TX9, 4), "NameGuard", rfl, by decide, nw_of (i := 168) (by decide +kernel) rfl⟩
theorem a_X10_87 : Cond.classLink RX10 87 RX3 ∈ BW := bw_of (i := 215) (by decide +kernel) rfl
theorem n_X10_87 : NC RX10 87 3 := ⟨(RX3, TX3, 2), rfl, a_X10_87, bw_of (i := 216) (by decide +kernel) rfl, bw_of (i := 47) (by decide +kernel) rfl⟩
theorem m_X10_89 : Cond.methodLink RX10 89 yX3_init ∈ BW := bw_of (i := 217) (by decide +kernel) rfl
theorem m_X3_3 : Cond.methodLink RX3 3 objectInit ∈ BW := bw_of (i := 220) (by decide +kernel) rfl
theorem f_X3_9 : FG RX3 9 3 0 := ⟨(RX3, TX3, 2), rfl, by decide, bw_of (i := 221) (by decide +kernel) rfl⟩
theorem f_X3_15 : FG RX3 15 3 1 := ⟨(RX3, TX3, 2), rfl, by decide, bw_of (i := 222) (by decide +kernel) rfl⟩
theorem f_X10_269 : FGN RX10 269 3 1 := ⟨(RX3, TX3, 2), "NameGuard", rfl, by decide, nw_of (i := 186) (by decide +kernel) rfl⟩
theorem f_X10_9 : FG RX10 9 10 0 := ⟨(RX10, TX10, 15), rfl, by decide, bw_of (i := 229) (by decide +kernel) rfl⟩
theorem f_X10_13 : FG RX10 13 10 1 := ⟨(RX10, TX10, 15), rfl, by decide, bw_of (i := 230) (by decide +kernel) rfl⟩
theorem f_X10_20 : FG RX10 20 10 2 := ⟨(RX10, TX10, 15), rfl, by decide, bw_of (i := 231) (by decide +kernel) rfl⟩
theorem f_X10_27 : FG RX10 27 10 3 := ⟨(RX10, TX10, 15), rfl, by decide, bw_of (i := 232) (by decide +kernel) rfl⟩
theorem f_X10_34 : FG RX10 34 10 4 := ⟨(RX10, TX10, 15), rfl, by decide, bw_of (i := 233) (by decide +kernel) rfl⟩
theorem f_X10_38 : FG RX10 38 10 5 := ⟨(RX10, TX10, 15), rfl, by decide, bw_of (i := 234) (by decide +kernel) rfl⟩
theorem f_X10_42 : FG RX10 42 10 6 := ⟨(RX10, TX10, 15), rfl, by decide, bw_of (i := 235) (by decide +kernel) rfl⟩
theorem f_X10_45 : FG RX10 45 10 7 := ⟨(RX10, TX10, 15), rfl, by decide, bw_of (i := 236) (by decide +kernel) rfl⟩
theorem f_X10_50 : FG RX10 50 10 8 := ⟨(RX10, TX10, 15), rfl, by decide, bw_of (i := 237) (by decide +kernel) rfl⟩
theorem f_X10_57 : FG RX10 57 10 9 := ⟨(RX10, TX10, 15), rfl, by decide, bw_of (i := 238) (by decide +kernel) rfl⟩
theorem f_X10_61 : FG RX10 61 10 10 := ⟨(RX10, TX10, 15), rfl, by decide, bw_of (i := 239) (by decide +kernel) rfl⟩
theorem f_X10_69 : FG RX10 69 10 11 := ⟨(RX10, TX10, 15), rfl, by decide, bw_of (i := 240) (by decide +kernel) rfl⟩
theorem f_X10_76 : FG RX10 76 10 12 := ⟨(RX10, TX10, 15), rfl, by decide, bw_of (i := 241) (by decide +kernel) rfl⟩
theorem f_X10_83 : FG RX10 83 10 13 := ⟨(RX10, TX10, 15), rfl, by decide, bw_of (i := 242) (by decide +kernel) rfl⟩
theorem f_X10_90 : FG RX10 90 10 14 := ⟨(RX10, TX10, 15), rfl, by decide, bw_of (i := 243) (by decide +kernel) rfl⟩
theorem m_L_13 : Cond.methodLink RL 13 yX10_feed ∈ BW := bw_of (i := 275) (by decide +kernel) rfl
theorem m_X10_94 : Cond.methodLink RX10 94 yX10_putBytes ∈ BW := bw_of (i := 279) (by decide +kernel) rfl
theorem m_L_18 : Cond.methodLink RL 18 yX10_end ∈ BW := bw_of (i := 283) (by decide +kernel) rfl
theorem m_L_23 : Cond.methodLink RL 23 yX10_script ∈ BW := bw_of (i := 287) (by decide +kernel) rfl
theorem m_X10_98 : Cond.methodLink RX10 98 yX10_isSign ∈ BW := bw_of (i := 291) (by decide +kernel) rfl
theorem m_X10_102 : Cond.methodLink RX10 102 yX7_changeScript ∈ BW := bw_of (i := 294) (by decide +kernel) rfl
theorem m_X7_32 : Cond.methodLink RX7 32 yX7_scriptOf ∈ BW := bw_of (i := 298) (by decide +kernel) rfl
theorem m_X7_28 : Cond.methodLinkNest RX7 28 yX10_isSign "NameGuard" ∈ NW := nw_of (i := 265) (by decide +kernel) rfl
theorem m_L_28 : Cond.methodLink RL 28 yX10_seen ∈ BW := bw_of (i := 303) (by decide +kernel) rfl
theorem m_X10_106 : Cond.methodLink RX10 106 yX7_changeHow ∈ BW := bw_of (i := 307) (by decide +kernel) rfl
theorem m_X7_36 : Cond.methodLink RX7 36 yX7_howOf ∈ BW := bw_of (i := 311) (by decide +kernel) rfl
theorem m_L_32 : Cond.methodLink RL 32 yX10_confuse ∈ BW := bw_of (i := 315) (by decide +kernel) rfl
theorem m_X10_109 : Cond.methodLink RX10 109 yX10_isPiece ∈ BW := bw_of (i := 319) (by decide +kernel) rfl
theorem m_X10_112 : Cond.methodLink RX10 112 yX4_forget ∈ BW := bw_of (i := 322) (by decide +kernel) rfl
theorem m_X4_46 : Cond.methodLink RX4 46 yX4_placeOf ∈ BW := bw_of (i := 326) (by decide +kernel) rfl
theorem m_X10_115 : Cond.methodLink RX10 115 yX4_tell ∈ BW := bw_of (i := 330) (by decide +kernel) rfl
theorem m_L_37 : Cond.methodLink RL 37 yX10_chain ∈ BW := bw_of (i := 334) (by decide +kernel) rfl
theorem m_X10_119 : Cond.methodLink RX10 119 yX4_closeChains ∈ BW := bw_of (i := 338) (by decide +kernel) rfl
theorem m_X4_53 : Cond.methodLink RX4 53 yJ7_fill_53178 ∈ BW := bw_of (i := 342) (by decide +kernel) rfl
theorem m_X4_59 : Cond.methodLink RX4 59 yX4_addPiece ∈ BW := bw_of (i := 345) (by decide +kernel) rfl
theorem m_X4_69 : Cond.methodLink RX4 69 yX4_leadingSign ∈ BW := bw_of (i := 349) (by decide +kernel) rfl
theorem m_X4_73 : Cond.methodLinkNest RX4 73 yX10_isSign "NameGuard" ∈ NW := nw_of (i := 315) (by decide +kernel) rfl
theorem m_X4_77 : Cond.methodLink RX4 77 yX4_indexOf ∈ BW := bw_of (i := 353) (by decide +kernel) rfl
theorem m_X4_63 : Cond.methodLink RX4 63 yX4_writeSteps ∈ BW := bw_of (i := 357) (by decide +kernel) rfl
theorem m_X4_81 : Cond.methodLink RX4 81 yJ9_min_7cf53 ∈ BW := bw_of (i := 361) (by decide +kernel) rfl
theorem m_X4_86 : Cond.methodLink RX4 86 yJ9_max_7cf53 ∈ BW := bw_of (i := 364) (by decide +kernel) rfl
theorem k_X4_80 : Cond.constant RX4 80 (536870912) ∈ BW := bw_of (i := 367) (by decide +kernel) rfl
theorem m_X4_89 : Cond.methodLink RX4 89 yJ7_fill_fda19 ∈ BW := bw_of (i := 368) (by decide +kernel) rfl
theorem m_X4_66 : Cond.methodLink RX4 66 yX4_goOver ∈ BW := bw_of (i := 369) (by decide +kernel) rfl
theorem m_X10_122 : Cond.methodLink RX10 122 yX4_indexOf ∈ BW := bw_of (i := 373) (by decide +kernel) rfl
theorem m_X10_126 : Cond.methodLink RX10 126 yX4_leastBetween ∈ BW := bw_of (i := 374) (by decide +kernel) rfl
theorem k_X10_129 : Cond.constant RX10 129 (536870912) ∈ BW := bw_of (i := 378) (by decide +kernel) rfl
theorem m_L_41 : Cond.methodLink RL 41 yX10_allow ∈ BW := bw_of (i := 379) (by decide +kernel) rfl
theorem m_X10_130 : Cond.methodLink RX10 130 yX10_isSet ∈ BW := bw_of (i := 383) (by decide +kernel) rfl
theorem m_X10_133 : Cond.methodLink RX10 133 yX6_add ∈ BW := bw_of (i := 386) (by decide +kernel) rfl
theorem m_L_45 : Cond.methodLink RL 45 yX10_name ∈ BW := bw_of (i := 390) (by decide +kernel) rfl
theorem m_X10_136 : Cond.methodLink RX10 136 yX10_judgeTape ∈ BW := bw_of (i := 394) (by decide +kernel) rfl
theorem m_X10_151 : Cond.methodLink RX10 151 yX10_setFault ∈ BW := bw_of (i := 398) (by decide +kernel) rfl
theorem m_X10_155 : Cond.methodLink RX10 155 yX7_howOf ∈ BW := bw_of (i := 402) (by decide +kernel) rfl
theorem a_X10_139 : Cond.classLink RX10 139 RX8 ∈ BW := bw_of (i := 403) (by decide +kernel) rfl
theorem n_X10_139 : NC RX10 139 8 := ⟨(RX8, TX8, 8), rfl, a_X10_139, bw_of (i := 404) (by decide +kernel) rfl, bw_of (i := 50) (by decide +kernel) rfl⟩
theorem m_X10_141 : Cond.methodLink RX10 141 yX8_init ∈ BW := bw_of (i := 405) (by decide +kernel) rfl
theorem m_X8_3 : Cond.methodLink RX8 3 objectInit ∈ BW := bw_of (i := 408) (by decide +kernel) rfl
theorem m_X8_9 : Cond.methodLink RX8 9 yJ9_min_7cf53 ∈ BW := bw_of (i := 409) (by decide +kernel) rfl
theorem m_X8_15 : Cond.methodLink RX8 15 yJ9_max_7cf53 ∈ BW := bw_of (i := 410) (by decide +kernel) rfl
theorem m_X8_24 : Cond.methodLink RX8 24 yJ7_copyOf_59c91 ∈ BW := bw_of (i := 411) (by decide +kernel) rfl
theorem m_J7_304 : Cond.methodLink RJ7 304 yJ9_min_7cf53 ∈ BW := bw_of (i := 421) (by decide +kernel) rfl
theorem f_X8_30 : FG RX8 30 8 0 := ⟨(RX8, TX8, 8), rfl, by decide, bw_of (i := 425) (by decide +kernel) rfl⟩
theorem f_X8_18 : FG RX8 18 8 1 := ⟨(RX8, TX8, 8), rfl, by decide, bw_of (i := 426) (by decide +kernel) rfl⟩
theorem f_X10_158 : FGN RX10 158 8 1 := ⟨(RX8, TX8, 8), "NameGuard", rfl, by decide, nw_of (i := 390) (by decide +kernel) rfl⟩
theorem f_X8_34 : FG RX8 34 8 2 := ⟨(RX8, TX8, 8), rfl, by decide, bw_of (i := 428) (by decide +kernel) rfl⟩
theorem f_X8_43 : FG RX8 43 8 3 := ⟨(RX8, TX8, 8), rfl, by decide, bw_of (i := 429) (by decide +kernel) rfl⟩
theorem f_X1_19 : FGN RX1 19 8 3 := ⟨(RX8, TX8, 8), "NameGuard", rfl, by decide, nw_of (i := 393) (by decide +kernel) rfl⟩
theorem f_X10_148 : FGN RX10 148 8 3 := ⟨(RX8, TX8, 8), "NameGuard", rfl, by decide, nw_of (i := 394) (by decide +kernel) rfl⟩
theorem f_X8_46 : FG RX8 46 8 4 := ⟨(RX8, TX8, 8), rfl, by decide, bw_of (i := 432) (by decide +kernel) rfl⟩
theorem f_X8_37 : FG RX8 37 8 5 := ⟨(RX8, TX8, 8), rfl, by decide, bw_of (i := 433) (by decide +kernel) rfl⟩
theorem f_X8_40 : FG RX8 40 8 6 := ⟨(RX8, TX8, 8), rfl, by decide, bw_of (i := 434) (by decide +kernel) rfl⟩
theorem f_X8_49 : FG RX8 49 8 7 := ⟨(RX8, TX8, 8), rfl, by decide, bw_of (i := 435) (by decide +kernel) rfl⟩
theorem m_X10_144 : Cond.methodLink RX10 144 yX8_look ∈ BW := bw_of (i := 453) (by decide +kernel) rfl
theorem m_X8_57 : Cond.methodLink RX8 57 yX7_howOf ∈ BW := bw_of (i := 457) (by decide +kernel) rfl
theorem m_X8_61 : Cond.methodLink RX8 61 yX8_turnFrom ∈ BW := bw_of (i := 458) (by decide +kernel) rfl
theorem m_L_50 : Cond.methodLink RL 50 yX10_fault ∈ BW := bw_of (i := 462) (by decide +kernel) rfl
theorem m_L_54 : Cond.methodLink RL 54 yX10_about ∈ BW := bw_of (i := 466) (by decide +kernel) rfl
theorem m_X10_161 : Cond.methodLink RX10 161 yX8_scriptBits ∈ BW := bw_of (i := 470) (by decide +kernel) rfl
theorem m_X8_77 : Cond.methodLink RX8 77 yX7_scriptOf ∈ BW := bw_of (i := 474) (by decide +kernel) rfl
theorem m_X10_165 : Cond.methodLink RX10 165 yX10_isMixed ∈ BW := bw_of (i := 475) (by decide +kernel) rfl
theorem m_X10_184 : Cond.methodLink RX10 184 yJ6_bitCount_0f7a4 ∈ BW := bw_of (i := 479) (by decide +kernel) rfl
theorem k_J6_265 : Cond.constant RJ6 265 (1431655765) ∈ BW := bw_of (i := 482) (by decide +kernel) rfl
theorem k_J6_266 : Cond.constant RJ6 266 (858993459) ∈ BW := bw_of (i := 483) (by decide +kernel) rfl
theorem k_J6_267 : Cond.constant RJ6 267 (252645135) ∈ BW := bw_of (i := 484) (by decide +kernel) rfl
theorem m_X10_189 : Cond.methodLink RX10 189 yX6_holdTogether ∈ BW := bw_of (i := 485) (by decide +kernel) rfl
theorem m_X10_169 : Cond.methodLink RX10 169 yX10_bit ∈ BW := bw_of (i := 489) (by decide +kernel) rfl
theorem m_X10_173 : Cond.methodLink RX10 173 yX8_has ∈ BW := bw_of (i := 492) (by decide +kernel) rfl
theorem m_X10_177 : Cond.methodLink RX10 177 yX8_isPadded ∈ BW := bw_of (i := 496) (by decide +kernel) rfl
theorem m_X10_181 : Cond.methodLink RX10 181 yX8_seenAt ∈ BW := bw_of (i := 500) (by decide +kernel) rfl
theorem m_L_58 : Cond.methodLink RL 58 yX10_rule ∈ BW := bw_of (i := 504) (by decide +kernel) rfl
theorem m_X10_192 : Cond.methodLink RX10 192 yX10_registerAt ∈ BW := bw_of (i := 508) (by decide +kernel) rfl
theorem m_L_63 : Cond.methodLink RL 63 yX10_ask ∈ BW := bw_of (i := 512) (by decide +kernel) rfl
theorem m_X10_206 : Cond.methodLink RX10 206 yX10_verdict ∈ BW := bw_of (i := 516) (by decide +kernel) rfl
theorem m_X10_209 : Cond.methodLink RX10 209 yX10_isHeld ∈ BW := bw_of (i := 520) (by decide +kernel) rfl
theorem m_X10_217 : Cond.methodLink RX10 217 yX10_standingAt ∈ BW := bw_of (i := 524) (by decide +kernel) rfl
theorem m_X10_248 : Cond.methodLink RX10 248 yX10_entryAt ∈ BW := bw_of (i := 528) (by decide +kernel) rfl
theorem m_X10_227 : Cond.methodLink RX10 227 yX8_isSeenAs ∈ BW := bw_of (i := 532) (by decide +kernel) rfl
theorem m_X8_74 : Cond.methodLink RX8 74 yX8_seenAt ∈ BW := bw_of (i := 536) (by decide +kernel) rfl
theorem m_X10_213 : Cond.methodLink RX10 213 yX10_leastToOthers ∈ BW := bw_of (i := 537) (by decide +kernel) rfl
theorem m_X10_233 : Cond.methodLink RX10 233 yJ9_min_7cf53 ∈ BW := bw_of (i := 541) (by decide +kernel) rfl
theorem m_X10_238 : Cond.methodLink RX10 238 yX10_costBetween ∈ BW := bw_of (i := 542) (by decide +kernel) rfl
theorem m_X10_294 : Cond.methodLink RX10 294 yX8_findPieces ∈ BW := bw_of (i := 546) (by decide +kernel) rfl
theorem m_X8_68 : Cond.methodLink RX8 68 yX4_indexOf ∈ BW := bw_of (i := 550) (by decide +kernel) rfl
theorem m_X8_71 : Cond.methodLink RX8 71 yX8_pieceAt ∈ BW := bw_of (i := 551) (by decide +kernel) rfl
theorem m_X10_297 : Cond.methodLink RX10 297 yX1_leastWithin ∈ BW := bw_of (i := 555) (by decide +kernel) rfl
theorem k_X1_25 : Cond.constant RX1 25 (536870912) ∈ BW := bw_of (i := 559) (by decide +kernel) rfl
theorem m_X1_26 : Cond.methodLink RX1 26 yJ7_fill_fda19 ∈ BW := bw_of (i := 560) (by decide +kernel) rfl
theorem m_X1_32 : Cond.methodLink RX1 32 yX1_fillRow ∈ BW := bw_of (i := 561) (by decide +kernel) rfl
theorem m_X1_36 : Cond.methodLink RX1 36 yJ9_max_7cf53 ∈ BW := bw_of (i := 565) (by decide +kernel) rfl
theorem m_X1_42 : Cond.methodLink RX1 42 yJ9_min_7cf53 ∈ BW := bw_of (i := 566) (by decide +kernel) rfl
theorem m_X1_45 : Cond.methodLink RX1 45 yX1_costBy ∈ BW := bw_of (i := 567) (by decide +kernel) rfl
theorem f_X1_49 : Cond.fieldLink RX1 49 "NameGuard$Measure" "X_SIGNS" "[I" ∈ BW := bw_of (i := 571) (by decide +kernel) rfl
theorem f_X1_52 : Cond.fieldLink RX1 52 "NameGuard$Measure" "Y_SIGNS" "[I" ∈ BW := bw_of (i := 573) (by decide +kernel) rfl
theorem m_X1_55 : Cond.methodLink RX1 55 yX8_seenAt ∈ BW := bw_of (i := 575) (by decide +kernel) rfl
theorem m_X1_59 : Cond.methodLink RX1 59 yX8_pieceIndexAt ∈ BW := bw_of (i := 576) (by decide +kernel) rfl
theorem m_X1_62 : Cond.methodLink RX1 62 yX4_leastBetween ∈ BW := bw_of (i := 580) (by decide +kernel) rfl
theorem m_L_67 : Cond.methodLink RL 67 yX10_enter ∈ BW := bw_of (i := 581) (by decide +kernel) rfl
theorem m_X10_242 : Cond.methodLink RX10 242 yX0_init ∈ BW := bw_of (i := 586) (by decide +kernel) rfl
theorem m_X0_1 : Cond.methodLink RX0 1 objectInit ∈ BW := bw_of (i := 589) (by decide +kernel) rfl
theorem f_X0_7 : FG RX0 7 0 0 := ⟨(RX0, TX0, 4), rfl, by decide, bw_of (i := 590) (by decide +kernel) rfl⟩
theorem f_X10_221 : FGN RX10 221 0 0 := ⟨(RX0, TX0, 4), "NameGuard", rfl, by decide, nw_of (i := 554) (by decide +kernel) rfl⟩
theorem f_X0_13 : FG RX0 13 0 1 := ⟨(RX0, TX0, 4), rfl, by decide, bw_of (i := 592) (by decide +kernel) rfl⟩
theorem f_X10_230 : FGN RX10 230 0 1 := ⟨(RX0, TX0, 4), "NameGuard", rfl, by decide, nw_of (i := 556) (by decide +kernel) rfl⟩
theorem f_X0_16 : FG RX0 16 0 2 := ⟨(RX0, TX0, 4), rfl, by decide, bw_of (i := 594) (by decide +kernel) rfl⟩
theorem f_X10_224 : FGN RX10 224 0 2 := ⟨(RX0, TX0, 4), "NameGuard", rfl, by decide, nw_of (i := 558) (by decide +kernel) rfl⟩
theorem f_X0_20 : FG RX0 20 0 3 := ⟨(RX0, TX0, 4), rfl, by decide, bw_of (i := 596) (by decide +kernel) rfl⟩
theorem f_X10_245 : FGN RX10 245 0 3 := ⟨(RX0, TX0, 4), "NameGuard", rfl, by decide, nw_of (i := 560) (by decide +kernel) rfl⟩
theorem m_L_71 : Cond.methodLink RL 71 yX10_strike ∈ BW := bw_of (i := 607) (by decide +kernel) rfl
theorem m_L_75 : Cond.methodLink RL 75 yX10_entry ∈ BW := bw_of (i := 611) (by decide +kernel) rfl
theorem m_X10_251 : Cond.methodLink RX10 251 yX8_toldAt ∈ BW := bw_of (i := 615) (by decide +kernel) rfl
theorem m_L_79 : Cond.methodLink RL 79 yX10_far ∈ BW := bw_of (i := 619) (by decide +kernel) rfl
theorem k_X10_254 : Cond.constant RX10 254 (536870911) ∈ BW := bw_of (i := 623) (by decide +kernel) rfl
theorem m_L_83 : Cond.methodLink RL 83 yX10_near ∈ BW := bw_of (i := 624) (by decide +kernel) rfl
theorem m_X10_258 : Cond.methodLink RX10 258 yX2_insert ∈ BW := bw_of (i := 628) (by decide +kernel) rfl
theorem m_L_87 : Cond.methodLink RL 87 yX10_nearest ∈ BW := bw_of (i := 632) (by decide +kernel) rfl
theorem m_X10_261 : Cond.methodLink RX10 261 yX2_tell ∈ BW := bw_of (i := 636) (by decide +kernel) rfl
theorem m_L_91 : Cond.methodLink RL 91 yX10_ways ∈ BW := bw_of (i := 640) (by decide +kernel) rfl
theorem m_X10_263 : Cond.methodLink RX10 263 yX1_writeWay ∈ BW := bw_of (i := 644) (by decide +kernel) rfl
theorem m_X1_72 : Cond.methodLink RX1 72 yX1_firstShape ∈ BW := bw_of (i := 648) (by decide +kernel) rfl
theorem m_X1_76 : Cond.methodLink RX1 76 yX8_pieceAt ∈ BW := bw_of (i := 652) (by decide +kernel) rfl
theorem m_X1_79 : Cond.methodLink RX1 79 yX9_add ∈ BW := bw_of (i := 653) (by decide +kernel) rfl
theorem m_L_95 : Cond.methodLink RL 95 yX10_way ∈ BW := bw_of (i := 657) (by decide +kernel) rfl
theorem m_X10_268 : Cond.methodLink RX10 268 yX9_tell ∈ BW := bw_of (i := 661) (by decide +kernel) rfl
theorem m_L_99 : Cond.methodLink RL 99 yX10_likes ∈ BW := bw_of (i := 665) (by decide +kernel) rfl
theorem m_X10_272 : Cond.methodLink RX10 272 yX10_addPairsOf ∈ BW := bw_of (i := 669) (by decide +kernel) rfl
theorem m_X10_276 : Cond.methodLink RX10 276 yX3_add ∈ BW := bw_of (i := 673) (by decide +kernel) rfl
theorem m_L_103 : Cond.methodLink RL 103 yX10_like ∈ BW := bw_of (i := 677) (by decide +kernel) rfl
theorem m_X10_279 : Cond.methodLink RX10 279 yX3_tell ∈ BW := bw_of (i := 681) (by decide +kernel) rfl
theorem m_L_107 : Cond.methodLink RL 107 yX10_count ∈ BW := bw_of (i := 685) (by decide +kernel) rfl
theorem m_X10_284 : Cond.methodLink RX10 284 yX10_countStanding ∈ BW := bw_of (i := 689) (by decide +kernel) rfl
theorem m_X10_288 : Cond.methodLink RX10 288 yX4_countPieces ∈ BW := bw_of (i := 693) (by decide +kernel) rfl
theorem m_X4_50 : Cond.methodLink RX4 50 yX4_closeChains ∈ BW := bw_of (i := 697) (by decide +kernel) rfl
theorem m_X10_291 : Cond.methodLink RX10 291 yX10_countOfRegister ∈ BW := bw_of (i := 698) (by decide +kernel) rfl
theorem a_L_10 : Cond.classLink RL 10 RX11 ∈ BW := bw_of (i := 702) (by decide +kernel) rfl
theorem n_L_10 : NC RL 10 11 := ⟨(RX11, TX11, 42), rfl, a_L_10, bw_of (i := 703) (by decide +kernel) rfl, bw_of (i := 48) (by decide +kernel) rfl⟩
theorem m_L_12 : Cond.methodLink RL 12 yX11_init ∈ BW := bw_of (i := 704) (by decide +kernel) rfl
theorem m_X11_1 : Cond.methodLink RX11 1 objectInit ∈ BW := bw_of (i := 707) (by decide +kernel) rfl
theorem m_X11_103 : Cond.methodLink RX11 103 yX11_makeNodes ∈ BW := bw_of (i := 708) (by decide +kernel) rfl
theorem k_X11_134 : Cond.constant RX11 134 (1000000) ∈ BW := bw_of (i := 712) (by decide +kernel) rfl
theorem m_X11_135 : Cond.methodLink RX11 135 yX11_node ∈ BW := bw_of (i := 713) (by decide +kernel) rfl
theorem m_X11_127 : Cond.methodLink RX11 127 yX11_nodeOf ∈ BW := bw_of (i := 717) (by decide +kernel) rfl
theorem f_X11_7 : FG RX11 7 11 0 := ⟨(RX11, TX11, 42), rfl, by decide, bw_of (i := 721) (by decide +kernel) rfl⟩
theorem f_X11_13 : FG RX11 13 11 1 := ⟨(RX11, TX11, 42), rfl, by decide, bw_of (i := 722) (by decide +kernel) rfl⟩
theorem f_X11_16 : FG RX11 16 11 2 := ⟨(RX11, TX11, 42), rfl, by decide, bw_of (i := 723) (by decide +kernel) rfl⟩
theorem f_X11_110 : FG RX11 110 11 3 := ⟨(RX11, TX11, 42), rfl, by decide, bw_of (i := 724) (by decide +kernel) rfl⟩
theorem f_X11_117 : FG RX11 117 11 4 := ⟨(RX11, TX11, 42), rfl, by decide, bw_of (i := 725) (by decide +kernel) rfl⟩
theorem f_X11_20 : FG RX11 20 11 5 := ⟨(RX11, TX11, 42), rfl, by decide, bw_of (i := 726) (by decide +kernel) rfl⟩
theorem f_X11_23 : FG RX11 23 11 6 := ⟨(RX11, TX11, 42), rfl, by decide, bw_of (i := 727) (by decide +kernel) rfl⟩
theorem f_X11_26 : FG RX11 26 11 7 := ⟨(RX11, TX11, 42), rfl, by decide, bw_of (i := 728) (by decide +kernel) rfl⟩
theorem f_X11_131 : FG RX11 131 11 8 := ⟨(RX11, TX11, 42), rfl, by decide, bw_of (i := 729) (by decide +kernel) rfl⟩
theorem f_X11_29 : FG RX11 29 11 9 := ⟨(RX11, TX11, 42), rfl, by decide, bw_of (i := 730) (by decide +kernel) rfl⟩
theorem f_X11_32 : FG RX11 32 11 10 := ⟨(RX11, TX11, 42), rfl, by decide, bw_of (i := 731) (by decide +kernel) rfl⟩
theorem f_X11_35 : FG RX11 35 11 11 := ⟨(RX11, TX11, 42), rfl, by decide, bw_of (i := 732) (by decide +kernel) rfl⟩
theorem f_X11_141 : FG RX11 141 11 12 := ⟨(RX11, TX11, 42), rfl, by decide, bw_of (i := 733) (by decide +kernel) rfl⟩
theorem f_X11_38 : FG RX11 38 11 13 := ⟨(RX11, TX11, 42), rfl, by decide, bw_of (i := 734) (by decide +kernel) rfl⟩
theorem f_X11_41 : FG RX11 41 11 14 := ⟨(RX11, TX11, 42), rfl, by decide, bw_of (i := 735) (by decide +kernel) rfl⟩
theorem f_X11_44 : FG RX11 44 11 15 := ⟨(RX11, TX11, 42), rfl, by decide, bw_of (i := 736) (by decide +kernel) rfl⟩
theorem f_X11_158 : FG RX11 158 11 16 := ⟨(RX11, TX11, 42), rfl, by decide, bw_of (i := 737) (by decide +kernel) rfl⟩
theorem f_X11_148 : FG RX11 148 11 17 := ⟨(RX11, TX11, 42), rfl, by decide, bw_of (i := 738) (by decide +kernel) rfl⟩
theorem f_X11_47 : FG RX11 47 11 18 := ⟨(RX11, TX11, 42), rfl, by decide, bw_of (i := 739) (by decide +kernel) rfl⟩
theorem f_X11_51 : FG RX11 51 11 19 := ⟨(RX11, TX11, 42), rfl, by decide, bw_of (i := 740) (by decide +kernel) rfl⟩
theorem f_X11_54 : FG RX11 54 11 20 := ⟨(RX11, TX11, 42), rfl, by decide, bw_of (i := 741) (by decide +kernel) rfl⟩
theorem f_X11_57 : FG RX11 57 11 21 := ⟨(RX11, TX11, 42), rfl, by decide, bw_of (i := 742) (by decide +kernel) rfl⟩
theorem f_X11_177 : FG RX11 177 11 22 := ⟨(RX11, TX11, 42), rfl, by decide, bw_of (i := 743) (by decide +kernel) rfl⟩
theorem f_X11_180 : FG RX11 180 11 23 := ⟨(RX11, TX11, 42), rfl, by decide, bw_of (i := 744) (by decide +kernel) rfl⟩
theorem f_X11_60 : FG RX11 60 11 24 := ⟨(RX11, TX11, 42), rfl, by decide, bw_of (i := 745) (by decide +kernel) rfl⟩
theorem f_X11_63 : FG RX11 63 11 25 := ⟨(RX11, TX11, 42), rfl, by decide, bw_of (i := 746) (by decide +kernel) rfl⟩
theorem f_X11_66 : FG RX11 66 11 26 := ⟨(RX11, TX11, 42), rfl, by decide, bw_of (i := 747) (by decide +kernel) rfl⟩
theorem f_X11_190 : FG RX11 190 11 27 := ⟨(RX11, TX11, 42), rfl, by decide, bw_of (i := 748) (by decide +kernel) rfl⟩
theorem f_X11_70 : FG RX11 70 11 28 := ⟨(RX11, TX11, 42), rfl, by decide, bw_of (i := 749) (by decide +kernel) rfl⟩
theorem f_X11_73 : FG RX11 73 11 29 := ⟨(RX11, TX11, 42), rfl, by decide, bw_of (i := 750) (by decide +kernel) rfl⟩
theorem f_X11_76 : FG RX11 76 11 30 := ⟨(RX11, TX11, 42), rfl, by decide, bw_of (i := 751) (by decide +kernel) rfl⟩
theorem f_X11_79 : FG RX11 79 11 31 := ⟨(RX11, TX11, 42), rfl, by decide, bw_of (i := 752) (by decide +kernel) rfl⟩
theorem f_X11_82 : FG RX11 82 11 32 := ⟨(RX11, TX11, 42), rfl, by decide, bw_of (i := 753) (by decide +kernel) rfl⟩
theorem f_X11_208 : FG RX11 208 11 33 := ⟨(RX11, TX11, 42), rfl, by decide, bw_of (i := 754) (by decide +kernel) rfl⟩
theorem f_X11_85 : FG RX11 85 11 34 := ⟨(RX11, TX11, 42), rfl, by decide, bw_of (i := 755) (by decide +kernel) rfl⟩
theorem f_X11_88 : FG RX11 88 11 35 := ⟨(RX11, TX11, 42), rfl, by decide, bw_of (i := 756) (by decide +kernel) rfl⟩
theorem f_X11_91 : FG RX11 91 11 36 := ⟨(RX11, TX11, 42), rfl, by decide, bw_of (i := 757) (by decide +kernel) rfl⟩
theorem f_X11_211 : FG RX11 211 11 37 := ⟨(RX11, TX11, 42), rfl, by decide, bw_of (i := 758) (by decide +kernel) rfl⟩
theorem f_X11_94 : FG RX11 94 11 38 := ⟨(RX11, TX11, 42), rfl, by decide, bw_of (i := 759) (by decide +kernel) rfl⟩
theorem f_X11_97 : FG RX11 97 11 39 := ⟨(RX11, TX11, 42), rfl, by decide, bw_of (i := 760) (by decide +kernel) rfl⟩
theorem f_X11_100 : FG RX11 100 11 40 := ⟨(RX11, TX11, 42), rfl, by decide, bw_of (i := 761) (by decide +kernel) rfl⟩
theorem f_X11_214 : FG RX11 214 11 41 := ⟨(RX11, TX11, 42), rfl, by decide, bw_of (i := 762) (by decide +kernel) rfl⟩
theorem m_L_17 : Cond.methodLink RL 17 yX11_feed ∈ BW := bw_of (i := 850) (by decide +kernel) rfl
theorem m_L_22 : Cond.methodLink RL 22 yX11_end ∈ BW := bw_of (i := 854) (by decide +kernel) rfl
theorem m_L_27 : Cond.methodLink RL 27 yX11_script ∈ BW := bw_of (i := 858) (by decide +kernel) rfl
theorem m_X11_113 : Cond.methodLink RX11 113 yX11_isSign ∈ BW := bw_of (i := 862) (by decide +kernel) rfl
theorem m_X11_106 : Cond.methodLink RX11 106 yX11_in ∈ BW := bw_of (i := 865) (by decide +kernel) rfl
theorem m_L_31 : Cond.methodLink RL 31 yX11_seen ∈ BW := bw_of (i := 868) (by decide +kernel) rfl
theorem m_L_36 : Cond.methodLink RL 36 yX11_confuse ∈ BW := bw_of (i := 872) (by decide +kernel) rfl
theorem m_X11_120 : Cond.methodLink RX11 120 yX11_isPiece ∈ BW := bw_of (i := 876) (by decide +kernel) rfl
theorem m_X11_123 : Cond.methodLink RX11 123 yX11_find ∈ BW := bw_of (i := 879) (by decide +kernel) rfl
theorem m_L_40 : Cond.methodLink RL 40 yX11_chain ∈ BW := bw_of (i := 883) (by decide +kernel) rfl
theorem m_X11_138 : Cond.methodLink RX11 138 yX11_chainOf ∈ BW := bw_of (i := 887) (by decide +kernel) rfl
theorem m_L_44 : Cond.methodLink RL 44 yX11_allow ∈ BW := bw_of (i := 891) (by decide +kernel) rfl
theorem m_L_49 : Cond.methodLink RL 49 yX11_name ∈ BW := bw_of (i := 895) (by decide +kernel) rfl
theorem m_X11_155 : Cond.methodLink RX11 155 yX11_readName ∈ BW := bw_of (i := 899) (by decide +kernel) rfl
theorem m_X11_151 : Cond.methodLink RX11 151 yX11_wrong ∈ BW := bw_of (i := 903) (by decide +kernel) rfl
theorem m_X11_162 : Cond.methodLink RX11 162 yX11_see ∈ BW := bw_of (i := 907) (by decide +kernel) rfl
theorem m_X11_144 : Cond.methodLink RX11 144 yX11_turn ∈ BW := bw_of (i := 911) (by decide +kernel) rfl
theorem m_L_53 : Cond.methodLink RL 53 yX11_fault ∈ BW := bw_of (i := 914) (by decide +kernel) rfl
theorem m_L_57 : Cond.methodLink RL 57 yX11_about ∈ BW := bw_of (i := 918) (by decide +kernel) rfl
theorem m_X11_166 : Cond.methodLink RX11 166 yX11_scripts ∈ BW := bw_of (i := 922) (by decide +kernel) rfl
theorem m_X11_170 : Cond.methodLink RX11 170 yX11_isMixed ∈ BW := bw_of (i := 926) (by decide +kernel) rfl
theorem m_X11_174 : Cond.methodLink RX11 174 yX11_has ∈ BW := bw_of (i := 930) (by decide +kernel) rfl
theorem m_L_62 : Cond.methodLink RL 62 yX11_rule ∈ BW := bw_of (i := 934) (by decide +kernel) rfl
theorem m_X11_187 : Cond.methodLink RX11 187 yX11_isRegister ∈ BW := bw_of (i := 938) (by decide +kernel) rfl
theorem m_L_66 : Cond.methodLink RL 66 yX11_ask ∈ BW := bw_of (i := 941) (by decide +kernel) rfl
theorem m_X11_193 : Cond.methodLink RX11 193 yX11_isIn ∈ BW := bw_of (i := 945) (by decide +kernel) rfl
theorem m_X11_196 : Cond.methodLink RX11 196 yX11_isSame ∈ BW := bw_of (i := 949) (by decide +kernel) rfl
theorem m_X11_199 : Cond.methodLink RX11 199 yX11_reckon ∈ BW := bw_of (i := 953) (by decide +kernel) rfl
theorem m_X11_183 : Cond.methodLink RX11 183 yX11_piece ∈ BW := bw_of (i := 957) (by decide +kernel) rfl
theorem m_L_70 : Cond.methodLink RL 70 yX11_enter ∈ BW := bw_of (i := 960) (by decide +kernel) rfl
theorem m_X11_202 : Cond.methodLink RX11 202 yX11_ask ∈ BW := bw_of (i := 964) (by decide +kernel) rfl
theorem m_L_74 : Cond.methodLink RL 74 yX11_strike ∈ BW := bw_of (i := 965) (by decide +kernel) rfl
theorem m_X11_205 : Cond.methodLink RX11 205 yX11_isEntry ∈ BW := bw_of (i := 969) (by decide +kernel) rfl
theorem m_L_78 : Cond.methodLink RL 78 yX11_entry ∈ BW := bw_of (i := 973) (by decide +kernel) rfl
theorem m_L_82 : Cond.methodLink RL 82 yX11_far ∈ BW := bw_of (i := 977) (by decide +kernel) rfl
theorem m_L_86 : Cond.methodLink RL 86 yX11_near ∈ BW := bw_of (i := 981) (by decide +kernel) rfl
theorem m_L_90 : Cond.methodLink RL 90 yX11_nearest ∈ BW := bw_of (i := 985) (by decide +kernel) rfl
theorem m_L_94 : Cond.methodLink RL 94 yX11_ways ∈ BW := bw_of (i := 989) (by decide +kernel) rfl
theorem m_L_98 : Cond.methodLink RL 98 yX11_way ∈ BW := bw_of (i := 993) (by decide +kernel) rfl
theorem m_L_102 : Cond.methodLink RL 102 yX11_likes ∈ BW := bw_of (i := 997) (by decide +kernel) rfl
theorem m_L_106 : Cond.methodLink RL 106 yX11_like ∈ BW := bw_of (i := 1001) (by decide +kernel) rfl
theorem m_L_110 : Cond.methodLink RL 110 yX11_count ∈ BW := bw_of (i := 1005) (by decide +kernel) rfl
end
section
def JE (G : GT) (Y : YT) (d mc ms : Nat) (av : List Value) (ws : va_W) (e : Int32) (ws' : va_W) : Prop := JM G Y d mc ms av ws (Qi (fun r w => r = e ∧ w = ws'))
def JV (G : GT) (Y : YT) (d mc ms : Nat) (av : List Value) (ws : va_W) (ws' : va_W) : Prop := JM G Y d mc ms av ws (Qv (fun w => w = ws'))
def JR (G : GT) (Y : YT) (d mc ms : Nat) (av : List Value) (ws : va_W) (e : Option Nat) (ws' : va_W) : Prop := JM G Y d mc ms av ws (Qr (fun r w => r = e ∧ w = ws'))
theorem gs_eq {α : Type} {ws : List α} {k : Nat} {x c : α} (h : ws[k]? = some x) : (ws.set k c)[k]? = some c := List.getElem?_set_self (List.getElem?_eq_some_iff.mp h).1
theorem gs_ne {α : Type} {ws : List α} {k j : Nat} {x c : α} (hne : k ≠ j) (h : ws[j]? = some x) : (ws.set k c)[j]? = some x := by rw [List.getElem?_set_ne hne]; exact h
theorem JM.imp {G : GT} {Y : YT} {d mc ms : Nat} {av : List Value} {ws : va_W} {post post' : OT} (h : JM G Y d mc ms av ws post) (hp : ∀ r w, post r w → post' r w) : JM G Y d mc ms av ws post' := by
  intro p e ha hc hk s m args below hf h1 h2 h3
  obtain ⟨k, oc, g1, g2, g3, ⟨⟨⟨r, w, q1, q2, q3⟩, q4⟩, q5⟩⟩ := h p e ha hc hk s m args below hf h1 h2 h3
  exact ⟨k, oc, g1, g2, g3, ⟨⟨⟨r, w, q1, hp r w q2, q3⟩, q4⟩, q5⟩⟩
section JCL
variable {G : GT} {Y : YT} {d mc ms : Nat} {post : OT} {pc n : Nat} {lv : List (Nat × Value)} {st : List Value} {ws : va_W} {kc ks : Nat}
theorem j_callVi (q : Nat) {Y1 : YT} {k d1 mc1 ms1 idx b ci : Nat} {fs : List Value} {As rest : List Value} {f : Int32 → va_W → Prop} (hd : decode Y.2.1 pc = .ok (.invokevirtual idx, 3)) (hF : Cond.methodLink Y.1.cls idx Y1.1 ∈ BW) (hY : CY Y1 k) (hI : CI Y1) (hM : JM G Y1 d1 mc1 ms1 (.ref b :: As) ws (Qi f)) (hn : pc + 3 = n) (hst : st = As.reverse ++ .ref b :: rest) (hk : As.length = k) (he : ws[q]? = some (b, .inr (ci, fs))) (hc : (vwCl[ci]?).map (fun q => q.1) = some Y1.1.cls) (hd1 : d1 + 1 ≤ d) (h1 : kc + mc1 ≤ mc) (h2 : ks + ms1 ≤ ms) (hr : (rest.map fun v => v.category).sum ≤ 8) (kk : ∀ (v : Int32) (w : va_W), f v w → JJ G Y d mc ms post n lv (.int v :: rest) w (kc + mc1) (ks + ms1)) : JJ G Y d mc ms post pc lv st ws kc ks :=
  j_callV q hd hF hY hI hM hn hst hk he hc hd1 h1 h2 hr (fun r w h => by obtain ⟨v, rfl, h⟩ := h; exact kk v w h)
theorem j_callVe (q : Nat) {Y1 : YT} {k d1 mc1 ms1 idx b ci : Nat} {fs : List Value} {As rest : List Value} {e : Int32} {ws' : va_W} (hd : decode Y.2.1 pc = .ok (.invokevirtual idx, 3)) (hF : Cond.methodLink Y.1.cls idx Y1.1 ∈ BW) (hY : CY Y1 k) (hI : CI Y1) (hM : JE G Y1 d1 mc1 ms1 (.ref b :: As) ws e ws') (hn : pc + 3 = n) (hst : st = As.reverse ++ .ref b :: rest) (hk : As.length = k) (he : ws[q]? = some (b, .inr (ci, fs))) (hc : (vwCl[ci]?).map (fun q => q.1) = some Y1.1.cls) (hd1 : d1 + 1 ≤ d) (h1 : kc + mc1 ≤ mc) (h2 : ks + ms1 ≤ ms) (hr : (rest.map fun v => v.category).sum ≤ 8) (kk : JJ G Y d mc ms post n lv (.int e :: rest) ws' (kc + mc1) (ks + ms1)) : JJ G Y d mc ms post pc lv st ws kc ks :=
  j_callVi q hd hF hY hI hM hn hst hk he hc hd1 h1 h2 hr (fun v w h => by obtain ⟨rfl, rfl⟩ := h; exact kk)
theorem j_callVr (q : Nat) {Y1 : YT} {k d1 mc1 ms1 idx b ci : Nat} {fs : List Value} {As rest : List Value} {f : Option Nat → va_W → Prop} (hd : decode Y.2.1 pc = .ok (.invokevirtual idx, 3)) (hF : Cond.methodLink Y.1.cls idx Y1.1 ∈ BW) (hY : CY Y1 k) (hI : CI Y1) (hM : JM G Y1 d1 mc1 ms1 (.ref b :: As) ws (Qr f)) (hn : pc + 3 = n) (hst : st = As.reverse ++ .ref b :: rest) (hk : As.length = k) (he : ws[q]? = some (b, .inr (ci, fs))) (hc : (vwCl[ci]?).map (fun q => q.1) = some Y1.1.cls) (hd1 : d1 + 1 ≤ d) (h1 : kc + mc1 ≤ mc) (h2 : ks + ms1 ≤ ms) (hr : (rest.map fun v => v.category).sum ≤ 8) (kk : ∀ (v : Option Nat) (w : va_W), f v w → JJ G Y d mc ms post n lv (va_rf v :: rest) w (kc + mc1) (ks + ms1)) : JJ G Y d mc ms post pc lv st ws kc ks :=
  j_callV q hd hF hY hI hM hn hst hk he hc hd1 h1 h2 hr (fun r w h => by obtain ⟨v, rfl, h⟩ := h; exact kk v w h)
theorem j_callVq (q : Nat) {Y1 : YT} {k d1 mc1 ms1 idx b ci : Nat} {fs : List Value} {As rest : List Value} {e : Option Nat} {ws' : va_W} (hd : decode Y.2.1 pc = .ok (.invokevirtual idx, 3)) (hF : Cond.methodLink Y.1.cls idx Y1.1 ∈ BW) (hY : CY Y1 k) (hI : CI Y1) (hM : JR G Y1 d1 mc1 ms1 (.ref b :: As) ws e ws') (hn : pc + 3 = n) (hst : st = As.reverse ++ .ref b :: rest) (hk : As.length = k) (he : ws[q]? = some (b, .inr (ci, fs))) (hc : (vwCl[ci]?).map (fun q => q.1) = some Y1.1.cls) (hd1 : d1 + 1 ≤ d) (h1 : kc + mc1 ≤ mc) (h2 : ks + ms1 ≤ ms) (hr : (rest.map fun v => v.category).sum ≤ 8) (kk : JJ G Y d mc ms post n lv (va_rf e :: rest) ws' (kc + mc1) (ks + ms1)) : JJ G Y d mc ms post pc lv st ws kc ks :=
  j_callVr q hd hF hY hI hM hn hst hk he hc hd1 h1 h2 hr (fun v w h => by obtain ⟨rfl, rfl⟩ := h; exact kk)
theorem j_callVv (q : Nat) {Y1 : YT} {k d1 mc1 ms1 idx b ci : Nat} {fs : List Value} {As rest : List Value} {f : va_W → Prop} (hd : decode Y.2.1 pc = .ok (.invokevirtual idx, 3)) (hF : Cond.methodLink Y.1.cls idx Y1.1 ∈ BW) (hY : CY Y1 k) (hI : CI Y1) (hM : JM G Y1 d1 mc1 ms1 (.ref b :: As) ws (Qv f)) (hn : pc + 3 = n) (hst : st = As.reverse ++ .ref b :: rest) (hk : As.length = k) (he : ws[q]? = some (b, .inr (ci, fs))) (hc : (vwCl[ci]?).map (fun q => q.1) = some Y1.1.cls) (hd1 : d1 + 1 ≤ d) (h1 : kc + mc1 ≤ mc) (h2 : ks + ms1 ≤ ms) (hr : (rest.map fun v => v.category).sum ≤ 8) (kk : ∀ (w : va_W), f w → JJ G Y d mc ms post n lv rest w (kc + mc1) (ks + ms1)) : JJ G Y d mc ms post pc lv st ws kc ks :=
  j_callV q hd hF hY hI hM hn hst hk he hc hd1 h1 h2 hr (fun r w h => by obtain ⟨rfl, h⟩ := h; exact kk w h)
theorem j_callVw (q : Nat) {Y1 : YT} {k d1 mc1 ms1 idx b ci : Nat} {fs : List Value} {As rest : List Value} {ws' : va_W} (hd : decode Y.2.1 pc = .ok (.invokevirtual idx, 3)) (hF : Cond.methodLink Y.1.cls idx Y1.1 ∈ BW) (hY : CY Y1 k) (hI : CI Y1) (hM : JV G Y1 d1 mc1 ms1 (.ref b :: As) ws ws') (hn : pc + 3 = n) (hst : st = As.reverse ++ .ref b :: rest) (hk : As.length = k) (he : ws[q]? = some (b, .inr (ci, fs))) (hc : (vwCl[ci]?).map (fun q => q.1) = some Y1.1.cls) (hd1 : d1 + 1 ≤ d) (h1 : kc + mc1 ≤ mc) (h2 : ks + ms1 ≤ ms) (hr : (rest.map fun v => v.category).sum ≤ 8) (kk : JJ G Y d mc ms post n lv rest ws' (kc + mc1) (ks + ms1)) : JJ G Y d mc ms post pc lv st ws kc ks :=
  j_callVv q hd hF hY hI hM hn hst hk he hc hd1 h1 h2 hr (fun w h => by subst h; exact kk)
theorem j_callSi {Y1 : YT} {k d1 mc1 ms1 idx : Nat} {As rest : List Value} {f : Int32 → va_W → Prop} (hd : decode Y.2.1 pc = .ok (.invokestatic idx, 3)) (hF : Cond.methodLink Y.1.cls idx Y1.1 ∈ BW) (hY : CY Y1 k) (hI : Cond.static Y1.1 ∈ BW) (hM : JM G Y1 d1 mc1 ms1 As ws (Qi f)) (hn : pc + 3 = n) (hst : st = As.reverse ++ rest) (hk : As.length = k) (hd1 : d1 + 1 ≤ d) (h1 : kc + mc1 ≤ mc) (h2 : ks + ms1 ≤ ms) (hr : (rest.map fun v => v.category).sum ≤ 8) (kk : ∀ (v : Int32) (w : va_W), f v w → JJ G Y d mc ms post n lv (.int v :: rest) w (kc + mc1) (ks + ms1)) : JJ G Y d mc ms post pc lv st ws kc ks :=
  j_callS hd hF hY hI hM hn hst hk hd1 h1 h2 hr (fun r w h => by obtain ⟨v, rfl, h⟩ := h; exact kk v w h)
theorem j_callSe {Y1 : YT} {k d1 mc1 ms1 idx : Nat} {As rest : List Value} {e : Int32} {ws' : va_W} (hd : decode Y.2.1 pc = .ok (.invokestatic idx, 3)) (hF : Cond.methodLink Y.1.cls idx Y1.1 ∈ BW) (hY : CY Y1 k) (hI : Cond.static Y1.1 ∈ BW) (hM : JE G Y1 d1 mc1 ms1 As ws e ws') (hn : pc + 3 = n) (hst : st = As.reverse ++ rest) (hk : As.length = k) (hd1 : d1 + 1 ≤ d) (h1 : kc + mc1 ≤ mc) (h2 : ks + ms1 ≤ ms) (hr : (rest.map fun v => v.category).sum ≤ 8) (kk : JJ G Y d mc ms post n lv (.int e :: rest) ws' (kc + mc1) (ks + ms1)) : JJ G Y d mc ms post pc lv st ws kc ks :=
  j_callSi hd hF hY hI hM hn hst hk hd1 h1 h2 hr (fun v w h => by obtain ⟨rfl, rfl⟩ := h; exact kk)
theorem j_callSr {Y1 : YT} {k d1 mc1 ms1 idx : Nat} {As rest : List Value} {f : Option Nat → va_W → Prop} (hd : decode Y.2.1 pc = .ok (.invokestatic idx, 3)) (hF : Cond.methodLink Y.1.cls idx Y1.1 ∈ BW) (hY : CY Y1 k) (hI : Cond.static Y1.1 ∈ BW) (hM : JM G Y1 d1 mc1 ms1 As ws (Qr f)) (hn : pc + 3 = n) (hst : st = As.reverse ++ rest) (hk : As.length = k) (hd1 : d1 + 1 ≤ d) (h1 : kc + mc1 ≤ mc) (h2 : ks + ms1 ≤ ms) (hr : (rest.map fun v => v.category).sum ≤ 8) (kk : ∀ (v : Option Nat) (w : va_W), f v w → JJ G Y d mc ms post n lv (va_rf v :: rest) w (kc + mc1) (ks + ms1)) : JJ G Y d mc ms post pc lv st ws kc ks :=
  j_callS hd hF hY hI hM hn hst hk hd1 h1 h2 hr (fun r w h => by obtain ⟨v, rfl, h⟩ := h; exact kk v w h)
theorem j_callSq {Y1 : YT} {k d1 mc1 ms1 idx : Nat} {As rest : List Value} {e : Option Nat} {ws' : va_W} (hd : decode Y.2.1 pc = .ok (.invokestatic idx, 3)) (hF : Cond.methodLink Y.1.cls idx Y1.1 ∈ BW) (hY : CY Y1 k) (hI : Cond.static Y1.1 ∈ BW) (hM : JR G Y1 d1 mc1 ms1 As ws e ws') (hn : pc + 3 = n) (hst : st = As.reverse ++ rest) (hk : As.length = k) (hd1 : d1 + 1 ≤ d) (h1 : kc + mc1 ≤ mc) (h2 : ks + ms1 ≤ ms) (hr : (rest.map fun v => v.category).sum ≤ 8) (kk : JJ G Y d mc ms post n lv (va_rf e :: rest) ws' (kc + mc1) (ks + ms1)) : JJ G Y d mc ms post pc lv st ws kc ks :=
  j_callSr hd hF hY hI hM hn hst hk hd1 h1 h2 hr (fun v w h => by obtain ⟨rfl, rfl⟩ := h; exact kk)
theorem j_callSv {Y1 : YT} {k d1 mc1 ms1 idx : Nat} {As rest : List Value} {f : va_W → Prop} (hd : decode Y.2.1 pc = .ok (.invokestatic idx, 3)) (hF : Cond.methodLink Y.1.cls idx Y1.1 ∈ BW) (hY : CY Y1 k) (hI : Cond.static Y1.1 ∈ BW) (hM : JM G Y1 d1 mc1 ms1 As ws (Qv f)) (hn : pc + 3 = n) (hst : st = As.reverse ++ rest) (hk : As.length = k) (hd1 : d1 + 1 ≤ d) (h1 : kc + mc1 ≤ mc) (h2 : ks + ms1 ≤ ms) (hr : (rest.map fun v => v.category).sum ≤ 8) (kk : ∀ (w : va_W), f w → JJ G Y d mc ms post n lv rest w (kc + mc1) (ks + ms1)) : JJ G Y d mc ms post pc lv st ws kc ks :=
  j_callS hd hF hY hI hM hn hst hk hd1 h1 h2 hr (fun r w h => by obtain ⟨rfl, h⟩ := h; exact kk w h)
theorem j_callSw {Y1 : YT} {k d1 mc1 ms1 idx : Nat} {As rest : List Value} {ws' : va_W} (hd : decode Y.2.1 pc = .ok (.invokestatic idx, 3)) (hF : Cond.methodLink Y.1.cls idx Y1.1 ∈ BW) (hY : CY Y1 k) (hI : Cond.static Y1.1 ∈ BW) (hM : JV G Y1 d1 mc1 ms1 As ws ws') (hn : pc + 3 = n) (hst : st = As.reverse ++ rest) (hk : As.length = k) (hd1 : d1 + 1 ≤ d) (h1 : kc + mc1 ≤ mc) (h2 : ks + ms1 ≤ ms) (hr : (rest.map fun v => v.category).sum ≤ 8) (kk : JJ G Y d mc ms post n lv rest ws' (kc + mc1) (ks + ms1)) : JJ G Y d mc ms post pc lv st ws kc ks :=
  j_callSv hd hF hY hI hM hn hst hk hd1 h1 h2 hr (fun w h => by subst h; exact kk)
theorem j_callSNi {Y1 : YT} {k d1 mc1 ms1 idx : Nat} {As rest : List Value} {host : String} {f : Int32 → va_W → Prop} (hd : decode Y.2.1 pc = .ok (.invokestatic idx, 3)) (hF : Cond.methodLinkNest Y.1.cls idx Y1.1 host ∈ NW) (hY : CY Y1 k) (hI : Cond.static Y1.1 ∈ BW) (hM : JM G Y1 d1 mc1 ms1 As ws (Qi f)) (hn : pc + 3 = n) (hst : st = As.reverse ++ rest) (hk : As.length = k) (hd1 : d1 + 1 ≤ d) (h1 : kc + mc1 ≤ mc) (h2 : ks + ms1 ≤ ms) (hr : (rest.map fun v => v.category).sum ≤ 8) (kk : ∀ (v : Int32) (w : va_W), f v w → JJ G Y d mc ms post n lv (.int v :: rest) w (kc + mc1) (ks + ms1)) : JJ G Y d mc ms post pc lv st ws kc ks :=
  j_callSN hd hF hY hI hM hn hst hk hd1 h1 h2 hr (fun r w h => by obtain ⟨v, rfl, h⟩ := h; exact kk v w h)
theorem j_callSNe {Y1 : YT} {k d1 mc1 ms1 idx : Nat} {As rest : List Value} {host : String} {e : Int32} {ws' : va_W} (hd : decode Y.2.1 pc = .ok (.invokestatic idx, 3)) (hF : Cond.methodLinkNest Y.1.cls idx Y1.1 host ∈ NW) (hY : CY Y1 k) (hI : Cond.static Y1.1 ∈ BW) (hM : JE G Y1 d1 mc1 ms1 As ws e ws') (hn : pc + 3 = n) (hst : st = As.reverse ++ rest) (hk : As.length = k) (hd1 : d1 + 1 ≤ d) (h1 : kc + mc1 ≤ mc) (h2 : ks + ms1 ≤ ms) (hr : (rest.map fun v => v.category).sum ≤ 8) (kk : JJ G Y d mc ms post n lv (.int e :: rest) ws' (kc + mc1) (ks + ms1)) : JJ G Y d mc ms post pc lv st ws kc ks :=
  j_callSNi hd hF hY hI hM hn hst hk hd1 h1 h2 hr (fun v w h => by obtain ⟨rfl, rfl⟩ := h; exact kk)
theorem j_callSNr {Y1 : YT} {k d1 mc1 ms1 idx : Nat} {As rest : List Value} {host : String} {f : Option Nat → va_W → Prop} (hd : decode Y.2.1 pc = .ok (.invokestatic idx, 3)) (hF : Cond.methodLinkNest Y.1.cls idx Y1.1 host ∈ NW) (hY : CY Y1 k) (hI : Cond.static Y1.1 ∈ BW) (hM : JM G Y1 d1 mc1 ms1 As ws (Qr f)) (hn : pc + 3 = n) (hst : st = As.reverse ++ rest) (hk : As.length = k) (hd1 : d1 + 1 ≤ d) (h1 : kc + mc1 ≤ mc) (h2 : ks + ms1 ≤ ms) (hr : (rest.map fun v => v.category).sum ≤ 8) (kk : ∀ (v : Option Nat) (w : va_W), f v w → JJ G Y d mc ms post n lv (va_rf v :: rest) w (kc + mc1) (ks + ms1)) : JJ G Y d mc ms post pc lv st ws kc ks :=
  j_callSN hd hF hY hI hM hn hst hk hd1 h1 h2 hr (fun r w h => by obtain ⟨v, rfl, h⟩ := h; exact kk v w h)
theorem j_callSNq {Y1 : YT} {k d1 mc1 ms1 idx : Nat} {As rest : List Value} {host : String} {e : Option Nat} {ws' : va_W} (hd : decode Y.2.1 pc = .ok (.invokestatic idx, 3)) (hF : Cond.methodLinkNest Y.1.cls idx Y1.1 host ∈ NW) (hY : CY Y1 k) (hI : Cond.static Y1.1 ∈ BW) (hM : JR G Y1 d1 mc1 ms1 As ws e ws') (hn : pc + 3 = n) (hst : st = As.reverse ++ rest) (hk : As.length = k) (hd1 : d1 + 1 ≤ d) (h1 : kc + mc1 ≤ mc) (h2 : ks + ms1 ≤ ms) (hr : (rest.map fun v => v.category).sum ≤ 8) (kk : JJ G Y d mc ms post n lv (va_rf e :: rest) ws' (kc + mc1) (ks + ms1)) : JJ G Y d mc ms post pc lv st ws kc ks :=
  j_callSNr hd hF hY hI hM hn hst hk hd1 h1 h2 hr (fun v w h => by obtain ⟨rfl, rfl⟩ := h; exact kk)
theorem j_callSNv {Y1 : YT} {k d1 mc1 ms1 idx : Nat} {As rest : List Value} {host : String} {f : va_W → Prop} (hd : decode Y.2.1 pc = .ok (.invokestatic idx, 3)) (hF : Cond.methodLinkNest Y.1.cls idx Y1.1 host ∈ NW) (hY : CY Y1 k) (hI : Cond.static Y1.1 ∈ BW) (hM : JM G Y1 d1 mc1 ms1 As ws (Qv f)) (hn : pc + 3 = n) (hst : st = As.reverse ++ rest) (hk : As.length = k) (hd1 : d1 + 1 ≤ d) (h1 : kc + mc1 ≤ mc) (h2 : ks + ms1 ≤ ms) (hr : (rest.map fun v => v.category).sum ≤ 8) (kk : ∀ (w : va_W), f w → JJ G Y d mc ms post n lv rest w (kc + mc1) (ks + ms1)) : JJ G Y d mc ms post pc lv st ws kc ks :=
  j_callSN hd hF hY hI hM hn hst hk hd1 h1 h2 hr (fun r w h => by obtain ⟨rfl, h⟩ := h; exact kk w h)
theorem j_callSNw {Y1 : YT} {k d1 mc1 ms1 idx : Nat} {As rest : List Value} {host : String} {ws' : va_W} (hd : decode Y.2.1 pc = .ok (.invokestatic idx, 3)) (hF : Cond.methodLinkNest Y.1.cls idx Y1.1 host ∈ NW) (hY : CY Y1 k) (hI : Cond.static Y1.1 ∈ BW) (hM : JV G Y1 d1 mc1 ms1 As ws ws') (hn : pc + 3 = n) (hst : st = As.reverse ++ rest) (hk : As.length = k) (hd1 : d1 + 1 ≤ d) (h1 : kc + mc1 ≤ mc) (h2 : ks + ms1 ≤ ms) (hr : (rest.map fun v => v.category).sum ≤ 8) (kk : JJ G Y d mc ms post n lv rest ws' (kc + mc1) (ks + ms1)) : JJ G Y d mc ms post pc lv st ws kc ks :=
  j_callSNv hd hF hY hI hM hn hst hk hd1 h1 h2 hr (fun w h => by subst h; exact kk)
theorem j_callIv {Y1 : YT} {k d1 mc1 ms1 idx b : Nat} {As rest : List Value} {f : va_W → Prop} (hd : decode Y.2.1 pc = .ok (.invokespecial idx, 3)) (hF : Cond.methodLink Y.1.cls idx Y1.1 ∈ BW) (hY : CY Y1 k) (hI : Cond.instanceMethod Y1.1 ∈ BW) (hnm : Y1.1.name = "<init>") (hre : Y1.2.2.2 = none) (hM : JM G Y1 d1 mc1 ms1 (.ref b :: As) ws (Qv f)) (hn : pc + 3 = n) (hst : st = As.reverse ++ .ref b :: rest) (hk : As.length = k) (hd1 : d1 + 1 ≤ d) (h1 : kc + mc1 ≤ mc) (h2 : ks + ms1 ≤ ms) (hr : (rest.map fun v => v.category).sum ≤ 8) (kk : ∀ (w : va_W), f w → JJ G Y d mc ms post n lv rest w (kc + mc1) (ks + ms1)) : JJ G Y d mc ms post pc lv st ws kc ks :=
  j_callI hd hF hY hI hnm hre hM hn hst hk hd1 h1 h2 hr (fun r w h => by obtain ⟨rfl, h⟩ := h; exact kk w h)
theorem j_callIw {Y1 : YT} {k d1 mc1 ms1 idx b : Nat} {As rest : List Value} {ws' : va_W} (hd : decode Y.2.1 pc = .ok (.invokespecial idx, 3)) (hF : Cond.methodLink Y.1.cls idx Y1.1 ∈ BW) (hY : CY Y1 k) (hI : Cond.instanceMethod Y1.1 ∈ BW) (hnm : Y1.1.name = "<init>") (hre : Y1.2.2.2 = none) (hM : JV G Y1 d1 mc1 ms1 (.ref b :: As) ws ws') (hn : pc + 3 = n) (hst : st = As.reverse ++ .ref b :: rest) (hk : As.length = k) (hd1 : d1 + 1 ≤ d) (h1 : kc + mc1 ≤ mc) (h2 : ks + ms1 ≤ ms) (hr : (rest.map fun v => v.category).sum ≤ 8) (kk : JJ G Y d mc ms post n lv rest ws' (kc + mc1) (ks + ms1)) : JJ G Y d mc ms post pc lv st ws kc ks :=
  j_callIv hd hF hY hI hnm hre hM hn hst hk hd1 h1 h2 hr (fun w h => by subst h; exact kk)
end JCL
end
section
/-! small methods of the class: signs, pieces, sets; SignTable; ScriptSets; the lists' tell -/
def b01 (b : Bool) : Int32 := if b then 1 else 0
def sgB (x : Int32) : Bool := decide (33 ≤ x ∧ x ≤ 126)
def pcB (x : Int32) : Bool := sgB x || (sgB (x >>> (8 &&& 31)) && sgB (x &&& 255))
theorem b01_t : b01 true = 1 := rfl
theorem b01_f : b01 false = 0 := rfl
theorem sgB_f1 {x : Int32} (h : x < 33) : sgB x = false := by
  unfold sgB
  have : ¬ (33 ≤ x) := Int32.not_le.mpr h
  simp [this]
theorem sgB_f2 {x : Int32} (h : 126 < x) : sgB x = false := by
  unfold sgB
  have : ¬ (x ≤ 126) := Int32.not_le.mpr h
  simp [this]
theorem sgB_t {x : Int32} (h : ¬ x < 33) (h2 : ¬ 126 < x) : sgB x = true := by
  unfold sgB
  simp [Int32.not_lt.mp h, Int32.not_lt.mp h2]
section LF
variable {G : GT} {ws : va_W}
theorem c_isSign {x : Int32} : JE G Y_X10_isSign 0 0 0 [.int x] ws (b01 (sgB x)) ws := by
  refine JM.of [(0, .int x)] rfl rfl (by simp) (Nat.le_of_ble_eq_true rfl) (by decide +kernel) ?_
  refine j_iload_n (n := 1) dX10_isSign_0 rfl rfl ?_
  refine j_bipush (n := 3) (33) dX10_isSign_1 rfl (by decide) ?_
  refine j_icmp_lt (n := 6) 16 dX10_isSign_3 (by decide) rfl (fun c_3 => ?_) (fun c_3 => ?_)
  · refine j_iconst (n := 17) (0) dX10_isSign_16 rfl (by decide) ?_
    exact j_iret dX10_isSign_17 rfl (by first | rfl | decide) (by omega) (by omega) ⟨by first | (rw [sgB_f1 c_3]; rfl) | (rw [sgB_f2 c_9]; rfl) | (rw [sgB_t c_3 c_9]; rfl), rfl⟩
  · refine j_iload_n (n := 7) dX10_isSign_6 rfl rfl ?_
    refine j_bipush (n := 9) (126) dX10_isSign_7 rfl (by decide) ?_
    refine j_icmp_gt (n := 12) 16 dX10_isSign_9 (by decide) rfl (fun c_9 => ?_) (fun c_9 => ?_)
    · refine j_iconst (n := 17) (0) dX10_isSign_16 rfl (by decide) ?_
      exact j_iret dX10_isSign_17 rfl (by first | rfl | decide) (by omega) (by omega) ⟨by first | (rw [sgB_f1 c_3]; rfl) | (rw [sgB_f2 c_9]; rfl) | (rw [sgB_t c_3 c_9]; rfl), rfl⟩
    · refine j_iconst (n := 13) (1) dX10_isSign_12 rfl (by decide) ?_
      refine j_goto 17 dX10_isSign_13 (by decide) ?_
      exact j_iret dX10_isSign_17 rfl (by first | rfl | decide) (by omega) (by omega) ⟨by first | (rw [sgB_f1 c_3]; rfl) | (rw [sgB_f2 c_9]; rfl) | (rw [sgB_t c_3 c_9]; rfl), rfl⟩
theorem b01_0 {b : Bool} (h : b01 b = 0) : b = false := by cases b <;> first | rfl | cases h
theorem b01_n0 {b : Bool} (h : ¬ b01 b = 0) : b = true := by cases b <;> first | rfl | exact absurd rfl h
theorem c_isPiece {x : Int32} : JE G Y_X10_isPiece 1 0 0 [.int x] ws (b01 (pcB x)) ws := by
  refine JM.of [(0, .int x)] rfl rfl (by simp) (Nat.le_of_ble_eq_true rfl) (by decide +kernel) ?_
  refine j_iload_n (n := 1) dX10_isPiece_0 rfl rfl ?_
  refine j_callSe (n := 4) (Y1 := Y_X10_isSign) dX10_isPiece_1 m_X10_98 cy_X10_isSign cs_X10_isSign (c_isSign) rfl rfl rfl (by omega) (by omega) (by omega) (Nat.le_of_ble_eq_true rfl) ?_
  refine j_if_ne (n := 7) 28 dX10_isPiece_4 (by decide) rfl (fun c_4 => ?_) (fun c_4 => ?_)
  · refine j_iconst (n := 29) (1) dX10_isPiece_28 rfl (by decide) ?_
    refine j_goto 33 dX10_isPiece_29 (by decide) ?_
    exact j_iret dX10_isPiece_33 rfl (by first | rfl | decide) (by omega) (by omega) ⟨by (unfold pcB; first | (rw [b01_n0 c_4]; rfl) | (rw [b01_0 c_4, b01_0 c_14]; rfl) | (rw [b01_0 c_4, b01_n0 c_14, b01_0 c_25]; rfl) | (rw [b01_0 c_4, b01_n0 c_14, b01_n0 c_25]; rfl)), rfl⟩
  · refine j_iload_n (n := 8) dX10_isPiece_7 rfl rfl ?_
    refine j_bipush (n := 10) (8) dX10_isPiece_8 rfl (by decide) ?_
    refine j_ishr (n := 11) dX10_isPiece_10 rfl ?_
    refine j_callSe (n := 14) (Y1 := Y_X10_isSign) dX10_isPiece_11 m_X10_98 cy_X10_isSign cs_X10_isSign (c_isSign) rfl rfl rfl (by omega) (by omega) (by omega) (Nat.le_of_ble_eq_true rfl) ?_
    refine j_if_eq (n := 17) 32 dX10_isPiece_14 (by decide) rfl (fun c_14 => ?_) (fun c_14 => ?_)
    · refine j_iconst (n := 33) (0) dX10_isPiece_32 rfl (by decide) ?_
      exact j_iret dX10_isPiece_33 rfl (by first | rfl | decide) (by omega) (by omega) ⟨by (unfold pcB; first | (rw [b01_n0 c_4]; rfl) | (rw [b01_0 c_4, b01_0 c_14]; rfl) | (rw [b01_0 c_4, b01_n0 c_14, b01_0 c_25]; rfl) | (rw [b01_0 c_4, b01_n0 c_14, b01_n0 c_25]; rfl)), rfl⟩
    · refine j_iload_n (n := 18) dX10_isPiece_17 rfl rfl ?_
      refine j_sipush (n := 21) (255) dX10_isPiece_18 rfl (by decide) ?_
      refine j_iand (n := 22) dX10_isPiece_21 rfl ?_
      refine j_callSe (n := 25) (Y1 := Y_X10_isSign) dX10_isPiece_22 m_X10_98 cy_X10_isSign cs_X10_isSign (c_isSign) rfl rfl rfl (by omega) (by omega) (by omega) (Nat.le_of_ble_eq_true rfl) ?_
      refine j_if_eq (n := 28) 32 dX10_isPiece_25 (by decide) rfl (fun c_25 => ?_) (fun c_25 => ?_)
      · refine j_iconst (n := 33) (0) dX10_isPiece_32 rfl (by decide) ?_
        exact j_iret dX10_isPiece_33 rfl (by first | rfl | decide) (by omega) (by omega) ⟨by (unfold pcB; first | (rw [b01_n0 c_4]; rfl) | (rw [b01_0 c_4, b01_0 c_14]; rfl) | (rw [b01_0 c_4, b01_n0 c_14, b01_0 c_25]; rfl) | (rw [b01_0 c_4, b01_n0 c_14, b01_n0 c_25]; rfl)), rfl⟩
      · refine j_iconst (n := 29) (1) dX10_isPiece_28 rfl (by decide) ?_
        refine j_goto 33 dX10_isPiece_29 (by decide) ?_
        exact j_iret dX10_isPiece_33 rfl (by first | rfl | decide) (by omega) (by omega) ⟨by (unfold pcB; first | (rw [b01_n0 c_4]; rfl) | (rw [b01_0 c_4, b01_0 c_14]; rfl) | (rw [b01_0 c_4, b01_n0 c_14, b01_0 c_25]; rfl) | (rw [b01_0 c_4, b01_n0 c_14, b01_n0 c_25]; rfl)), rfl⟩
def setB (x : Int32) : Bool := decide (x ≠ 0) && decide (x &&& (-255) = 0)
theorem c_isSet {x : Int32} : JE G Y_X10_isSet 0 0 0 [.int x] ws (b01 (setB x)) ws := by
  refine JM.of [(0, .int x)] rfl rfl (by simp) (Nat.le_of_ble_eq_true rfl) (by decide +kernel) ?_
  refine j_iload_n (n := 1) dX10_isSet_0 rfl rfl ?_
  refine j_if_eq (n := 4) 16 dX10_isSet_1 (by decide) rfl (fun c_1 => ?_) (fun c_1 => ?_)
  · refine j_iconst (n := 17) (0) dX10_isSet_16 rfl (by decide) ?_
    exact j_iret dX10_isSet_17 rfl (by first | rfl | decide) (by omega) (by omega) ⟨by first | (simp [setB, c_1, c_9, b01]; done) | (simp [setB, c_1, b01]; done), rfl⟩
  · refine j_iload_n (n := 5) dX10_isSet_4 rfl rfl ?_
    refine j_sipush (n := 8) (-255) dX10_isSet_5 rfl (by decide) ?_
    refine j_iand (n := 9) dX10_isSet_8 rfl ?_
    refine j_if_ne (n := 12) 16 dX10_isSet_9 (by decide) rfl (fun c_9 => ?_) (fun c_9 => ?_)
    · refine j_iconst (n := 17) (0) dX10_isSet_16 rfl (by decide) ?_
      exact j_iret dX10_isSet_17 rfl (by first | rfl | decide) (by omega) (by omega) ⟨by first | (simp [setB, c_1, c_9, b01]; done) | (simp [setB, c_1, b01]; done), rfl⟩
    · refine j_iconst (n := 13) (1) dX10_isSet_12 rfl (by decide) ?_
      refine j_goto 17 dX10_isSet_13 (by decide) ?_
      exact j_iret dX10_isSet_17 rfl (by first | rfl | decide) (by omega) (by omega) ⟨by first | (simp [setB, c_1, c_9, b01]; done) | (simp [setB, c_1, b01]; done), rfl⟩
theorem c_bit {x : Int32} : JE G Y_X10_bit 0 0 0 [.int x] ws (if x = 0 then 0 else 1) ws := by
  refine JM.of [(0, .int x)] rfl rfl (by simp) (Nat.le_of_ble_eq_true rfl) (by decide +kernel) ?_
  refine j_iload_n (n := 1) dX10_bit_0 rfl rfl ?_
  refine j_if_eq (n := 4) 8 dX10_bit_1 (by decide) rfl (fun c_1 => ?_) (fun c_1 => ?_)
  · refine j_iconst (n := 9) (0) dX10_bit_8 rfl (by decide) ?_
    exact j_iret dX10_bit_9 rfl rfl (by omega) (by omega) ⟨by simp [c_1], rfl⟩
  · refine j_iconst (n := 5) (1) dX10_bit_4 rfl (by decide) ?_
    refine j_goto 9 dX10_bit_5 (by decide) ?_
    exact j_iret dX10_bit_9 rfl rfl (by omega) (by omega) ⟨by simp [c_1], rfl⟩
-- SignTable: its cell k0, scripts k1, hows k2
def howF (hw : Nat → Int32) (x : Int32) : Int32 := if sgB x = true then hw x.toNatClampNeg else 1
def scrF (sc : Nat → Int32) (x : Int32) : Int32 := if sgB x = true then sc x.toNatClampNeg else 0
theorem sg_nat {x : Int32} (h : sgB x = true) : ∃ j : Nat, x = nI j ∧ 33 ≤ j ∧ j ≤ 126 := by
  have h' : 33 ≤ x ∧ x ≤ 126 := by simpa [sgB] using h
  obtain ⟨j, hj, rfl⟩ := nI_of2 (x := x) (M := 126) (n := 126) rfl (fun q => by
    have := Int32.lt_iff_toInt_lt.mp q
    have h2 := Int32.le_iff_toInt_le.mp h'.1
    simp at this h2
    omega) h'.2
  refine ⟨j, rfl, ?_, hj⟩
  have h2 := Int32.le_iff_toInt_le.mp h'.1
  rw [nI_toInt (by omega)] at h2
  simp at h2
  omega
theorem sg_of {j : Nat} (h1 : 33 ≤ j) (h2 : j ≤ 126) : sgB (nI j) = true := by
  have e1 : (33 : Int32) ≤ nI j := (nI_leI (a := 33) (b := j) (by omega) (by omega)).mpr h1
  have e2 : nI j ≤ (126 : Int32) := (nI_leI (a := j) (b := 126) (by omega) (by omega)).mpr h2
  simp [sgB, e1, e2]
theorem c_howOf {a0 a1 a2 : Nat} {stamp : Int32} {hw : Nat → Int32} {x : Int32} (k0 : Nat) (h0 : ws[k0]? = some (a0, .inr (7, [.ref a1, .ref a2, .int stamp]))) (k2 : Nat) (h2 : ws[k2]? = some (a2, .inl (gI G, 127, .inl hw))) : JE G Y_X7_howOf 1 0 0 [.ref a0, .int x] ws (howF hw x) ws := by
  refine JM.of [(0, .ref a0), (1, .int x)] rfl rfl (by simp) (Nat.le_of_ble_eq_true rfl) (by decide +kernel) ?_
  refine j_iload_n (n := 1) dX7_howOf_0 rfl rfl ?_
  refine j_callSNe (n := 4) (Y1 := Y_X10_isSign) dX7_howOf_1 m_X7_28 cy_X10_isSign cs_X10_isSign (c_isSign) rfl rfl rfl (by omega) (by omega) (by omega) (Nat.le_of_ble_eq_true rfl) ?_
  refine j_if_eq (n := 7) 16 dX7_howOf_4 (by decide) rfl (fun c => ?_) (fun c => ?_)
  · refine j_iconst (n := 17) (1) dX7_howOf_16 rfl (by decide) ?_
    exact j_iret dX7_howOf_17 rfl rfl (by omega) (by omega) (⟨by simp [howF, b01_0 c], rfl⟩)
  · have hs := b01_n0 c
    obtain ⟨j, rfl, hj1, hj2⟩ := sg_nat hs
    refine j_aload_n (n := 8) dX7_howOf_7 rfl rfl ?_
    refine j_get (n := 11) _ dX7_howOf_8 f_X7_15 rfl h0 rfl ?_
    refine j_iload_n (n := 12) dX7_howOf_11 rfl rfl ?_
    refine j_iald (n := 13) _ j dX7_howOf_12 rfl h2 rfl (by omega) (by omega) ?_
    refine j_goto 17 dX7_howOf_13 (by decide) ?_
    exact j_iret dX7_howOf_17 rfl rfl (by omega) (by omega) (⟨by simp [howF, hs, nI_clamp (show j < 2 ^ 31 by omega)], rfl⟩)
theorem c_scriptOf {a0 a1 a2 : Nat} {stamp : Int32} {sc : Nat → Int32} {x : Int32} (k0 : Nat) (h0 : ws[k0]? = some (a0, .inr (7, [.ref a1, .ref a2, .int stamp]))) (k1 : Nat) (h1 : ws[k1]? = some (a1, .inl (gI G, 127, .inl sc))) : JE G Y_X7_scriptOf 1 0 0 [.ref a0, .int x] ws (scrF sc x) ws := by
  refine JM.of [(0, .ref a0), (1, .int x)] rfl rfl (by simp) (Nat.le_of_ble_eq_true rfl) (by decide +kernel) ?_
  refine j_iload_n (n := 1) dX7_scriptOf_0 rfl rfl ?_
  refine j_callSNe (n := 4) (Y1 := Y_X10_isSign) dX7_scriptOf_1 m_X7_28 cy_X10_isSign cs_X10_isSign (c_isSign) rfl rfl rfl (by omega) (by omega) (by omega) (Nat.le_of_ble_eq_true rfl) ?_
  refine j_if_eq (n := 7) 16 dX7_scriptOf_4 (by decide) rfl (fun c => ?_) (fun c => ?_)
  · refine j_iconst (n := 17) (0) dX7_scriptOf_16 rfl (by decide) ?_
    exact j_iret dX7_scriptOf_17 rfl rfl (by omega) (by omega) (⟨by simp [scrF, b01_0 c], rfl⟩)
  · have hs := b01_n0 c
    obtain ⟨j, rfl, hj1, hj2⟩ := sg_nat hs
    refine j_aload_n (n := 8) dX7_scriptOf_7 rfl rfl ?_
    refine j_get (n := 11) _ dX7_scriptOf_8 f_X7_9 rfl h0 rfl ?_
    refine j_iload_n (n := 12) dX7_scriptOf_11 rfl rfl ?_
    refine j_iald (n := 13) _ j dX7_scriptOf_12 rfl h1 rfl (by omega) (by omega) ?_
    refine j_goto 17 dX7_scriptOf_13 (by decide) ?_
    exact j_iret dX7_scriptOf_17 rfl rfl (by omega) (by omega) (⟨by simp [scrF, hs, nI_clamp (show j < 2 ^ 31 by omega)], rfl⟩)
end LF
end
section
/-! the JDK's own: Arrays.fill, Arrays.copyOf, Integer.bitCount -/
theorem nI_inc (i : Nat) : nI i + Int32.ofInt 1 = nI (i + 1) := (nI_succ i).symm
theorem nI_dec (i : Nat) : nI (i + 1) + Int32.ofInt (-1) = nI i := pk_m1 i
section JT
variable {G : GT} {Y : YT} {d mc ms : Nat} {post : OT} {pc n : Nat} {lv : List (Nat × Value)} {st : List Value} {ws : va_W} {kc ks : Nat}
theorem j_top {x : Int32} (y : Int32) (h : x = y) (k : JJ G Y d mc ms post pc lv (.int y :: st) ws kc ks) : JJ G Y d mc ms post pc lv (.int x :: st) ws kc ks := by subst h; exact k
theorem j_ws {ws' : va_W} (h : ws = ws') (k : JJ G Y d mc ms post pc lv st ws' kc ks) : JJ G Y d mc ms post pc lv st ws kc ks := by subst h; exact k
theorem gs_app {α : Type} {ws : List α} {k : Nat} {x : α} {l : List α} (h : ws[k]? = some x) : (ws ++ l)[k]? = some x := by
  rw [List.getElem?_append_left (List.getElem?_eq_some_iff.mp h).1]; exact h
theorem set_self {α : Type} {ws : List α} {k : Nat} {x : α} (h : ws[k]? = some x) : ws.set k x = ws := by
  apply List.ext_getElem?
  intro i
  by_cases hi : k = i
  · subst hi; rw [gs_eq h, h]
  · rw [List.getElem?_set_ne hi]
theorem gs_last {α : Type} {ws : List α} {x : α} : (ws ++ [x])[ws.length]? = some x := by
  rw [List.getElem?_append_right (Nat.le_refl _), Nat.sub_self]; rfl
theorem set_last {α : Type} {ws : List α} {x y : α} : (ws ++ [x]).set ws.length y = ws ++ [y] := by
  rw [List.set_append_right _ _ (Nat.le_refl _), Nat.sub_self]; rfl
theorem set_app {α : Type} {ws l : List α} {k : Nat} {x y : α} (h : ws[k]? = some x) : (ws ++ l).set k y = ws.set k y ++ l := by
  rw [List.set_append_left _ _ (List.getElem?_eq_some_iff.mp h).1]
theorem gs_lt {α : Type} {ws : List α} {k : Nat} {x : α} (h : ws[k]? = some x) : k < ws.length := (List.getElem?_eq_some_iff.mp h).1
theorem sy_1 : Cond.native arraycopyName ∈ BW := List.mem_filter.mpr ⟨by decide +kernel, rfl⟩
theorem sy_2 : Cond.static arraycopyName ∈ BW := List.mem_filter.mpr ⟨by decide +kernel, rfl⟩
theorem sy_3 : Cond.initialized "java/lang/System" ∈ BW := List.mem_filter.mpr ⟨by decide +kernel, rfl⟩
theorem sy_4 : Cond.methodLink RJ7 150 arraycopyName ∈ BW := List.mem_filter.mpr ⟨by decide +kernel, rfl⟩
theorem j_copyi (q0 q1 m : Nat) {idx a a0 n0 n1 : Nat} {f g : Nat → Int32} {x : Int32} (hd : decode Y.2.1 pc = .ok (.invokestatic idx, 3)) (hF : Cond.methodLink Y.1.cls idx arraycopyName ∈ BW) (hn : pc + 3 = n) (hd1 : 1 ≤ d) (ha0 : ws[q0]? = some (a0, .inl (gI G, n0, .inl f))) (ha1 : ws[q1]? = some (a, .inl (gI G, n1, .inl g))) (hx : x = nI m) (h0 : m ≤ n0) (h1 : m ≤ n1) (hm : m < 2147483648) (hst : (st.map fun v => v.category).sum ≤ 8)
    (kk : JJ G Y d mc ms post n lv st (ws.set q1 (a, .inl (gI G, n1, .inl (va_cpy f g 0 0 m)))) kc ks) : JJ G Y d mc ms post pc lv (.int x :: .int 0 :: .ref a :: .int 0 :: .ref a0 :: st) ws kc ks := by
  subst hn
  subst hx
  have hc : (nI m).toNatClampNeg = m := nI_clamp hm
  intro p e s mm args below meth c H locs ls C hS hW hlv
  have ht := C.2.2.2.2.2.2.2.1
  have hi := C.2.2.2.2.2.2.2.2.1.1.1
  have z0 : (0 : Int32).toNatClampNeg = 0 := rfl
  refine va_copyi C.1 C.2.1 (by rw [C.2.2.1]; exact hlv.1.1.symm) C.2.2.2.2.2.2.1 (ht _ hF) (ht _ sy_1) (ht _ sy_2) (ht _ sy_3) C.2.2.2.2.2.2.2.2.1.2.1 hW.1 hW.2 hS q0 q1 0 0 ha0 ha1 hi hi rfl (by decide) (by decide) (nI_pos hm) (by rw [z0, hc]; omega) (by rw [z0, hc]; omega) (fun _ _ => rfl) hd1 ?_ hd ?_
  · have : nativeFrameWords "java/lang/System" "arraycopy" 5 ≤ 20 := by decide +kernel
    show _ + _ ≤ 41 * d
    omega
  · intro H1 locs1 hP hD hS1
    rw [z0, hc] at hP hD
    exact kk p e s mm args below meth c H1 locs1 ls C hS1 ⟨hP, hD⟩ hlv
end JT
def fillF (f : Nat → Int32) (lo hi : Nat) (v : Int32) : Nat → Int32 := fun k => if lo ≤ k ∧ k < hi then v else f k
theorem fillF_0 (f : Nat → Int32) (lo : Nat) (v : Int32) : fillF f lo lo v = f := by
  funext k; unfold fillF; rw [if_neg (by omega)]
theorem fillF_s (f : Nat → Int32) (lo i : Nat) (v : Int32) (h : lo ≤ i) : upd (fillF f lo i v) i v = fillF f lo (i + 1) v := by
  funext k; unfold upd fillF
  by_cases hk : k = i
  · subst hk; rw [if_pos rfl, if_pos (by omega)]
  · rw [if_neg hk]
    by_cases h2 : lo ≤ k ∧ k < i
    · rw [if_pos h2, if_pos (by omega)]
    · rw [if_neg h2, if_neg (by omega)]
section JD
variable {G : GT} {ws : va_W}
theorem c_rangeCheck {N lo hi : Nat} (h1 : lo ≤ hi) (h2 : hi ≤ N) (hN : N < 2147483648) : JV G Y_J7_rangeCheck_23922 0 0 0 [.int (nI N), .int (nI lo), .int (nI hi)] ws ws := by
  refine JM.of [(0, .int (nI N)), (1, .int (nI lo)), (2, .int (nI hi))] rfl rfl (by simp) (Nat.le_of_ble_eq_true rfl) (by decide +kernel) ?_
  refine j_iload_n (n := 1) dJ7_rangeCheck_23922_0 rfl rfl ?_
  refine j_iload_n (n := 2) dJ7_rangeCheck_23922_1 rfl rfl ?_
  refine j_icmp_le (n := 5) 46 dJ7_rangeCheck_23922_2 (by decide) rfl (fun c => ?_) (fun c => ?_)
  · refine j_iload_n (n := 47) dJ7_rangeCheck_23922_46 rfl rfl ?_
    refine j_if_ge (n := 50) 59 dJ7_rangeCheck_23922_47 (by decide) rfl (fun c2 => ?_) (fun c2 => ?_)
    · refine j_iload_n (n := 60) dJ7_rangeCheck_23922_59 rfl rfl ?_
      refine j_iload_n (n := 61) dJ7_rangeCheck_23922_60 rfl rfl ?_
      refine j_icmp_le (n := 64) 73 dJ7_rangeCheck_23922_61 (by decide) rfl (fun c3 => ?_) (fun c3 => ?_)
      · exact j_vret dJ7_rangeCheck_23922_73 rfl (by omega) (by omega) (rfl)
      · exact absurd (nI_le h2 (by omega)) c3
    · exact absurd (nI_pos' (by omega)) c2
  · exact absurd (nI_le h1 (by omega)) c
theorem fill_loop {a k N lo hi : Nat} {f : Nat → Int32} {v : Int32} (h0 : ws[k]? = some (a, .inl (gI G, N, .inl f))) (hhi : hi ≤ N) (hN : N < 2147483648) : ∀ (n i : Nat), i + n = hi → lo ≤ i → JJ G Y_J7_fill_fda19 1 0 0 (Qv (fun w => w = ws.set k (a, .inl (gI G, N, .inl (fillF f lo hi v))))) 10 [(0, .ref a), (1, .int (nI lo)), (2, .int (nI hi)), (3, .int v), (4, .int (nI i))] [] (ws.set k (a, .inl (gI G, N, .inl (fillF f lo i v)))) 0 0 := by
  intro n
  induction n with
  | zero =>
    intro i hi1 hlo
    refine j_iload (n := 12) dJ7_fill_fda19_10 rfl rfl ?_
    refine j_iload_n (n := 13) dJ7_fill_fda19_12 rfl rfl ?_
    refine j_icmp_ge (n := 16) 27 dJ7_fill_fda19_13 (by decide) rfl (fun c => ?_) (fun c => ?_)
    · obtain rfl : i = hi := by omega
      exact j_vret dJ7_fill_fda19_27 rfl (by omega) (by omega) (rfl)
    · exact absurd (nI_le (show hi ≤ i by omega) (by omega)) c
  | succ n ih =>
    intro i hi1 hlo
    refine j_iload (n := 12) dJ7_fill_fda19_10 rfl rfl ?_
    refine j_iload_n (n := 13) dJ7_fill_fda19_12 rfl rfl ?_
    refine j_icmp_ge (n := 16) 27 dJ7_fill_fda19_13 (by decide) rfl (fun c => ?_) (fun c => ?_)
    · exact absurd c (nI_ge (show i < hi by omega) (by omega))
    · refine j_aload_n (n := 17) dJ7_fill_fda19_16 rfl rfl ?_
      refine j_iload (n := 19) dJ7_fill_fda19_17 rfl rfl ?_
      refine j_iload_n (n := 20) dJ7_fill_fda19_19 rfl rfl ?_
      refine j_iast (n := 21) _ i dJ7_fill_fda19_20 rfl (gs_eq h0) rfl (by omega) (by omega) ?_
      refine j_iinc (n := 24) (nI (i + 1)) dJ7_fill_fda19_21 rfl rfl (nI_inc i) (by decide) ?_
      refine j_goto 10 dJ7_fill_fda19_24 (by decide) ?_
      refine j_ws (by rw [List.set_set, fillF_s f lo i v hlo]) ?_
      exact ih (i + 1) (by omega) (by omega)
theorem c_fill4 {a N lo hi : Nat} {f : Nat → Int32} {v : Int32} (k : Nat) (h0 : ws[k]? = some (a, .inl (gI G, N, .inl f))) (h1 : lo ≤ hi) (h2 : hi ≤ N) (hN : N < 2147483648) : JV G Y_J7_fill_fda19 1 0 0 [.ref a, .int (nI lo), .int (nI hi), .int v] ws (ws.set k (a, .inl (gI G, N, .inl (fillF f lo hi v)))) := by
  refine JM.of [(0, .ref a), (1, .int (nI lo)), (2, .int (nI hi)), (3, .int v)] rfl rfl (by simp) (Nat.le_of_ble_eq_true rfl) (by decide +kernel) ?_
  refine j_aload_n (n := 1) dJ7_fill_fda19_0 rfl rfl ?_
  refine j_alen (n := 2) _ dJ7_fill_fda19_1 rfl h0 ?_
  refine j_iload_n (n := 3) dJ7_fill_fda19_2 rfl rfl ?_
  refine j_iload_n (n := 4) dJ7_fill_fda19_3 rfl rfl ?_
  refine j_callSw (n := 7) (Y1 := Y_J7_rangeCheck_23922) dJ7_fill_fda19_4 m_J7_13 cy_J7_rangeCheck_23922 cs_J7_rangeCheck_23922 (c_rangeCheck h1 h2 hN) rfl rfl rfl (by omega) (by omega) (by omega) (Nat.le_of_ble_eq_true rfl) ?_
  refine j_iload_n (n := 8) dJ7_fill_fda19_7 rfl rfl ?_
  refine j_istore (n := 10) dJ7_fill_fda19_8 rfl (by decide) ?_
  have hs : ws = ws.set k (a, .inl (gI G, N, .inl (fillF f lo lo v))) := by
    rw [fillF_0]
    exact (set_self h0).symm
  refine j_ws hs ?_
  exact fill_loop h0 h2 hN (hi - lo) lo (by omega) (Nat.le_refl _)
theorem fillA_loop {a k N : Nat} {f : Nat → Int32} {v : Int32} (h0 : ws[k]? = some (a, .inl (gI G, N, .inl f))) (hN : N < 2147483648) : ∀ (n i : Nat), i + n = N → JJ G Y_J7_fill_53178 0 0 0 (Qv (fun w => w = ws.set k (a, .inl (gI G, N, .inl (fillF f 0 N v))))) 5 [(0, .ref a), (1, .int v), (2, .int (nI i)), (3, .int (nI N))] [] (ws.set k (a, .inl (gI G, N, .inl (fillF f 0 i v)))) 0 0 := by
  intro n
  induction n with
  | zero =>
    intro i hi1
    refine j_iload_n (n := 6) dJ7_fill_53178_5 rfl rfl ?_
    refine j_iload_n (n := 7) dJ7_fill_53178_6 rfl rfl ?_
    refine j_icmp_ge (n := 10) 20 dJ7_fill_53178_7 (by decide) rfl (fun c => ?_) (fun c => ?_)
    · obtain rfl : i = N := by omega
      exact j_vret dJ7_fill_53178_20 rfl (by omega) (by omega) (rfl)
    · exact absurd (nI_le (show N ≤ i by omega) (by omega)) c
  | succ n ih =>
    intro i hi1
    refine j_iload_n (n := 6) dJ7_fill_53178_5 rfl rfl ?_
    refine j_iload_n (n := 7) dJ7_fill_53178_6 rfl rfl ?_
    refine j_icmp_ge (n := 10) 20 dJ7_fill_53178_7 (by decide) rfl (fun c => ?_) (fun c => ?_)
    · exact absurd c (nI_ge (show i < N by omega) (by omega))
    · refine j_aload_n (n := 11) dJ7_fill_53178_10 rfl rfl ?_
      refine j_iload_n (n := 12) dJ7_fill_53178_11 rfl rfl ?_
      refine j_iload_n (n := 13) dJ7_fill_53178_12 rfl rfl ?_
      refine j_iast (n := 14) _ i dJ7_fill_53178_13 rfl (gs_eq h0) rfl (by omega) (by omega) ?_
      refine j_iinc (n := 17) (nI (i + 1)) dJ7_fill_53178_14 rfl rfl (nI_inc i) (by decide) ?_
      refine j_goto 5 dJ7_fill_53178_17 (by decide) ?_
      refine j_ws (by rw [List.set_set, fillF_s f 0 i v (Nat.zero_le _)]) ?_
      exact ih (i + 1) (by omega)
theorem c_fillA {a N : Nat} {f : Nat → Int32} {v : Int32} (k : Nat) (h0 : ws[k]? = some (a, .inl (gI G, N, .inl f))) (hN : N < 2147483648) : JV G Y_J7_fill_53178 0 0 0 [.ref a, .int v] ws (ws.set k (a, .inl (gI G, N, .inl (fillF f 0 N v)))) := by
  refine JM.of [(0, .ref a), (1, .int v)] rfl rfl (by simp) (Nat.le_of_ble_eq_true rfl) (by decide +kernel) ?_
  refine j_iconst (n := 1) (0) dJ7_fill_53178_0 rfl (by decide) ?_
  refine j_istore_n (n := 2) dJ7_fill_53178_1 rfl (by decide) ?_
  refine j_aload_n (n := 3) dJ7_fill_53178_2 rfl rfl ?_
  refine j_alen (n := 4) _ dJ7_fill_53178_3 rfl h0 ?_
  refine j_istore_n (n := 5) dJ7_fill_53178_4 rfl (by decide) ?_
  have hs : ws = ws.set k (a, .inl (gI G, N, .inl (fillF f 0 0 v))) := by
    rw [fillF_0]
    exact (set_self h0).symm
  refine j_ws hs ?_
  exact fillA_loop h0 hN N 0 (by omega)
theorem c_copyOf {a0 N n : Nat} {f : Nat → Int32} (k : Nat) (h0 : ws[k]? = some (a0, .inl (gI G, N, .inl f))) (hn : n < N) (hN : N < 134217728) : JM G Y_J7_copyOf_59c91 1 1 n [.ref a0, .int (nI n)] ws (Qr (fun o w => ∃ a : Nat, o = some a ∧ w = ws ++ [(a, .inl (gI G, n, .inl (va_cpy f (fun _ => 0) 0 0 n)))])) := by
  refine JM.of [(0, .ref a0), (1, .int (nI n))] rfl rfl (by simp) (Nat.le_of_ble_eq_true rfl) (by decide +kernel) ?_
  refine j_iload_n (n := 1) dJ7_copyOf_59c91_0 rfl rfl ?_
  refine j_aload_n (n := 2) dJ7_copyOf_59c91_1 rfl rfl ?_
  refine j_alen (n := 3) _ dJ7_copyOf_59c91_2 rfl h0 ?_
  refine j_icmp_ne 14 dJ7_copyOf_59c91_3 (by decide) rfl (fun c => ?_) (fun c => ?_)
  · refine j_iload_n (n := 15) dJ7_copyOf_59c91_14 rfl rfl ?_
    refine j_newi n dJ7_copyOf_59c91_15 rfl rfl (by omega) (by omega) (by omega) (fun a => ?_)
    refine j_astore_n (n := 18) dJ7_copyOf_59c91_17 rfl (by decide) ?_
    refine j_aload_n (n := 19) dJ7_copyOf_59c91_18 rfl rfl ?_
    refine j_iconst (n := 20) (0) dJ7_copyOf_59c91_19 rfl (by decide) ?_
    refine j_aload_n (n := 21) dJ7_copyOf_59c91_20 rfl rfl ?_
    refine j_iconst (n := 22) (0) dJ7_copyOf_59c91_21 rfl (by decide) ?_
    refine j_aload_n (n := 23) dJ7_copyOf_59c91_22 rfl rfl ?_
    refine j_alen (n := 24) _ dJ7_copyOf_59c91_23 rfl (gs_app h0) ?_
    refine j_iload_n (n := 25) dJ7_copyOf_59c91_24 rfl rfl ?_
    refine j_min (n := 28) dJ7_copyOf_59c91_25 m_J7_304 rfl (by omega) (by omega) (by omega) (Nat.le_of_ble_eq_true rfl) ?_
    refine j_top (nI n) ?_ ?_
    · show (if nI n < nI N then nI n else nI N) = nI n
      rw [if_pos (nI_lt hn (by omega))]
    refine j_copyi _ _ n dJ7_copyOf_59c91_28 sy_4 rfl (by omega) (gs_app h0) gs_last rfl (by omega) (by omega) (by omega) (Nat.le_of_ble_eq_true rfl) ?_
    refine j_aload_n (n := 32) dJ7_copyOf_59c91_31 rfl rfl ?_
    refine j_aret (some a) rfl dJ7_copyOf_59c91_32 rfl (Or.inr ⟨_, rfl⟩) (by omega) (by omega) ⟨a, rfl, set_last⟩
  · exact absurd ((nI_eq (by omega) (by omega)).mp c) (by omega)
end JD
end
section
/-! SignTable, ScriptSets, Register, Entry, the three lists -/
theorem nI_sub1 (i : Nat) : nI (i + 1) - 1 = nI i := nI_pred i
theorem ix3 (i : Int32) {n : Nat} (hn : n < 2147483648) : i < 0 ∨ nI n ≤ i ∨ ∃ j : Nat, j < n ∧ i = nI j := pk_ix i hn
theorem sw2 {w : Int32} (h0 : ¬ w = 0) (h1 : ¬ w = 1) : w.toInt < 0 ∨ 1 < w.toInt := by
  have a0 := lv_neT h0 (show (0 : Int32).toInt = 0 from rfl)
  have a1 := lv_neT h1 (show (1 : Int32).toInt = 1 from rfl)
  omega
theorem sw3 {w : Int32} (h0 : ¬ w = 0) (h1 : ¬ w = 1) (h2 : ¬ w = 2) : w.toInt < 0 ∨ 2 < w.toInt := by
  have a0 := lv_neT h0 (show (0 : Int32).toInt = 0 from rfl)
  have a1 := lv_neT h1 (show (1 : Int32).toInt = 1 from rfl)
  have a2 := lv_neT h2 (show (2 : Int32).toInt = 2 from rfl)
  omega
def tl2 (n : Nat) (f g : Nat → Int32) (i w : Int32) : Int32 := if i < 0 ∨ nI n ≤ i then -1 else if w = 0 then f i.toNatClampNeg else if w = 1 then g i.toNatClampNeg else -1
def tl3 (n : Nat) (f g h : Nat → Int32) (i w : Int32) : Int32 := if i < 0 ∨ nI n ≤ i then -1 else if w = 0 then f i.toNatClampNeg else if w = 1 then g i.toNatClampNeg else if w = 2 then h i.toNatClampNeg else -1
/-- bitCount, as it is reckoned -/
def bcF (x : Int32) : Int32 :=
  let ush (a b : Int32) : Int32 := (a.toUInt32 >>> (b.toUInt32 &&& Int32.toUInt32 31)).toInt32
  let a := x - (ush x 1 &&& 1431655765)
  let b := (a &&& 858993459) + (ush a 2 &&& 858993459)
  let c := (b + ush b 4) &&& 252645135
  let e := c + ush c 8
  let f := e + ush e 16
  f &&& 63
section SM
variable {G : GT} {ws : va_W}
theorem c_bitCount {x : Int32} : JE G Y_J6_bitCount_0f7a4 0 0 0 [.int x] ws (bcF x) ws := by
  refine JM.of [(0, .int x)] rfl rfl (by simp) (Nat.le_of_ble_eq_true rfl) (by decide +kernel) ?_
  refine j_iload_n (n := 1) dJ6_bitCount_0f7a4_0 rfl rfl ?_
  refine j_iload_n (n := 2) dJ6_bitCount_0f7a4_1 rfl rfl ?_
  refine j_iconst (n := 3) (1) dJ6_bitCount_0f7a4_2 rfl (by decide) ?_
  refine j_iushr (n := 4) dJ6_bitCount_0f7a4_3 rfl ?_
  refine j_ldcw (n := 7) dJ6_bitCount_0f7a4_4 rfl k_J6_265 ?_
  refine j_iand (n := 8) dJ6_bitCount_0f7a4_7 rfl ?_
  refine j_isub (n := 9) dJ6_bitCount_0f7a4_8 rfl ?_
  refine j_istore_n (n := 10) dJ6_bitCount_0f7a4_9 rfl (by decide) ?_
  refine j_iload_n (n := 11) dJ6_bitCount_0f7a4_10 rfl rfl ?_
  refine j_ldcw (n := 14) dJ6_bitCount_0f7a4_11 rfl k_J6_266 ?_
  refine j_iand (n := 15) dJ6_bitCount_0f7a4_14 rfl ?_
  refine j_iload_n (n := 16) dJ6_bitCount_0f7a4_15 rfl rfl ?_
  refine j_iconst (n := 17) (2) dJ6_bitCount_0f7a4_16 rfl (by decide) ?_
  refine j_iushr (n := 18) dJ6_bitCount_0f7a4_17 rfl ?_
  refine j_ldcw (n := 21) dJ6_bitCount_0f7a4_18 rfl k_J6_266 ?_
  refine j_iand (n := 22) dJ6_bitCount_0f7a4_21 rfl ?_
  refine j_iadd (n := 23) dJ6_bitCount_0f7a4_22 rfl ?_
  refine j_istore_n (n := 24) dJ6_bitCount_0f7a4_23 rfl (by decide) ?_
  refine j_iload_n (n := 25) dJ6_bitCount_0f7a4_24 rfl rfl ?_
  refine j_iload_n (n := 26) dJ6_bitCount_0f7a4_25 rfl rfl ?_
  refine j_iconst (n := 27) (4) dJ6_bitCount_0f7a4_26 rfl (by decide) ?_
  refine j_iushr (n := 28) dJ6_bitCount_0f7a4_27 rfl ?_
  refine j_iadd (n := 29) dJ6_bitCount_0f7a4_28 rfl ?_
  refine j_ldcw (n := 32) dJ6_bitCount_0f7a4_29 rfl k_J6_267 ?_
  refine j_iand (n := 33) dJ6_bitCount_0f7a4_32 rfl ?_
  refine j_istore_n (n := 34) dJ6_bitCount_0f7a4_33 rfl (by decide) ?_
  refine j_iload_n (n := 35) dJ6_bitCount_0f7a4_34 rfl rfl ?_
  refine j_iload_n (n := 36) dJ6_bitCount_0f7a4_35 rfl rfl ?_
  refine j_bipush (n := 38) (8) dJ6_bitCount_0f7a4_36 rfl (by decide) ?_
  refine j_iushr (n := 39) dJ6_bitCount_0f7a4_38 rfl ?_
  refine j_iadd (n := 40) dJ6_bitCount_0f7a4_39 rfl ?_
  refine j_istore_n (n := 41) dJ6_bitCount_0f7a4_40 rfl (by decide) ?_
  refine j_iload_n (n := 42) dJ6_bitCount_0f7a4_41 rfl rfl ?_
  refine j_iload_n (n := 43) dJ6_bitCount_0f7a4_42 rfl rfl ?_
  refine j_bipush (n := 45) (16) dJ6_bitCount_0f7a4_43 rfl (by decide) ?_
  refine j_iushr (n := 46) dJ6_bitCount_0f7a4_45 rfl ?_
  refine j_iadd (n := 47) dJ6_bitCount_0f7a4_46 rfl ?_
  refine j_istore_n (n := 48) dJ6_bitCount_0f7a4_47 rfl (by decide) ?_
  refine j_iload_n (n := 49) dJ6_bitCount_0f7a4_48 rfl rfl ?_
  refine j_bipush (n := 51) (63) dJ6_bitCount_0f7a4_49 rfl (by decide) ?_
  refine j_iand (n := 52) dJ6_bitCount_0f7a4_51 rfl ?_
  exact j_iret dJ6_bitCount_0f7a4_52 rfl rfl (by omega) (by omega) (⟨rfl, rfl⟩)
theorem jw_pick {G : GT} {ws ws' : va_W} {H : Heap} (is : List Nat) (hn : va_nd is = true) (hs : is.map (fun i => ws[i]?) = ws'.map some) (h : JW G ws H) : JW G ws' H := by
  refine ⟨fun k q hk => ?_, h.2.sub is hn hs⟩
  have h1 : (is.map (fun i => ws[i]?))[k]? = some (some q) := by rw [hs, List.getElem?_map, hk]; rfl
  rw [List.getElem?_map] at h1
  cases hi : is[k]? with
  | none => rw [hi] at h1; cases h1
  | some i => rw [hi] at h1; exact h.1 i q (Option.some.inj h1)
theorem j_pick {Y : YT} {d mc ms : Nat} {post : OT} {pc : Nat} {lv : List (Nat × Value)} {st : List Value} {ws ws' : va_W} {kc ks : Nat} (is : List Nat) (hn : va_nd is = true) (hs : is.map (fun i => ws[i]?) = ws'.map some) (kk : JJ G Y d mc ms post pc lv st ws' kc ks) : JJ G Y d mc ms post pc lv st ws kc ks :=
  j_world (fun _ _ => jw_pick is hn hs) kk
theorem c_changeScript {a0 a1 a2 j : Nat} {stamp : Int32} {sc : Nat → Int32} {s : Int32} (k0 : Nat) (h0 : ws[k0]? = some (a0, .inr (7, [.ref a1, .ref a2, .int stamp]))) (k1 : Nat) (h1 : ws[k1]? = some (a1, .inl (gI G, 127, .inl sc))) (hj1 : 33 ≤ j) (hj2 : j ≤ 126) : JE G Y_X7_changeScript 2 0 0 [.ref a0, .int (nI j), .int s] ws (sc j) (ws.set k1 (a1, .inl (gI G, 127, .inl (upd sc j s)))) := by
  have hs := sg_of hj1 hj2
  refine JM.of [(0, .ref a0), (1, .int (nI j)), (2, .int s)] rfl rfl (by simp) (Nat.le_of_ble_eq_true rfl) (by decide +kernel) ?_
  refine j_aload_n (n := 1) dX7_changeScript_0 rfl rfl ?_
  refine j_iload_n (n := 2) dX7_changeScript_1 rfl rfl ?_
  refine j_callVe (n := 5) (Y1 := Y_X7_scriptOf) _ dX7_changeScript_2 m_X7_32 cy_X7_scriptOf ci_X7_scriptOf (c_scriptOf _ h0 _ h1) rfl rfl rfl h0 rfl (by omega) (by omega) (by omega) (Nat.le_of_ble_eq_true rfl) ?_
  refine j_istore_n (n := 6) dX7_changeScript_5 rfl (by decide) ?_
  refine j_iload_n (n := 7) dX7_changeScript_6 rfl rfl ?_
  refine j_callSNe (n := 10) (Y1 := Y_X10_isSign) dX7_changeScript_7 m_X7_28 cy_X10_isSign cs_X10_isSign (c_isSign) rfl rfl rfl (by omega) (by omega) (by omega) (Nat.le_of_ble_eq_true rfl) ?_
  refine j_if_eq (n := 13) 20 dX7_changeScript_10 (by decide) rfl (fun c => ?_) (fun c => ?_)
  · rw [hs] at c; cases c
  · refine j_aload_n (n := 14) dX7_changeScript_13 rfl rfl ?_
    refine j_get (n := 17) _ dX7_changeScript_14 f_X7_9 rfl h0 rfl ?_
    refine j_iload_n (n := 18) dX7_changeScript_17 rfl rfl ?_
    refine j_iload_n (n := 19) dX7_changeScript_18 rfl rfl ?_
    refine j_iast (n := 20) _ j dX7_changeScript_19 rfl h1 rfl (by omega) (by omega) ?_
    refine j_iload_n (n := 21) dX7_changeScript_20 rfl rfl ?_
    exact j_iret dX7_changeScript_21 rfl rfl (by omega) (by omega) (⟨by simp [scrF, hs, nI_clamp (show j < 2 ^ 31 by omega)], rfl⟩)
theorem c_changeHow {a0 a1 a2 j st : Nat} {hw : Nat → Int32} {s : Int32} (k0 : Nat) (h0 : ws[k0]? = some (a0, .inr (7, [.ref a1, .ref a2, .int (nI st)]))) (k2 : Nat) (h2 : ws[k2]? = some (a2, .inl (gI G, 127, .inl hw))) (hne : k0 ≠ k2) (hj1 : 33 ≤ j) (hj2 : j ≤ 126) : JE G Y_X7_changeHow 2 0 0 [.ref a0, .int (nI j), .int s] ws (hw j) (if hw j = s then ws else (ws.set k2 (a2, .inl (gI G, 127, .inl (upd hw j s)))).set k0 (a0, .inr (7, [.ref a1, .ref a2, .int (nI (st + 1))]))) := by
  have hs := sg_of hj1 hj2
  have hh : howF hw (nI j) = hw j := by simp [howF, hs, nI_clamp (show j < 2 ^ 31 by omega)]
  refine JM.of [(0, .ref a0), (1, .int (nI j)), (2, .int s)] rfl rfl (by simp) (Nat.le_of_ble_eq_true rfl) (by decide +kernel) ?_
  refine j_aload_n (n := 1) dX7_changeHow_0 rfl rfl ?_
  refine j_iload_n (n := 2) dX7_changeHow_1 rfl rfl ?_
  refine j_callVe (n := 5) (Y1 := Y_X7_howOf) _ dX7_changeHow_2 m_X7_36 cy_X7_howOf ci_X7_howOf (c_howOf _ h0 _ h2) rfl rfl rfl h0 rfl (by omega) (by omega) (by omega) (Nat.le_of_ble_eq_true rfl) ?_
  refine j_istore_n (n := 6) dX7_changeHow_5 rfl (by decide) ?_
  refine j_iload_n (n := 7) dX7_changeHow_6 rfl rfl ?_
  refine j_callSNe (n := 10) (Y1 := Y_X10_isSign) dX7_changeHow_7 m_X7_28 cy_X10_isSign cs_X10_isSign (c_isSign) rfl rfl rfl (by omega) (by omega) (by omega) (Nat.le_of_ble_eq_true rfl) ?_
  refine j_if_eq (n := 13) 35 dX7_changeHow_10 (by decide) rfl (fun c => ?_) (fun c => ?_)
  · rw [hs] at c; cases c
  · rw [hh]
    refine j_iload_n (n := 14) dX7_changeHow_13 rfl rfl ?_
    refine j_iload_n (n := 15) dX7_changeHow_14 rfl rfl ?_
    refine j_icmp_eq (n := 18) 35 dX7_changeHow_15 (by decide) rfl (fun c2 => ?_) (fun c2 => ?_)
    · rw [if_pos c2]
      refine j_iload_n (n := 36) dX7_changeHow_35 rfl rfl ?_
      exact j_iret dX7_changeHow_36 rfl rfl (by omega) (by omega) (⟨rfl, rfl⟩)
    · rw [if_neg c2]
      refine j_aload_n (n := 19) dX7_changeHow_18 rfl rfl ?_
      refine j_get (n := 22) _ dX7_changeHow_19 f_X7_15 rfl h0 rfl ?_
      refine j_iload_n (n := 23) dX7_changeHow_22 rfl rfl ?_
      refine j_iload_n (n := 24) dX7_changeHow_23 rfl rfl ?_
      refine j_iast (n := 25) _ j dX7_changeHow_24 rfl h2 rfl (by omega) (by omega) ?_
      refine j_aload_n (n := 26) dX7_changeHow_25 rfl rfl ?_
      refine j_dup (n := 27) dX7_changeHow_26 rfl rfl ?_
      refine j_get (n := 30) _ dX7_changeHow_27 f_X7_18 rfl (gs_ne (by omega) h0) rfl ?_
      refine j_iconst (n := 31) (1) dX7_changeHow_30 rfl (by decide) ?_
      refine j_iadd (n := 32) dX7_changeHow_31 rfl ?_
      refine j_top (nI (st + 1)) (nI_1 st) ?_
      refine j_put (n := 35) _ dX7_changeHow_32 f_X7_18 rfl rfl (gs_ne (by omega) h0) (Nat.le_of_ble_eq_true rfl) rfl rfl ?_
      refine j_iload_n (n := 36) dX7_changeHow_35 rfl rfl ?_
      exact j_iret dX7_changeHow_36 rfl rfl (by omega) (by omega) (⟨rfl, rfl⟩)
/-- SETS -/
def heldB (n : Nat) (b : Nat → Int32) (s : Int32) : Bool := (List.range n).any (fun i => decide (s &&& (b i ^^^ (-1)) = 0))
def inB (n : Nat) (b : Nat → Int32) (s : Int32) : Bool := (List.range n).any (fun i => decide (b i = s))
theorem any_t {n : Nat} {P : Nat → Bool} {i : Nat} (hi : i < n) (h : P i = true) : (List.range n).any P = true := List.any_eq_true.mpr ⟨i, List.mem_range.mpr hi, h⟩
theorem any_f {n : Nat} {P : Nat → Bool} (h : ∀ i, i < n → P i = false) : (List.range n).any P = false := by
  rw [List.any_eq_false]
  intro i hi
  rw [h i (List.mem_range.mp hi)]
  exact Bool.false_ne_true
theorem held_loop {a0 a1 sz : Nat} {b : Nat → Int32} {s : Int32} {k0 k1 : Nat} (h0 : ws[k0]? = some (a0, .inr (6, [.ref a1, .int (nI sz)]))) (h1 : ws[k1]? = some (a1, .inl (gI G, 8, .inl b))) (hsz : sz ≤ 8) : ∀ (n i : Nat), i + n = sz → (∀ j, j < i → ¬ s &&& (b j ^^^ (-1)) = 0) → JJ G Y_X6_holdTogether 0 0 0 (Qi (fun r w => r = b01 (heldB sz b s) ∧ w = ws)) 2 [(0, .ref a0), (1, .int s), (2, .int (nI i))] [] ws 0 0 := by
  intro n
  induction n with
  | zero =>
    intro i hi hj
    refine j_iload_n (n := 3) dX6_holdTogether_2 rfl rfl ?_
    refine j_aload_n (n := 4) dX6_holdTogether_3 rfl rfl ?_
    refine j_get (n := 7) _ dX6_holdTogether_4 f_X6_15 rfl h0 rfl ?_
    refine j_icmp_ge (n := 10) 31 dX6_holdTogether_7 (by decide) rfl (fun c => ?_) (fun c => ?_)
    · refine j_iconst (n := 32) (0) dX6_holdTogether_31 rfl (by decide) ?_
      obtain rfl : i = sz := by omega
      exact j_iret dX6_holdTogether_32 rfl rfl (by omega) (by omega) (⟨by rw [heldB, any_f (fun j h => decide_eq_false (hj j h))]; rfl, rfl⟩)
    · exact absurd (nI_le (show sz ≤ i by omega) (by omega)) c
  | succ n ih =>
    intro i hi hj
    refine j_iload_n (n := 3) dX6_holdTogether_2 rfl rfl ?_
    refine j_aload_n (n := 4) dX6_holdTogether_3 rfl rfl ?_
    refine j_get (n := 7) _ dX6_holdTogether_4 f_X6_15 rfl h0 rfl ?_
    refine j_icmp_ge (n := 10) 31 dX6_holdTogether_7 (by decide) rfl (fun c => ?_) (fun c => ?_)
    · exact absurd c (nI_ge (show i < sz by omega) (by omega))
    · refine j_iload_n (n := 11) dX6_holdTogether_10 rfl rfl ?_
      refine j_aload_n (n := 12) dX6_holdTogether_11 rfl rfl ?_
      refine j_get (n := 15) _ dX6_holdTogether_12 f_X6_9 rfl h0 rfl ?_
      refine j_iload_n (n := 16) dX6_holdTogether_15 rfl rfl ?_
      refine j_iald (n := 17) _ i dX6_holdTogether_16 rfl h1 rfl (by omega) (by omega) ?_
      refine j_iconst (n := 18) (-1) dX6_holdTogether_17 rfl (by decide) ?_
      refine j_ixor (n := 19) dX6_holdTogether_18 rfl ?_
      refine j_iand (n := 20) dX6_holdTogether_19 rfl ?_
      refine j_if_ne (n := 23) 25 dX6_holdTogether_20 (by decide) rfl (fun c2 => ?_) (fun c2 => ?_)
      · refine j_iinc (n := 28) (nI (i + 1)) dX6_holdTogether_25 rfl rfl (nI_inc i) (by decide) ?_
        refine j_goto 2 dX6_holdTogether_28 (by decide) ?_
        exact ih (i + 1) (by omega) (lt_s hj c2)
      · refine j_iconst (n := 24) (1) dX6_holdTogether_23 rfl (by decide) ?_
        exact j_iret dX6_holdTogether_24 rfl rfl (by omega) (by omega) (⟨by rw [heldB, any_t (show i < sz by omega) (decide_eq_true c2)]; rfl, rfl⟩)
theorem c_holdTogether {a0 a1 sz : Nat} {b : Nat → Int32} {s : Int32} (k0 : Nat) (h0 : ws[k0]? = some (a0, .inr (6, [.ref a1, .int (nI sz)]))) (k1 : Nat) (h1 : ws[k1]? = some (a1, .inl (gI G, 8, .inl b))) (hsz : sz ≤ 8) : JE G Y_X6_holdTogether 0 0 0 [.ref a0, .int s] ws (b01 (heldB sz b s)) ws := by
  refine JM.of [(0, .ref a0), (1, .int s)] rfl rfl (by simp) (Nat.le_of_ble_eq_true rfl) (by decide +kernel) ?_
  refine j_iconst (n := 1) (0) dX6_holdTogether_0 rfl (by decide) ?_
  refine j_istore_n (n := 2) dX6_holdTogether_1 rfl (by decide) ?_
  exact held_loop h0 h1 hsz sz 0 (by omega) lt_0
def addS (sz : Nat) (b : Nat → Int32) (s : Int32) : Int32 := if inB sz b s then nI sz else if 8 ≤ sz then -3 else nI (sz + 1)
theorem add_loop {a0 a1 sz : Nat} {b : Nat → Int32} {s : Int32} {k0 k1 : Nat} (h0 : ws[k0]? = some (a0, .inr (6, [.ref a1, .int (nI sz)]))) (h1 : ws[k1]? = some (a1, .inl (gI G, 8, .inl b))) (hne : k0 ≠ k1) (hsz : sz ≤ 8) : ∀ (n i : Nat), i + n = sz → (∀ j, j < i → ¬ b j = s) → JJ G Y_X6_add 0 0 0 (Qi (fun r w => r = addS sz b s ∧ w = if inB sz b s = true ∨ 8 ≤ sz then ws else (ws.set k1 (a1, .inl (gI G, 8, .inl (upd b sz s)))).set k0 (a0, .inr (6, [.ref a1, .int (nI (sz + 1))])))) 2 [(0, .ref a0), (1, .int s), (2, .int (nI i))] [] ws 0 0 := by
  intro n
  induction n with
  | zero =>
    intro i hi hj
    obtain rfl : i = sz := by omega
    have hin : inB i b s = false := any_f (fun j h => by simp [hj j h])
    refine j_iload_n (n := 3) dX6_add_2 rfl rfl ?_
    refine j_aload_n (n := 4) dX6_add_3 rfl rfl ?_
    refine j_get (n := 7) _ dX6_add_4 f_X6_15 rfl h0 rfl ?_
    refine j_icmp_ge (n := 10) 31 dX6_add_7 (by decide) rfl (fun c => ?_) (fun c => ?_)
    · refine j_aload_n (n := 32) dX6_add_31 rfl rfl ?_
      refine j_get (n := 35) _ dX6_add_32 f_X6_15 rfl h0 rfl ?_
      refine j_bipush (n := 37) (8) dX6_add_35 rfl (by decide) ?_
      refine j_icmp_lt (n := 40) 43 dX6_add_37 (by decide) rfl (fun c2 => ?_) (fun c2 => ?_)
      · have hlt : i < 8 := (nI_ltI (b := 8) (by omega) (by omega)).mp c2
        refine j_aload_n (n := 44) dX6_add_43 rfl rfl ?_
        refine j_get (n := 47) _ dX6_add_44 f_X6_9 rfl h0 rfl ?_
        refine j_aload_n (n := 48) dX6_add_47 rfl rfl ?_
        refine j_get (n := 51) _ dX6_add_48 f_X6_15 rfl h0 rfl ?_
        refine j_iload_n (n := 52) dX6_add_51 rfl rfl ?_
        refine j_iast (n := 53) _ i dX6_add_52 rfl h1 rfl (by omega) (by omega) ?_
        refine j_aload_n (n := 54) dX6_add_53 rfl rfl ?_
        refine j_dup (n := 55) dX6_add_54 rfl rfl ?_
        refine j_get (n := 58) _ dX6_add_55 f_X6_15 rfl (gs_ne (by omega) h0) rfl ?_
        refine j_iconst (n := 59) (1) dX6_add_58 rfl (by decide) ?_
        refine j_iadd (n := 60) dX6_add_59 rfl ?_
        refine j_top (nI (i + 1)) (nI_1 i) ?_
        refine j_put (n := 63) _ dX6_add_60 f_X6_15 rfl rfl (gs_ne (by omega) h0) (Nat.le_of_ble_eq_true rfl) rfl rfl ?_
        refine j_aload_n (n := 64) dX6_add_63 rfl rfl ?_
        refine j_get (n := 67) _ dX6_add_64 f_X6_15 rfl (gs_eq (gs_ne (by omega) h0)) rfl ?_
        exact j_iret dX6_add_67 rfl rfl (by omega) (by omega) (⟨by simp [addS, hin]; omega, (if_neg (by simp [hin]; omega)).symm⟩)
      · have hge : ¬ i < 8 := fun h => c2 (nI_lt (b := 8) h (by omega))
        refine j_bipush (n := 42) (-3) dX6_add_40 rfl (by decide) ?_
        exact j_iret dX6_add_42 rfl rfl (by omega) (by omega) (⟨by simp [addS, hin]; omega, (if_pos (Or.inr (by omega))).symm⟩)
    · exact absurd (nI_le (Nat.le_refl i) (by omega)) c
  | succ n ih =>
    intro i hi hj
    refine j_iload_n (n := 3) dX6_add_2 rfl rfl ?_
    refine j_aload_n (n := 4) dX6_add_3 rfl rfl ?_
    refine j_get (n := 7) _ dX6_add_4 f_X6_15 rfl h0 rfl ?_
    refine j_icmp_ge (n := 10) 31 dX6_add_7 (by decide) rfl (fun c => ?_) (fun c => ?_)
    · exact absurd c (nI_ge (show i < sz by omega) (by omega))
    · refine j_aload_n (n := 11) dX6_add_10 rfl rfl ?_
      refine j_get (n := 14) _ dX6_add_11 f_X6_9 rfl h0 rfl ?_
      refine j_iload_n (n := 15) dX6_add_14 rfl rfl ?_
      refine j_iald (n := 16) _ i dX6_add_15 rfl h1 rfl (by omega) (by omega) ?_
      refine j_iload_n (n := 17) dX6_add_16 rfl rfl ?_
      refine j_icmp_ne (n := 20) 25 dX6_add_17 (by decide) rfl (fun c2 => ?_) (fun c2 => ?_)
      · refine j_iinc (n := 28) (nI (i + 1)) dX6_add_25 rfl rfl (nI_inc i) (by decide) ?_
        refine j_goto 2 dX6_add_28 (by decide) ?_
        exact ih (i + 1) (by omega) (lt_s hj c2)
      · have hin : inB sz b s = true := any_t (show i < sz by omega) (by simp [c2])
        refine j_aload_n (n := 21) dX6_add_20 rfl rfl ?_
        refine j_get (n := 24) _ dX6_add_21 f_X6_15 rfl h0 rfl ?_
        exact j_iret dX6_add_24 rfl rfl (by omega) (by omega) (⟨by simp [addS, hin], (if_pos (Or.inl hin)).symm⟩)
theorem c_setAdd {a0 a1 sz : Nat} {b : Nat → Int32} {s : Int32} (k0 : Nat) (h0 : ws[k0]? = some (a0, .inr (6, [.ref a1, .int (nI sz)]))) (k1 : Nat) (h1 : ws[k1]? = some (a1, .inl (gI G, 8, .inl b))) (hne : k0 ≠ k1) (hsz : sz ≤ 8) : JE G Y_X6_add 0 0 0 [.ref a0, .int s] ws (addS sz b s) (if inB sz b s = true ∨ 8 ≤ sz then ws else (ws.set k1 (a1, .inl (gI G, 8, .inl (upd b sz s)))).set k0 (a0, .inr (6, [.ref a1, .int (nI (sz + 1))]))) := by
  refine JM.of [(0, .ref a0), (1, .int s)] rfl rfl (by simp) (Nat.le_of_ble_eq_true rfl) (by decide +kernel) ?_
  refine j_iconst (n := 1) (0) dX6_add_0 rfl (by decide) ?_
  refine j_istore_n (n := 2) dX6_add_1 rfl (by decide) ?_
  exact add_loop h0 h1 hne hsz sz 0 (by omega) lt_0
end SM
end
section
/-! constructors of the small classes; NearList, Way, PairList -/
theorem set2 {α : Type} {ws : List α} {k1 k2 : Nat} {a b a' b' : α} (h : k1 ≠ k2) : (((ws.set k1 a).set k2 b).set k1 a').set k2 b' = (ws.set k1 a').set k2 b' := by
  rw [List.set_comm _ _ (Ne.symm h), List.set_set, List.set_set]
def shF (f : Nat → Int32) (i n : Nat) : Nat → Int32 := fun k => if i < k ∧ k ≤ n then f (k - 1) else f k
theorem shF_n (f : Nat → Int32) (n : Nat) : shF f n n = f := by
  funext k; unfold shF; rw [if_neg (by omega)]
theorem shF_at (f : Nat → Int32) (i n : Nat) : shF f (i + 1) n i = f i := by
  unfold shF; rw [if_neg (by omega)]
theorem shF_s (f : Nat → Int32) (i n : Nat) (h : i + 1 ≤ n) : upd (shF f (i + 1) n) (i + 1) (f i) = shF f i n := by
  funext k; unfold upd shF
  by_cases hk : k = i + 1
  · subst hk; rw [if_pos rfl, if_pos (by omega)]; rfl
  · rw [if_neg hk]
    by_cases h2 : i + 1 < k ∧ k ≤ n
    · rw [if_pos h2, if_pos (by omega)]
    · rw [if_neg h2]
      rw [if_neg (by omega)]
def insP (c : Nat → Int32) (x : Int32) : Nat → Nat
  | 0 => 0
  | n + 1 => if c n ≤ x then n + 1 else insP c x n
theorem insP_le (c : Nat → Int32) (x : Int32) (n : Nat) : insP c x n ≤ n := by
  induction n with
  | zero => exact Nat.le_refl _
  | succ n ih => unfold insP; split <;> omega
def insF (f : Nat → Int32) (p n : Nat) (v : Int32) : Nat → Int32 := upd (shF f p n) p v
section LI
variable {G : GT} {ws : va_W} {pre : va_W}
theorem c_SignTable {a0 : Nat} : JM G Y_X7_init 2 2 254 [.ref a0] ((a0, .inr (7, [.null, .null, .int 0])) :: pre) (Qv (fun w => ∃ a1 a2 : Nat, w = (a0, .inr (7, [.ref a1, .ref a2, .int 0])) :: pre ++ [(a1, .inl (gI G, 127, .inl (fillF (fillF (fun _ => 0) 65 91 1) 97 123 1))), (a2, .inl (gI G, 127, .inl (fun _ => 0)))])) := by
  refine JM.of [(0, .ref a0)] rfl rfl (by simp) (Nat.le_of_ble_eq_true rfl) (by decide +kernel) ?_
  refine j_aload_n (n := 1) dX7_init_0 rfl rfl ?_
  refine j_objInit (n := 4) dX7_init_1 m_X7_3 rfl (by omega) (Nat.le_of_ble_eq_true rfl) ?_
  refine j_aload_n (n := 5) dX7_init_4 rfl rfl ?_
  refine j_bipush (n := 7) (127) dX7_init_5 rfl (by decide) ?_
  refine j_newi (n := 9) 127 dX7_init_7 rfl rfl (by decide) (by omega) (by omega) (fun a1 => ?_)
  refine j_putF (n := 12) 0 dX7_init_9 f_X7_9 rfl rfl rfl (fun q h => by cases h; rfl) rfl (Nat.le_of_ble_eq_true rfl) rfl rfl ?_
  refine j_aload_n (n := 13) dX7_init_12 rfl rfl ?_
  refine j_bipush (n := 15) (127) dX7_init_13 rfl (by decide) ?_
  refine j_newi (n := 17) 127 dX7_init_15 rfl rfl (by decide) (by omega) (by omega) (fun a2 => ?_)
  refine j_putF (n := 20) 0 dX7_init_17 f_X7_15 rfl rfl rfl (fun q h => by cases h; rfl) rfl (Nat.le_of_ble_eq_true rfl) rfl rfl ?_
  refine j_aload_n (n := 21) dX7_init_20 rfl rfl ?_
  refine j_iconst (n := 22) (0) dX7_init_21 rfl (by decide) ?_
  refine j_put (n := 25) 0 dX7_init_22 f_X7_18 rfl rfl rfl (Nat.le_of_ble_eq_true rfl) rfl rfl ?_
  refine j_aload_n (n := 26) dX7_init_25 rfl rfl ?_
  refine j_get (n := 29) 0 dX7_init_26 f_X7_9 rfl rfl rfl ?_
  refine j_bipush (n := 31) (65) dX7_init_29 rfl (by decide) ?_
  refine j_bipush (n := 33) (91) dX7_init_31 rfl (by decide) ?_
  refine j_iconst (n := 34) (1) dX7_init_33 rfl (by decide) ?_
  have e1 : ((a0, Sum.inr (7, [Value.ref a1, .ref a2, .int 0])) :: pre ++ [(a1, .inl (gI G, 127, .inl (fun _ => 0))), (a2, .inl (gI G, 127, .inl (fun _ => 0)))] : va_W)[pre.length + 1]? = some (a1, .inl (gI G, 127, .inl (fun _ => 0))) := by simp
  refine j_ws (ws' := (a0, Sum.inr (7, [Value.ref a1, .ref a2, .int 0])) :: pre ++ [(a1, .inl (gI G, 127, .inl (fun _ => 0))), (a2, .inl (gI G, 127, .inl (fun _ => 0)))]) (by simp) ?_
  refine j_callSv (n := 37) (Y1 := Y_J7_fill_fda19) dX7_init_34 m_X7_22 cy_J7_fill_fda19 cs_J7_fill_fda19 (c_fill4 (lo := 65) (hi := 91) _ e1 (by decide) (by decide) (by decide)) rfl rfl rfl (by omega) (by omega) (by omega) (Nat.le_of_ble_eq_true rfl) (fun w h => ?_)
  subst h
  refine j_ws (ws' := (a0, Sum.inr (7, [Value.ref a1, .ref a2, .int 0])) :: pre ++ [(a1, .inl (gI G, 127, .inl (fillF (fun _ => 0) 65 91 1))), (a2, .inl (gI G, 127, .inl (fun _ => 0)))]) (by simp) ?_
  have e2 : ((a0, Sum.inr (7, [Value.ref a1, .ref a2, .int 0])) :: pre ++ [(a1, .inl (gI G, 127, .inl (fillF (fun _ => 0) 65 91 1))), (a2, .inl (gI G, 127, .inl (fun _ => 0)))] : va_W)[pre.length + 1]? = some (a1, .inl (gI G, 127, .inl (fillF (fun _ => 0) 65 91 1))) := by simp
  refine j_aload_n (n := 38) dX7_init_37 rfl rfl ?_
  refine j_get (n := 41) 0 dX7_init_38 f_X7_9 rfl rfl rfl ?_
  refine j_bipush (n := 43) (97) dX7_init_41 rfl (by decide) ?_
  refine j_bipush (n := 45) (123) dX7_init_43 rfl (by decide) ?_
  refine j_iconst (n := 46) (1) dX7_init_45 rfl (by decide) ?_
  refine j_callSv (n := 49) (Y1 := Y_J7_fill_fda19) dX7_init_46 m_X7_22 cy_J7_fill_fda19 cs_J7_fill_fda19 (c_fill4 (lo := 97) (hi := 123) _ e2 (by decide) (by decide) (by decide)) rfl rfl rfl (by omega) (by omega) (by omega) (Nat.le_of_ble_eq_true rfl) (fun w h => ?_)
  subst h
  exact j_vret dX7_init_49 rfl (by omega) (by omega) (⟨a1, a2, by simp⟩)
theorem c_ScriptSets {a0 : Nat} : JM G Y_X6_init 1 1 8 [.ref a0] ((a0, .inr (6, [.null, .int 0])) :: pre) (Qv (fun w => ∃ a1 : Nat, w = (a0, .inr (6, [.ref a1, .int 0])) :: pre ++ [(a1, .inl (gI G, 8, .inl (fun _ => 0)))])) := by
  refine JM.of [(0, .ref a0)] rfl rfl (by simp) (Nat.le_of_ble_eq_true rfl) (by decide +kernel) ?_
  refine j_aload_n (n := 1) dX6_init_0 rfl rfl ?_
  refine j_objInit (n := 4) dX6_init_1 m_X6_3 rfl (by omega) (Nat.le_of_ble_eq_true rfl) ?_
  refine j_aload_n (n := 5) dX6_init_4 rfl rfl ?_
  refine j_bipush (n := 7) (8) dX6_init_5 rfl (by decide) ?_
  refine j_newi (n := 9) 8 dX6_init_7 rfl rfl (by decide) (by omega) (by omega) (fun a1 => ?_)
  refine j_putF (n := 12) 0 dX6_init_9 f_X6_9 rfl rfl rfl (fun q h => by cases h; rfl) rfl (Nat.le_of_ble_eq_true rfl) rfl rfl ?_
  refine j_aload_n (n := 13) dX6_init_12 rfl rfl ?_
  refine j_iconst (n := 14) (0) dX6_init_13 rfl (by decide) ?_
  refine j_put (n := 17) 0 dX6_init_14 f_X6_15 rfl rfl rfl (Nat.le_of_ble_eq_true rfl) rfl rfl ?_
  exact j_vret dX6_init_17 rfl (by omega) (by omega) (⟨a1, rfl⟩)
theorem c_Register {a0 : Nat} : JV G Y_X5_init 1 0 0 [.ref a0] ((a0, .inr (5, [.int 0, .int 0, .int 0])) :: pre) ((a0, .inr (5, [.int 4, .int 8, .int 0])) :: pre) := by
  refine JM.of [(0, .ref a0)] rfl rfl (by simp) (Nat.le_of_ble_eq_true rfl) (by decide +kernel) ?_
  refine j_aload_n (n := 1) dX5_init_0 rfl rfl ?_
  refine j_objInit (n := 4) dX5_init_1 m_X5_1 rfl (by omega) (Nat.le_of_ble_eq_true rfl) ?_
  refine j_aload_n (n := 5) dX5_init_4 rfl rfl ?_
  refine j_iconst (n := 6) (4) dX5_init_5 rfl (by decide) ?_
  refine j_put (n := 9) 0 dX5_init_6 f_X5_7 rfl rfl rfl (Nat.le_of_ble_eq_true rfl) rfl rfl ?_
  refine j_aload_n (n := 10) dX5_init_9 rfl rfl ?_
  refine j_bipush (n := 12) (8) dX5_init_10 rfl (by decide) ?_
  refine j_put (n := 15) 0 dX5_init_12 f_X5_13 rfl rfl rfl (Nat.le_of_ble_eq_true rfl) rfl rfl ?_
  refine j_aload_n (n := 16) dX5_init_15 rfl rfl ?_
  refine j_iconst (n := 17) (0) dX5_init_16 rfl (by decide) ?_
  refine j_put (n := 20) 0 dX5_init_17 f_X5_16 rfl rfl rfl (Nat.le_of_ble_eq_true rfl) rfl rfl ?_
  exact j_vret dX5_init_20 rfl (by omega) (by omega) (rfl)
theorem c_Entry {a0 at_ : Nat} {r o : Int32} : JV G Y_X0_init 1 0 0 [.ref a0, .int r, .int o, .ref at_] ((a0, .inr (0, [.int 0, .int 0, .null, .int 0])) :: pre) ((a0, .inr (0, [.int r, .int o, .ref at_, .int 1])) :: pre) := by
  refine JM.of [(0, .ref a0), (1, .int r), (2, .int o), (3, .ref at_)] rfl rfl (by simp) (Nat.le_of_ble_eq_true rfl) (by decide +kernel) ?_
  refine j_aload_n (n := 1) dX0_init_0 rfl rfl ?_
  refine j_objInit (n := 4) dX0_init_1 m_X0_1 rfl (by omega) (Nat.le_of_ble_eq_true rfl) ?_
  refine j_aload_n (n := 5) dX0_init_4 rfl rfl ?_
  refine j_iload_n (n := 6) dX0_init_5 rfl rfl ?_
  refine j_putF (n := 9) 0 dX0_init_6 f_X0_7 rfl rfl rfl (fun q h => by cases h; rfl) rfl (Nat.le_of_ble_eq_true rfl) rfl rfl ?_
  refine j_aload_n (n := 10) dX0_init_9 rfl rfl ?_
  refine j_iload_n (n := 11) dX0_init_10 rfl rfl ?_
  refine j_putF (n := 14) 0 dX0_init_11 f_X0_13 rfl rfl rfl (fun q h => by cases h; rfl) rfl (Nat.le_of_ble_eq_true rfl) rfl rfl ?_
  refine j_aload_n (n := 15) dX0_init_14 rfl rfl ?_
  refine j_aload_n (n := 16) dX0_init_15 rfl rfl ?_
  refine j_putF (n := 19) 0 dX0_init_16 f_X0_16 rfl rfl rfl (fun q h => by cases h; rfl) rfl (Nat.le_of_ble_eq_true rfl) rfl rfl ?_
  refine j_aload_n (n := 20) dX0_init_19 rfl rfl ?_
  refine j_iconst (n := 21) (1) dX0_init_20 rfl (by decide) ?_
  refine j_put (n := 24) 0 dX0_init_21 f_X0_20 rfl rfl rfl (Nat.le_of_ble_eq_true rfl) rfl rfl ?_
  exact j_vret dX0_init_24 rfl (by omega) (by omega) (rfl)
theorem c_NearList {a0 : Nat} : JM G Y_X2_init 1 2 400 [.ref a0] ((a0, .inr (2, [.null, .null, .int 0])) :: pre) (Qv (fun w => ∃ a1 a2 : Nat, w = (a0, .inr (2, [.ref a1, .ref a2, .int 0])) :: pre ++ [(a1, .inl (gI G, 200, .inl (fun _ => 0))), (a2, .inl (gI G, 200, .inl (fun _ => 0)))])) := by
  refine JM.of [(0, .ref a0)] rfl rfl (by simp) (Nat.le_of_ble_eq_true rfl) (by decide +kernel) ?_
  refine j_aload_n (n := 1) dX2_init_0 rfl rfl ?_
  refine j_objInit (n := 4) dX2_init_1 m_X2_3 rfl (by omega) (Nat.le_of_ble_eq_true rfl) ?_
  refine j_aload_n (n := 5) dX2_init_4 rfl rfl ?_
  refine j_sipush (n := 8) (200) dX2_init_5 rfl (by decide) ?_
  refine j_newi (n := 10) 200 dX2_init_8 rfl rfl (by decide) (by omega) (by omega) (fun a1 => ?_)
  refine j_putF (n := 13) 0 dX2_init_10 f_X2_9 rfl rfl rfl (fun q h => by cases h; rfl) rfl (Nat.le_of_ble_eq_true rfl) rfl rfl ?_
  refine j_aload_n (n := 14) dX2_init_13 rfl rfl ?_
  refine j_sipush (n := 17) (200) dX2_init_14 rfl (by decide) ?_
  refine j_newi (n := 19) 200 dX2_init_17 rfl rfl (by decide) (by omega) (by omega) (fun a2 => ?_)
  refine j_putF (n := 22) 0 dX2_init_19 f_X2_15 rfl rfl rfl (fun q h => by cases h; rfl) rfl (Nat.le_of_ble_eq_true rfl) rfl rfl ?_
  refine j_aload_n (n := 23) dX2_init_22 rfl rfl ?_
  refine j_iconst (n := 24) (0) dX2_init_23 rfl (by decide) ?_
  refine j_put (n := 27) 0 dX2_init_24 f_X2_18 rfl rfl rfl (Nat.le_of_ble_eq_true rfl) rfl rfl ?_
  exact j_vret dX2_init_27 rfl (by omega) (by omega) (⟨a1, a2, by simp⟩)
theorem c_Way {a0 : Nat} : JM G Y_X9_init 1 3 120 [.ref a0] ((a0, .inr (9, [.null, .null, .null, .int 0])) :: pre) (Qv (fun w => ∃ a1 a2 a3 : Nat, w = (a0, .inr (9, [.ref a1, .ref a2, .ref a3, .int 0])) :: pre ++ [(a1, .inl (gI G, 40, .inl (fun _ => 0))), (a2, .inl (gI G, 40, .inl (fun _ => 0))), (a3, .inl (gI G, 40, .inl (fun _ => 0)))])) := by
  refine JM.of [(0, .ref a0)] rfl rfl (by simp) (Nat.le_of_ble_eq_true rfl) (by decide +kernel) ?_
  refine j_aload_n (n := 1) dX9_init_0 rfl rfl ?_
  refine j_objInit (n := 4) dX9_init_1 m_X9_3 rfl (by omega) (Nat.le_of_ble_eq_true rfl) ?_
  refine j_aload_n (n := 5) dX9_init_4 rfl rfl ?_
  refine j_bipush (n := 7) (40) dX9_init_5 rfl (by decide) ?_
  refine j_newi (n := 9) 40 dX9_init_7 rfl rfl (by decide) (by omega) (by omega) (fun a1 => ?_)
  refine j_putF (n := 12) 0 dX9_init_9 f_X9_9 rfl rfl rfl (fun q h => by cases h; rfl) rfl (Nat.le_of_ble_eq_true rfl) rfl rfl ?_
  refine j_aload_n (n := 13) dX9_init_12 rfl rfl ?_
  refine j_bipush (n := 15) (40) dX9_init_13 rfl (by decide) ?_
  refine j_newi (n := 17) 40 dX9_init_15 rfl rfl (by decide) (by omega) (by omega) (fun a2 => ?_)
  refine j_putF (n := 20) 0 dX9_init_17 f_X9_15 rfl rfl rfl (fun q h => by cases h; rfl) rfl (Nat.le_of_ble_eq_true rfl) rfl rfl ?_
  refine j_aload_n (n := 21) dX9_init_20 rfl rfl ?_
  refine j_bipush (n := 23) (40) dX9_init_21 rfl (by decide) ?_
  refine j_newi (n := 25) 40 dX9_init_23 rfl rfl (by decide) (by omega) (by omega) (fun a3 => ?_)
  refine j_putF (n := 28) 0 dX9_init_25 f_X9_18 rfl rfl rfl (fun q h => by cases h; rfl) rfl (Nat.le_of_ble_eq_true rfl) rfl rfl ?_
  refine j_aload_n (n := 29) dX9_init_28 rfl rfl ?_
  refine j_iconst (n := 30) (0) dX9_init_29 rfl (by decide) ?_
  refine j_put (n := 33) 0 dX9_init_30 f_X9_21 rfl rfl rfl (Nat.le_of_ble_eq_true rfl) rfl rfl ?_
  exact j_vret dX9_init_33 rfl (by omega) (by omega) (⟨a1, a2, a3, by simp⟩)
theorem c_PairList {a0 : Nat} : JM G Y_X3_init 1 1 1000 [.ref a0] ((a0, .inr (3, [.null, .int 0])) :: pre) (Qv (fun w => ∃ a1 : Nat, w = (a0, .inr (3, [.ref a1, .int 0])) :: pre ++ [(a1, .inl (gI G, 1000, .inl (fun _ => 0)))])) := by
  refine JM.of [(0, .ref a0)] rfl rfl (by simp) (Nat.le_of_ble_eq_true rfl) (by decide +kernel) ?_
  refine j_aload_n (n := 1) dX3_init_0 rfl rfl ?_
  refine j_objInit (n := 4) dX3_init_1 m_X3_3 rfl (by omega) (Nat.le_of_ble_eq_true rfl) ?_
  refine j_aload_n (n := 5) dX3_init_4 rfl rfl ?_
  refine j_sipush (n := 8) (1000) dX3_init_5 rfl (by decide) ?_
  refine j_newi (n := 10) 1000 dX3_init_8 rfl rfl (by decide) (by omega) (by omega) (fun a1 => ?_)
  refine j_putF (n := 13) 0 dX3_init_10 f_X3_9 rfl rfl rfl (fun q h => by cases h; rfl) rfl (Nat.le_of_ble_eq_true rfl) rfl rfl ?_
  refine j_aload_n (n := 14) dX3_init_13 rfl rfl ?_
  refine j_iconst (n := 15) (0) dX3_init_14 rfl (by decide) ?_
  refine j_put (n := 18) 0 dX3_init_15 f_X3_15 rfl rfl rfl (Nat.le_of_ble_eq_true rfl) rfl rfl ?_
  exact j_vret dX3_init_18 rfl (by omega) (by omega) (⟨a1, rfl⟩)
theorem ins_end {a0 a1 a2 n p : Nat} {f g : Nat → Int32} {v x : Int32} {k0 k1 k2 : Nat} (h0 : ws[k0]? = some (a0, .inr (2, [.ref a1, .ref a2, .int (nI n)]))) (h1 : ws[k1]? = some (a1, .inl (gI G, 200, .inl f))) (h2 : ws[k2]? = some (a2, .inl (gI G, 200, .inl g))) (n01 : k0 ≠ k1) (n02 : k0 ≠ k2) (n12 : k1 ≠ k2) (hn : n < 200) (hp : p ≤ n) (he : insP g x n = p) : JJ G Y_X2_insert 0 0 0 (Qv (fun w => w = ((ws.set k1 (a1, .inl (gI G, 200, .inl (insF f (insP g x n) n v)))).set k2 (a2, .inl (gI G, 200, .inl (insF g (insP g x n) n x)))).set k0 (a0, .inr (2, [.ref a1, .ref a2, .int (nI (n + 1))])))) 66 [(0, .ref a0), (1, .int v), (2, .int x), (3, .int (nI p))] [] ((ws.set k1 (a1, .inl (gI G, 200, .inl (shF f p n)))).set k2 (a2, .inl (gI G, 200, .inl (shF g p n)))) 0 0 := by
  have h0' : ((ws.set k1 (a1, .inl (gI G, 200, .inl (shF f p n)))).set k2 (a2, .inl (gI G, 200, .inl (shF g p n))))[k0]? = some (a0, .inr (2, [.ref a1, .ref a2, .int (nI n)])) := gs_ne (by omega) (gs_ne (by omega) h0)
  have h1' : ((ws.set k1 (a1, .inl (gI G, 200, .inl (shF f p n)))).set k2 (a2, .inl (gI G, 200, .inl (shF g p n))))[k1]? = some (a1, .inl (gI G, 200, .inl (shF f p n))) := gs_ne (by omega) (gs_eq h1)
  have h2' : ((ws.set k1 (a1, .inl (gI G, 200, .inl (shF f p n)))).set k2 (a2, .inl (gI G, 200, .inl (shF g p n))))[k2]? = some (a2, .inl (gI G, 200, .inl (shF g p n))) := gs_eq (gs_ne (by omega) h2)
  refine j_aload_n (n := 67) dX2_insert_66 rfl rfl ?_
  refine j_get (n := 70) _ dX2_insert_67 f_X2_9 rfl h0' rfl ?_
  refine j_iload_n (n := 71) dX2_insert_70 rfl rfl ?_
  refine j_iload_n (n := 72) dX2_insert_71 rfl rfl ?_
  refine j_iast (n := 73) _ p dX2_insert_72 rfl h1' rfl (by omega) (by omega) ?_
  refine j_aload_n (n := 74) dX2_insert_73 rfl rfl ?_
  refine j_get (n := 77) _ dX2_insert_74 f_X2_15 rfl (gs_ne (by omega) h0') rfl ?_
  refine j_iload_n (n := 78) dX2_insert_77 rfl rfl ?_
  refine j_iload_n (n := 79) dX2_insert_78 rfl rfl ?_
  refine j_iast (n := 80) _ p dX2_insert_79 rfl (gs_ne (by omega) h2') rfl (by omega) (by omega) ?_
  refine j_aload_n (n := 81) dX2_insert_80 rfl rfl ?_
  refine j_dup (n := 82) dX2_insert_81 rfl rfl ?_
  refine j_get (n := 85) _ dX2_insert_82 f_X2_18 rfl (gs_ne (by omega) (gs_ne (by omega) h0')) rfl ?_
  refine j_iconst (n := 86) (1) dX2_insert_85 rfl (by decide) ?_
  refine j_iadd (n := 87) dX2_insert_86 rfl ?_
  refine j_top (nI (n + 1)) (nI_1 n) ?_
  refine j_put (n := 90) _ dX2_insert_87 f_X2_18 rfl rfl (gs_ne (by omega) (gs_ne (by omega) h0')) (Nat.le_of_ble_eq_true rfl) rfl rfl ?_
  exact j_vret dX2_insert_90 rfl (by omega) (by omega) (by rw [set2 n12, he]; rfl)
theorem ins_loop {a0 a1 a2 n : Nat} {f g : Nat → Int32} {v x : Int32} {k0 k1 k2 : Nat} (h0 : ws[k0]? = some (a0, .inr (2, [.ref a1, .ref a2, .int (nI n)]))) (h1 : ws[k1]? = some (a1, .inl (gI G, 200, .inl f))) (h2 : ws[k2]? = some (a2, .inl (gI G, 200, .inl g))) (n01 : k0 ≠ k1) (n02 : k0 ≠ k2) (n12 : k1 ≠ k2) (hn : n < 200) : ∀ (i : Nat), i ≤ n → insP g x n = insP g x i → JJ G Y_X2_insert 0 0 0 (Qv (fun w => w = ((ws.set k1 (a1, .inl (gI G, 200, .inl (insF f (insP g x n) n v)))).set k2 (a2, .inl (gI G, 200, .inl (insF g (insP g x n) n x)))).set k0 (a0, .inr (2, [.ref a1, .ref a2, .int (nI (n + 1))])))) 16 [(0, .ref a0), (1, .int v), (2, .int x), (3, .int (nI i))] [] ((ws.set k1 (a1, .inl (gI G, 200, .inl (shF f i n)))).set k2 (a2, .inl (gI G, 200, .inl (shF g i n)))) 0 0 := by
  intro i
  induction i with
  | zero =>
    intro hi he
    refine j_iload_n (n := 17) dX2_insert_16 rfl rfl ?_
    refine j_if_le (n := 20) 66 dX2_insert_17 (by decide) rfl (fun c => ?_) (fun c => ?_)
    · exact ins_end h0 h1 h2 n01 n02 n12 hn hi he
    · exact absurd (show nI 0 ≤ 0 by decide) c
  | succ i ih =>
    intro hi he
    have h0' : ((ws.set k1 (a1, .inl (gI G, 200, .inl (shF f (i + 1) n)))).set k2 (a2, .inl (gI G, 200, .inl (shF g (i + 1) n))))[k0]? = some (a0, .inr (2, [.ref a1, .ref a2, .int (nI n)])) := gs_ne (by omega) (gs_ne (by omega) h0)
    have h1' : ((ws.set k1 (a1, .inl (gI G, 200, .inl (shF f (i + 1) n)))).set k2 (a2, .inl (gI G, 200, .inl (shF g (i + 1) n))))[k1]? = some (a1, .inl (gI G, 200, .inl (shF f (i + 1) n))) := gs_ne (by omega) (gs_eq h1)
    have h2' : ((ws.set k1 (a1, .inl (gI G, 200, .inl (shF f (i + 1) n)))).set k2 (a2, .inl (gI G, 200, .inl (shF g (i + 1) n))))[k2]? = some (a2, .inl (gI G, 200, .inl (shF g (i + 1) n))) := gs_eq (gs_ne (by omega) h2)
    refine j_iload_n (n := 17) dX2_insert_16 rfl rfl ?_
    refine j_if_le (n := 20) 66 dX2_insert_17 (by decide) rfl (fun c => ?_) (fun c => ?_)
    · exact absurd c (nI_nle (by omega) (by omega))
    · refine j_aload_n (n := 21) dX2_insert_20 rfl rfl ?_
      refine j_get (n := 24) _ dX2_insert_21 f_X2_15 rfl h0' rfl ?_
      refine j_iload_n (n := 25) dX2_insert_24 rfl rfl ?_
      refine j_iconst (n := 26) (1) dX2_insert_25 rfl (by decide) ?_
      refine j_isub (n := 27) dX2_insert_26 rfl ?_
      refine j_iald (n := 28) _ i dX2_insert_27 rfl h2' (nI_sub1 i) (by omega) (by omega) ?_
      refine j_iload_n (n := 29) dX2_insert_28 rfl rfl ?_
      rw [shF_at]
      refine j_icmp_le (n := 32) 66 dX2_insert_29 (by decide) rfl (fun c2 => ?_) (fun c2 => ?_)
      · exact ins_end h0 h1 h2 n01 n02 n12 hn hi (by rw [he]; simp [insP, c2])
      · refine j_aload_n (n := 33) dX2_insert_32 rfl rfl ?_
        refine j_get (n := 36) _ dX2_insert_33 f_X2_9 rfl h0' rfl ?_
        refine j_iload_n (n := 37) dX2_insert_36 rfl rfl ?_
        refine j_aload_n (n := 38) dX2_insert_37 rfl rfl ?_
        refine j_get (n := 41) _ dX2_insert_38 f_X2_9 rfl h0' rfl ?_
        refine j_iload_n (n := 42) dX2_insert_41 rfl rfl ?_
        refine j_iconst (n := 43) (1) dX2_insert_42 rfl (by decide) ?_
        refine j_isub (n := 44) dX2_insert_43 rfl ?_
        refine j_iald (n := 45) _ i dX2_insert_44 rfl h1' (nI_sub1 i) (by omega) (by omega) ?_
        rw [shF_at]
        refine j_iast (n := 46) _ (i + 1) dX2_insert_45 rfl h1' rfl (by omega) (by omega) ?_
        refine j_aload_n (n := 47) dX2_insert_46 rfl rfl ?_
        refine j_get (n := 50) _ dX2_insert_47 f_X2_15 rfl (gs_ne (by omega) h0') rfl ?_
        refine j_iload_n (n := 51) dX2_insert_50 rfl rfl ?_
        refine j_aload_n (n := 52) dX2_insert_51 rfl rfl ?_
        refine j_get (n := 55) _ dX2_insert_52 f_X2_15 rfl (gs_ne (by omega) h0') rfl ?_
        refine j_iload_n (n := 56) dX2_insert_55 rfl rfl ?_
        refine j_iconst (n := 57) (1) dX2_insert_56 rfl (by decide) ?_
        refine j_isub (n := 58) dX2_insert_57 rfl ?_
        refine j_iald (n := 59) _ i dX2_insert_58 rfl (gs_ne (by omega) h2') (nI_sub1 i) (by omega) (by omega) ?_
        rw [shF_at]
        refine j_iast (n := 60) _ (i + 1) dX2_insert_59 rfl (gs_ne (by omega) h2') rfl (by omega) (by omega) ?_
        refine j_iinc (n := 63) (nI i) dX2_insert_60 rfl rfl (nI_dec i) (by decide) ?_
        refine j_goto 16 dX2_insert_63 (by decide) ?_
        refine j_ws (by rw [set2 n12, shF_s f i n hi, shF_s g i n hi]) ?_
        exact ih (by omega) (by rw [he]; simp [insP, c2])
theorem c_insert {a0 a1 a2 n : Nat} {f g : Nat → Int32} {v x : Int32} (k0 : Nat) (h0 : ws[k0]? = some (a0, .inr (2, [.ref a1, .ref a2, .int (nI n)]))) (k1 : Nat) (h1 : ws[k1]? = some (a1, .inl (gI G, 200, .inl f))) (k2 : Nat) (h2 : ws[k2]? = some (a2, .inl (gI G, 200, .inl g))) (n01 : k0 ≠ k1) (n02 : k0 ≠ k2) (n12 : k1 ≠ k2) (hn : n < 200) : JV G Y_X2_insert 0 0 0 [.ref a0, .int v, .int x] ws (((ws.set k1 (a1, .inl (gI G, 200, .inl (insF f (insP g x n) n v)))).set k2 (a2, .inl (gI G, 200, .inl (insF g (insP g x n) n x)))).set k0 (a0, .inr (2, [.ref a1, .ref a2, .int (nI (n + 1))]))) := by
  refine JM.of [(0, .ref a0), (1, .int v), (2, .int x)] rfl rfl (by simp) (Nat.le_of_ble_eq_true rfl) (by decide +kernel) ?_
  refine j_aload_n (n := 1) dX2_insert_0 rfl rfl ?_
  refine j_get (n := 4) _ dX2_insert_1 f_X2_18 rfl h0 rfl ?_
  refine j_sipush (n := 7) (200) dX2_insert_4 rfl (by decide) ?_
  refine j_icmp_lt (n := 10) 11 dX2_insert_7 (by decide) rfl (fun c => ?_) (fun c => ?_)
  · refine j_aload_n (n := 12) dX2_insert_11 rfl rfl ?_
    refine j_get (n := 15) _ dX2_insert_12 f_X2_18 rfl h0 rfl ?_
    refine j_istore_n (n := 16) dX2_insert_15 rfl (by decide) ?_
    refine j_ws (ws' := (ws.set k1 (a1, .inl (gI G, 200, .inl (shF f n n)))).set k2 (a2, .inl (gI G, 200, .inl (shF g n n)))) (by rw [shF_n, shF_n, set_self h1, set_self h2]) ?_
    exact ins_loop h0 h1 h2 n01 n02 n12 hn n (Nat.le_refl _) rfl
  · exact absurd (nI_lt (b := 200) hn (by omega)) c
theorem c_nearTell {a0 a1 a2 n : Nat} {f g : Nat → Int32} {i w : Int32} (k0 : Nat) (h0 : ws[k0]? = some (a0, .inr (2, [.ref a1, .ref a2, .int (nI n)]))) (k1 : Nat) (h1 : ws[k1]? = some (a1, .inl (gI G, 200, .inl f))) (k2 : Nat) (h2 : ws[k2]? = some (a2, .inl (gI G, 200, .inl g))) (hn : n ≤ 200) : JE G Y_X2_tell 0 0 0 [.ref a0, .int i, .int w] ws (tl2 n f g i w) ws := by
  refine JM.of [(0, .ref a0), (1, .int i), (2, .int w)] rfl rfl (by simp) (Nat.le_of_ble_eq_true rfl) (by decide +kernel) ?_
  refine j_iload_n (n := 1) dX2_tell_0 rfl rfl ?_
  refine j_if_lt (n := 4) 12 dX2_tell_1 (by decide) rfl (fun c => ?_) (fun c => ?_)
  · refine j_iconst (n := 13) (-1) dX2_tell_12 rfl (by decide) ?_
    exact j_iret dX2_tell_13 rfl rfl (by omega) (by omega) (⟨by simp [tl2, c], rfl⟩)
  · refine j_iload_n (n := 5) dX2_tell_4 rfl rfl ?_
    refine j_aload_n (n := 6) dX2_tell_5 rfl rfl ?_
    refine j_get (n := 9) _ dX2_tell_6 f_X2_18 rfl h0 rfl ?_
    refine j_icmp_lt (n := 12) 14 dX2_tell_9 (by decide) rfl (fun c2 => ?_) (fun c2 => ?_)
    · rcases ix3 i (show n < 2147483648 by omega) with h | h | ⟨j, hj, rfl⟩
      · exact absurd h c
      · exact absurd c2 (Int32.not_lt.mpr h)
      · have hc : (nI j).toNatClampNeg = j := nI_clamp (by omega)
        have hx : ¬ (nI j < 0 ∨ nI n ≤ nI j) := fun q => q.elim c (fun q => Int32.not_lt.mpr q c2)
        refine j_iload_n (n := 15) dX2_tell_14 rfl rfl ?_
        by_cases e0 : w = 0
        · subst e0
          refine j_lookup (off := 25) 40 dX2_tell_15 (by decide) (by decide) (by decide) ?_
          refine j_aload_n (n := 41) dX2_tell_40 rfl rfl ?_
          refine j_get (n := 44) _ dX2_tell_41 f_X2_9 rfl h0 rfl ?_
          refine j_iload_n (n := 45) dX2_tell_44 rfl rfl ?_
          refine j_iald (n := 46) _ j dX2_tell_45 rfl h1 rfl (by omega) (by omega) ?_
          exact j_iret dX2_tell_46 rfl rfl (by omega) (by omega) (⟨by simp [tl2, hx, hc], rfl⟩)
        · by_cases e1 : w = 1
          · subst e1
            refine j_lookup (off := 32) 47 dX2_tell_15 (by decide) (by decide) (by decide) ?_
            refine j_aload_n (n := 48) dX2_tell_47 rfl rfl ?_
            refine j_get (n := 51) _ dX2_tell_48 f_X2_15 rfl h0 rfl ?_
            refine j_iload_n (n := 52) dX2_tell_51 rfl rfl ?_
            refine j_iald (n := 53) _ j dX2_tell_52 rfl h2 rfl (by omega) (by omega) ?_
            exact j_iret dX2_tell_53 rfl rfl (by omega) (by omega) (⟨by simp [tl2, hx, hc], rfl⟩)
          · refine j_lookup (off := 39) 54 dX2_tell_15 (by decide) ((lv_osw e0 rfl).trans ((lv_osw e1 rfl).trans rfl)) (by decide) ?_
            refine j_iconst (n := 55) (-1) dX2_tell_54 rfl (by decide) ?_
            exact j_iret dX2_tell_55 rfl rfl (by omega) (by omega) (⟨by simp [tl2, e0, e1], rfl⟩)
    · refine j_iconst (n := 13) (-1) dX2_tell_12 rfl (by decide) ?_
      exact j_iret dX2_tell_13 rfl rfl (by omega) (by omega) (⟨by simp [tl2, Int32.not_lt.mp c2], rfl⟩)
theorem c_wayAdd {a0 a1 a2 a3 n : Nat} {f g h : Nat → Int32} {x y z : Int32} (k0 : Nat) (h0 : ws[k0]? = some (a0, .inr (9, [.ref a1, .ref a2, .ref a3, .int (nI n)]))) (k1 : Nat) (h1 : ws[k1]? = some (a1, .inl (gI G, 40, .inl f))) (k2 : Nat) (h2 : ws[k2]? = some (a2, .inl (gI G, 40, .inl g))) (k3 : Nat) (h3 : ws[k3]? = some (a3, .inl (gI G, 40, .inl h))) (n01 : k0 ≠ k1) (n02 : k0 ≠ k2) (n03 : k0 ≠ k3) (n12 : k1 ≠ k2) (n13 : k1 ≠ k3) (n23 : k2 ≠ k3) (hn : n < 40) : JV G Y_X9_add 0 0 0 [.ref a0, .int x, .int y, .int z] ws ((((ws.set k1 (a1, .inl (gI G, 40, .inl (upd f n x)))).set k2 (a2, .inl (gI G, 40, .inl (upd g n y)))).set k3 (a3, .inl (gI G, 40, .inl (upd h n z)))).set k0 (a0, .inr (9, [.ref a1, .ref a2, .ref a3, .int (nI (n + 1))]))) := by
  refine JM.of [(0, .ref a0), (1, .int x), (2, .int y), (3, .int z)] rfl rfl (by simp) (Nat.le_of_ble_eq_true rfl) (by decide +kernel) ?_
  refine j_aload_n (n := 1) dX9_add_0 rfl rfl ?_
  refine j_get (n := 4) _ dX9_add_1 f_X9_21 rfl h0 rfl ?_
  refine j_bipush (n := 6) (40) dX9_add_4 rfl (by decide) ?_
  refine j_icmp_lt (n := 9) 10 dX9_add_6 (by decide) rfl (fun c => ?_) (fun c => ?_)
  · refine j_aload_n (n := 11) dX9_add_10 rfl rfl ?_
    refine j_get (n := 14) _ dX9_add_11 f_X9_9 rfl h0 rfl ?_
    refine j_aload_n (n := 15) dX9_add_14 rfl rfl ?_
    refine j_get (n := 18) _ dX9_add_15 f_X9_21 rfl h0 rfl ?_
    refine j_iload_n (n := 19) dX9_add_18 rfl rfl ?_
    refine j_iast (n := 20) _ n dX9_add_19 rfl h1 rfl (by omega) (by omega) ?_
    refine j_aload_n (n := 21) dX9_add_20 rfl rfl ?_
    refine j_get (n := 24) _ dX9_add_21 f_X9_15 rfl (gs_ne (by omega) h0) rfl ?_
    refine j_aload_n (n := 25) dX9_add_24 rfl rfl ?_
    refine j_get (n := 28) _ dX9_add_25 f_X9_21 rfl (gs_ne (by omega) h0) rfl ?_
    refine j_iload_n (n := 29) dX9_add_28 rfl rfl ?_
    refine j_iast (n := 30) _ n dX9_add_29 rfl (gs_ne (by omega) h2) rfl (by omega) (by omega) ?_
    refine j_aload_n (n := 31) dX9_add_30 rfl rfl ?_
    refine j_get (n := 34) _ dX9_add_31 f_X9_18 rfl (gs_ne (by omega) (gs_ne (by omega) h0)) rfl ?_
    refine j_aload_n (n := 35) dX9_add_34 rfl rfl ?_
    refine j_get (n := 38) _ dX9_add_35 f_X9_21 rfl (gs_ne (by omega) (gs_ne (by omega) h0)) rfl ?_
    refine j_iload_n (n := 39) dX9_add_38 rfl rfl ?_
    refine j_iast (n := 40) _ n dX9_add_39 rfl (gs_ne (by omega) (gs_ne (by omega) h3)) rfl (by omega) (by omega) ?_
    refine j_aload_n (n := 41) dX9_add_40 rfl rfl ?_
    refine j_dup (n := 42) dX9_add_41 rfl rfl ?_
    refine j_get (n := 45) _ dX9_add_42 f_X9_21 rfl (gs_ne (by omega) (gs_ne (by omega) (gs_ne (by omega) h0))) rfl ?_
    refine j_iconst (n := 46) (1) dX9_add_45 rfl (by decide) ?_
    refine j_iadd (n := 47) dX9_add_46 rfl ?_
    refine j_top (nI (n + 1)) (nI_1 n) ?_
    refine j_put (n := 50) _ dX9_add_47 f_X9_21 rfl rfl (gs_ne (by omega) (gs_ne (by omega) (gs_ne (by omega) h0))) (Nat.le_of_ble_eq_true rfl) rfl rfl ?_
    exact j_vret dX9_add_50 rfl (by omega) (by omega) (rfl)
  · exact absurd (nI_lt (b := 40) hn (by omega)) c
theorem c_wayTell {a0 a1 a2 a3 n : Nat} {f g h : Nat → Int32} {i w : Int32} (k0 : Nat) (h0 : ws[k0]? = some (a0, .inr (9, [.ref a1, .ref a2, .ref a3, .int (nI n)]))) (k1 : Nat) (h1 : ws[k1]? = some (a1, .inl (gI G, 40, .inl f))) (k2 : Nat) (h2 : ws[k2]? = some (a2, .inl (gI G, 40, .inl g))) (k3 : Nat) (h3 : ws[k3]? = some (a3, .inl (gI G, 40, .inl h))) (hn : n ≤ 40) : JE G Y_X9_tell 0 0 0 [.ref a0, .int i, .int w] ws (tl3 n f g h i w) ws := by
  refine JM.of [(0, .ref a0), (1, .int i), (2, .int w)] rfl rfl (by simp) (Nat.le_of_ble_eq_true rfl) (by decide +kernel) ?_
  refine j_iload_n (n := 1) dX9_tell_0 rfl rfl ?_
  refine j_if_lt (n := 4) 12 dX9_tell_1 (by decide) rfl (fun c => ?_) (fun c => ?_)
  · refine j_iconst (n := 13) (-1) dX9_tell_12 rfl (by decide) ?_
    exact j_iret dX9_tell_13 rfl rfl (by omega) (by omega) (⟨by simp [tl3, c], rfl⟩)
  · refine j_iload_n (n := 5) dX9_tell_4 rfl rfl ?_
    refine j_aload_n (n := 6) dX9_tell_5 rfl rfl ?_
    refine j_get (n := 9) _ dX9_tell_6 f_X9_21 rfl h0 rfl ?_
    refine j_icmp_lt (n := 12) 14 dX9_tell_9 (by decide) rfl (fun c2 => ?_) (fun c2 => ?_)
    · rcases ix3 i (show n < 2147483648 by omega) with h | h | ⟨j, hj, rfl⟩
      · exact absurd h c
      · exact absurd c2 (Int32.not_lt.mpr h)
      · have hc : (nI j).toNatClampNeg = j := nI_clamp (by omega)
        have hx : ¬ (nI j < 0 ∨ nI n ≤ nI j) := fun q => q.elim c (fun q => Int32.not_lt.mpr q c2)
        refine j_iload_n (n := 15) dX9_tell_14 rfl rfl ?_
        by_cases e0 : w = 0
        · subst e0
          refine j_tableIn 40 dX9_tell_15 (by decide) (by decide) (off := 25) (by decide) (by decide) ?_
          refine j_aload_n (n := 41) dX9_tell_40 rfl rfl ?_
          refine j_get (n := 44) _ dX9_tell_41 f_X9_9 rfl h0 rfl ?_
          refine j_iload_n (n := 45) dX9_tell_44 rfl rfl ?_
          refine j_iald (n := 46) _ j dX9_tell_45 rfl h1 rfl (by omega) (by omega) ?_
          exact j_iret dX9_tell_46 rfl rfl (by omega) (by omega) (⟨by simp [tl3, hx, hc], rfl⟩)
        · by_cases e1 : w = 1
          · subst e1
            refine j_tableIn 47 dX9_tell_15 (by decide) (by decide) (off := 32) (by decide) (by decide) ?_
            refine j_aload_n (n := 48) dX9_tell_47 rfl rfl ?_
            refine j_get (n := 51) _ dX9_tell_48 f_X9_15 rfl h0 rfl ?_
            refine j_iload_n (n := 52) dX9_tell_51 rfl rfl ?_
            refine j_iald (n := 53) _ j dX9_tell_52 rfl h2 rfl (by omega) (by omega) ?_
            exact j_iret dX9_tell_53 rfl rfl (by omega) (by omega) (⟨by simp [tl3, hx, hc], rfl⟩)
          · by_cases e2 : w = 2
            · subst e2
              refine j_tableIn 54 dX9_tell_15 (by decide) (by decide) (off := 39) (by decide) (by decide) ?_
              refine j_aload_n (n := 55) dX9_tell_54 rfl rfl ?_
              refine j_get (n := 58) _ dX9_tell_55 f_X9_18 rfl h0 rfl ?_
              refine j_iload_n (n := 59) dX9_tell_58 rfl rfl ?_
              refine j_iald (n := 60) _ j dX9_tell_59 rfl h3 rfl (by omega) (by omega) ?_
              exact j_iret dX9_tell_60 rfl rfl (by omega) (by omega) (⟨by simp [tl3, hx, hc], rfl⟩)
            · refine j_tableOut 61 dX9_tell_15 (sw3 e0 e1 e2) (by decide) ?_
              refine j_iconst (n := 62) (-1) dX9_tell_61 rfl (by decide) ?_
              exact j_iret dX9_tell_62 rfl rfl (by omega) (by omega) (⟨by simp [tl3, e0, e1, e2], rfl⟩)
    · refine j_iconst (n := 13) (-1) dX9_tell_12 rfl (by decide) ?_
      exact j_iret dX9_tell_13 rfl rfl (by omega) (by omega) (⟨by simp [tl3, Int32.not_lt.mp c2], rfl⟩)
end LI
end
section
/-! PairList's add and tell; Text but for findPieces -/
theorem bi_and (a b : Nat) : nI a &&& nI b = nI (a &&& b) := by
  apply Int32.toBitVec_inj.1
  show BitVec.ofNat 32 a &&& BitVec.ofNat 32 b = BitVec.ofNat 32 (a &&& b)
  apply BitVec.eq_of_getLsbD_eq
  intro i hi
  simp [hi]
theorem bi_or (a b : Nat) : nI a ||| nI b = nI (a ||| b) := by
  apply Int32.toBitVec_inj.1
  show BitVec.ofNat 32 a ||| BitVec.ofNat 32 b = BitVec.ofNat 32 (a ||| b)
  apply BitVec.eq_of_getLsbD_eq
  intro i hi
  simp [hi]
theorem bi_or_sum {a k : Nat} (b : Nat) (h : a < 2 ^ k) : nI (2 ^ k * b) ||| nI a = nI (2 ^ k * b + a) := by rw [bi_or, Nat.two_pow_add_eq_or_of_lt h]
theorem pkd (e f c : Nat) (he : e < 256) (hf : f < 256) (hc : c < 256) : ((nI e <<< ((16 : Int32) &&& 31)) ||| (nI f <<< ((8 : Int32) &&& 31))) ||| nI c = nI (65536 * e + 256 * f + c) := by
  rw [pk_shlN (16 &&& 31) 16 (by decide) (by omega), pk_shlN (8 &&& 31) 8 (by decide) (by omega)]
  have e1 : nI (e * 2 ^ 16) ||| nI (f * 2 ^ 8) = nI (2 ^ 16 * e + f * 2 ^ 8) := by
    rw [Nat.mul_comm e]; exact bi_or_sum e (by omega)
  rw [e1, show 2 ^ 16 * e + f * 2 ^ 8 = 2 ^ 8 * (256 * e + f) by omega, bi_or_sum _ (by omega)]
  congr 1
  omega
theorem pkd_e {e f c : Nat} (he : e < 256) (hf : f < 256) (hc : c < 256) : nI (65536 * e + 256 * f + c) >>> ((16 : Int32) &&& 31) = nI e := by
  rw [pk_shrN (by omega) (16 &&& 31) 16 (by decide)]; congr 1; omega
theorem pkd_f {e f c : Nat} (he : e < 256) (hf : f < 256) (hc : c < 256) : (nI (65536 * e + 256 * f + c) >>> ((8 : Int32) &&& 31)) &&& 255 = nI f := by
  rw [pk_shrN (by omega) (8 &&& 31) 8 (by decide), pk_andN (by omega) 8 (by decide)]; congr 1; omega
theorem pkd_c {e f c : Nat} (he : e < 256) (hf : f < 256) (hc : c < 256) : nI (65536 * e + 256 * f + c) &&& 255 = nI c := by
  rw [pk_andN (by omega) 8 (by decide)]; congr 1; omega
def revF (f : Nat → Int32) (lo hi : Nat) : Nat → Int32 := fun k => if lo ≤ k ∧ k < hi then f (lo + hi - 1 - k) else f k
def swF (f : Nat → Int32) (lo hi i : Nat) : Nat → Int32 := fun k => if (lo ≤ k ∧ k < lo + i) ∨ (hi - i ≤ k ∧ k < hi) then f (lo + hi - 1 - k) else f k
theorem swF_0 (f : Nat → Int32) (lo hi : Nat) : swF f lo hi 0 = f := by
  funext k; unfold swF; rw [if_neg (by omega)]
theorem swF_end (f : Nat → Int32) {lo hi i : Nat} (h1 : lo + 2 * i ≤ hi + 1) (h2 : hi ≤ lo + 2 * i + 1) (h3 : lo ≤ hi) : swF f lo hi i = revF f lo hi := by
  funext k; unfold swF revF
  by_cases hk : (lo ≤ k ∧ k < lo + i) ∨ (hi - i ≤ k ∧ k < hi)
  · rw [if_pos hk]
    by_cases hb : lo ≤ k ∧ k < hi
    · rw [if_pos hb]
    · rw [if_neg hb]; congr 1; omega
  · rw [if_neg hk]
    by_cases hb : lo ≤ k ∧ k < hi
    · rw [if_pos hb]; congr 1; omega
    · rw [if_neg hb]
theorem swF_s (f : Nat → Int32) {lo hi i h : Nat} (h1 : h + i + 1 = hi) (h2 : lo + i < h) : upd (upd (swF f lo hi i) (lo + i) (swF f lo hi i h)) h (swF f lo hi i (lo + i)) = swF f lo hi (i + 1) := by
  have a1 : swF f lo hi i h = f h := by unfold swF; rw [if_neg (by omega)]
  have a2 : swF f lo hi i (lo + i) = f (lo + i) := by unfold swF; rw [if_neg (by omega)]
  rw [a1, a2]
  funext k; unfold upd
  by_cases k1 : k = h
  · rw [if_pos k1]; unfold swF; rw [if_pos (by omega)]; congr 1; omega
  · rw [if_neg k1]
    by_cases k2 : k = lo + i
    · rw [if_pos k2]; unfold swF; rw [if_pos (by omega)]; congr 1; omega
    · rw [if_neg k2]; unfold swF
      by_cases hk : (lo ≤ k ∧ k < lo + i) ∨ (hi - i ≤ k ∧ k < hi)
      · rw [if_pos hk, if_pos (by omega)]
      · rw [if_neg hk, if_neg (by omega)]
def atF (n : Nat) (f : Nat → Int32) (i : Int32) : Int32 := if i < 0 ∨ nI n ≤ i then -1 else f i.toNatClampNeg
theorem atF_in {n : Nat} {f : Nat → Int32} {j : Nat} (h : j < n) (hn : n < 2147483648) : atF n f (nI j) = f j := by
  unfold atF
  rw [if_neg (fun q => q.elim (nI_pos (by omega)) (nI_ge h hn)), nI_clamp (by omega)]
theorem atF_out {n : Nat} {f : Nat → Int32} {j : Nat} (h : n ≤ j) (hj : j < 2147483648) : atF n f (nI j) = -1 := by
  unfold atF
  rw [if_pos (Or.inr (nI_le h hj))]
section TE
variable {G : GT} {ws : va_W} {pre : va_W}
theorem c_pairAdd {a0 a1 n e f c : Nat} {p : Nat → Int32} (k0 : Nat) (h0 : ws[k0]? = some (a0, .inr (3, [.ref a1, .int (nI n)]))) (k1 : Nat) (h1 : ws[k1]? = some (a1, .inl (gI G, 1000, .inl p))) (n01 : k0 ≠ k1) (hn : n < 1000000) (he : e < 256) (hf : f < 256) (hc : c < 256) : JV G Y_X3_add 0 0 0 [.ref a0, .int (nI e), .int (nI f), .int (nI c)] ws ((if n < 1000 then ws.set k1 (a1, .inl (gI G, 1000, .inl (upd p n (nI (65536 * e + 256 * f + c))))) else ws).set k0 (a0, .inr (3, [.ref a1, .int (nI (n + 1))]))) := by
  refine JM.of [(0, .ref a0), (1, .int (nI e)), (2, .int (nI f)), (3, .int (nI c))] rfl rfl (by simp) (Nat.le_of_ble_eq_true rfl) (by decide +kernel) ?_
  refine j_aload_n (n := 1) dX3_add_0 rfl rfl ?_
  refine j_get (n := 4) _ dX3_add_1 f_X3_15 rfl h0 rfl ?_
  refine j_sipush (n := 7) (1000) dX3_add_4 rfl (by decide) ?_
  refine j_icmp_ge (n := 10) 30 dX3_add_7 (by decide) rfl (fun c1 => ?_) (fun c1 => ?_)
  · have hx : ¬ n < 1000 := fun q => (nI_ge (b := 1000) q (by omega)) c1
    rw [if_neg hx]
    refine j_aload_n (n := 31) dX3_add_30 rfl rfl ?_
    refine j_dup (n := 32) dX3_add_31 rfl rfl ?_
    refine j_get (n := 35) _ dX3_add_32 f_X3_15 rfl h0 rfl ?_
    refine j_iconst (n := 36) (1) dX3_add_35 rfl (by decide) ?_
    refine j_iadd (n := 37) dX3_add_36 rfl ?_
    refine j_top (nI (n + 1)) (nI_1 n) ?_
    refine j_put (n := 40) _ dX3_add_37 f_X3_15 rfl rfl h0 (Nat.le_of_ble_eq_true rfl) rfl rfl ?_
    exact j_vret dX3_add_40 rfl (by omega) (by omega) (rfl)
  · have hx : n < 1000 := Nat.lt_of_not_le (fun q => c1 (nI_le (a := 1000) q (by omega)))
    rw [if_pos hx]
    refine j_aload_n (n := 11) dX3_add_10 rfl rfl ?_
    refine j_get (n := 14) _ dX3_add_11 f_X3_9 rfl h0 rfl ?_
    refine j_aload_n (n := 15) dX3_add_14 rfl rfl ?_
    refine j_get (n := 18) _ dX3_add_15 f_X3_15 rfl h0 rfl ?_
    refine j_iload_n (n := 19) dX3_add_18 rfl rfl ?_
    refine j_bipush (n := 21) (16) dX3_add_19 rfl (by decide) ?_
    refine j_ishl (n := 22) dX3_add_21 rfl ?_
    refine j_iload_n (n := 23) dX3_add_22 rfl rfl ?_
    refine j_bipush (n := 25) (8) dX3_add_23 rfl (by decide) ?_
    refine j_ishl (n := 26) dX3_add_25 rfl ?_
    refine j_ior (n := 27) dX3_add_26 rfl ?_
    refine j_iload_n (n := 28) dX3_add_27 rfl rfl ?_
    refine j_ior (n := 29) dX3_add_28 rfl ?_
    refine j_top (nI (65536 * e + 256 * f + c)) (pkd e f c he hf hc) ?_
    refine j_iast (n := 30) _ n dX3_add_29 rfl h1 rfl (by omega) (by omega) ?_
    refine j_aload_n (n := 31) dX3_add_30 rfl rfl ?_
    refine j_dup (n := 32) dX3_add_31 rfl rfl ?_
    refine j_get (n := 35) _ dX3_add_32 f_X3_15 rfl (gs_ne (by omega) h0) rfl ?_
    refine j_iconst (n := 36) (1) dX3_add_35 rfl (by decide) ?_
    refine j_iadd (n := 37) dX3_add_36 rfl ?_
    refine j_top (nI (n + 1)) (nI_1 n) ?_
    refine j_put (n := 40) _ dX3_add_37 f_X3_15 rfl rfl (gs_ne (by omega) h0) (Nat.le_of_ble_eq_true rfl) rfl rfl ?_
    exact j_vret dX3_add_40 rfl (by omega) (by omega) (rfl)
theorem c_pairTell {a0 a1 n : Nat} {p : Nat → Int32} {E F C : Nat → Nat} {i w : Int32} (k0 : Nat) (h0 : ws[k0]? = some (a0, .inr (3, [.ref a1, .int (nI n)]))) (k1 : Nat) (h1 : ws[k1]? = some (a1, .inl (gI G, 1000, .inl p))) (hn : n < 1000000) (hp : ∀ j, j < n → j < 1000 → p j = nI (65536 * E j + 256 * F j + C j) ∧ E j < 256 ∧ F j < 256 ∧ C j < 256) : JE G Y_X3_tell 0 0 0 [.ref a0, .int i, .int w] ws (tl3 (min n 1000) (fun j => nI (E j)) (fun j => nI (F j)) (fun j => nI (C j)) i w) ws := by
  refine JM.of [(0, .ref a0), (1, .int i), (2, .int w)] rfl rfl (by simp) (Nat.le_of_ble_eq_true rfl) (by decide +kernel) ?_
  refine j_iload_n (n := 1) dX3_tell_0 rfl rfl ?_
  refine j_if_lt (n := 4) 19 dX3_tell_1 (by decide) rfl (fun c => ?_) (fun c => ?_)
  · refine j_iconst (n := 20) (-1) dX3_tell_19 rfl (by decide) ?_
    exact j_iret dX3_tell_20 rfl rfl (by omega) (by omega) (⟨by simp [tl3, c], rfl⟩)
  · refine j_iload_n (n := 5) dX3_tell_4 rfl rfl ?_
    refine j_aload_n (n := 6) dX3_tell_5 rfl rfl ?_
    refine j_get (n := 9) _ dX3_tell_6 f_X3_15 rfl h0 rfl ?_
    refine j_icmp_ge (n := 12) 19 dX3_tell_9 (by decide) rfl (fun c2 => ?_) (fun c2 => ?_)
    · have hm : nI (min n 1000) ≤ i := Int32.le_trans (nI_le (by omega) (by omega)) c2
      refine j_iconst (n := 20) (-1) dX3_tell_19 rfl (by decide) ?_
      exact j_iret dX3_tell_20 rfl rfl (by omega) (by omega) (⟨by simp [tl3, hm], rfl⟩)
    · refine j_iload_n (n := 13) dX3_tell_12 rfl rfl ?_
      refine j_sipush (n := 16) (1000) dX3_tell_13 rfl (by decide) ?_
      refine j_icmp_lt (n := 19) 21 dX3_tell_16 (by decide) rfl (fun c3 => ?_) (fun c3 => ?_)
      · rcases ix3 i (show min n 1000 < 2147483648 by omega) with h | h | ⟨j, hj, rfl⟩
        · exact absurd h c
        · rcases (show min n 1000 = n ∨ min n 1000 = 1000 by omega) with e | e
          · rw [e] at h; exact absurd h c2
          · rw [e] at h; exact absurd c3 (Int32.not_lt.mpr h)
        · have hc : (nI j).toNatClampNeg = j := nI_clamp (by omega)
          have hx : ¬ (nI j < 0 ∨ nI (min n 1000) ≤ nI j) := fun q => q.elim c (nI_ge hj (by omega))
          obtain ⟨q1, q2, q3, q4⟩ := hp j (by omega) (by omega)
          refine j_iload_n (n := 22) dX3_tell_21 rfl rfl ?_
          by_cases e0 : w = 0
          · subst e0
            refine j_tableIn 48 dX3_tell_22 (by decide) (by decide) (off := 26) (by decide) (by decide) ?_
            refine j_aload_n (n := 49) dX3_tell_48 rfl rfl ?_
            refine j_get (n := 52) _ dX3_tell_49 f_X3_9 rfl h0 rfl ?_
            refine j_iload_n (n := 53) dX3_tell_52 rfl rfl ?_
            refine j_iald (n := 54) _ j dX3_tell_53 rfl h1 rfl (by omega) (by omega) ?_
            refine j_bipush (n := 56) (16) dX3_tell_54 rfl (by decide) ?_
            refine j_ishr (n := 57) dX3_tell_56 rfl ?_
            exact j_iret dX3_tell_57 rfl rfl (by omega) (by omega) (⟨by rw [q1, pkd_e q2 q3 q4]; simp [tl3, hx, hc], rfl⟩)
          · by_cases e1 : w = 1
            · subst e1
              refine j_tableIn 58 dX3_tell_22 (by decide) (by decide) (off := 36) (by decide) (by decide) ?_
              refine j_aload_n (n := 59) dX3_tell_58 rfl rfl ?_
              refine j_get (n := 62) _ dX3_tell_59 f_X3_9 rfl h0 rfl ?_
              refine j_iload_n (n := 63) dX3_tell_62 rfl rfl ?_
              refine j_iald (n := 64) _ j dX3_tell_63 rfl h1 rfl (by omega) (by omega) ?_
              refine j_bipush (n := 66) (8) dX3_tell_64 rfl (by decide) ?_
              refine j_ishr (n := 67) dX3_tell_66 rfl ?_
              refine j_sipush (n := 70) (255) dX3_tell_67 rfl (by decide) ?_
              refine j_iand (n := 71) dX3_tell_70 rfl ?_
              exact j_iret dX3_tell_71 rfl rfl (by omega) (by omega) (⟨by rw [q1, pkd_f q2 q3 q4]; simp [tl3, hx, hc], rfl⟩)
            · by_cases e2 : w = 2
              · subst e2
                refine j_tableIn 72 dX3_tell_22 (by decide) (by decide) (off := 50) (by decide) (by decide) ?_
                refine j_aload_n (n := 73) dX3_tell_72 rfl rfl ?_
                refine j_get (n := 76) _ dX3_tell_73 f_X3_9 rfl h0 rfl ?_
                refine j_iload_n (n := 77) dX3_tell_76 rfl rfl ?_
                refine j_iald (n := 78) _ j dX3_tell_77 rfl h1 rfl (by omega) (by omega) ?_
                refine j_sipush (n := 81) (255) dX3_tell_78 rfl (by decide) ?_
                refine j_iand (n := 82) dX3_tell_81 rfl ?_
                exact j_iret dX3_tell_82 rfl rfl (by omega) (by omega) (⟨by rw [q1, pkd_c q2 q3 q4]; simp [tl3, hx, hc], rfl⟩)
              · refine j_tableOut 83 dX3_tell_22 (sw3 e0 e1 e2) (by decide) ?_
                refine j_iconst (n := 84) (-1) dX3_tell_83 rfl (by decide) ?_
                exact j_iret dX3_tell_84 rfl rfl (by omega) (by omega) (⟨by simp [tl3, e0, e1, e2], rfl⟩)
      · have hm : nI (min n 1000) ≤ i := Int32.le_trans (nI_le (a := min n 1000) (b := 1000) (by omega) (by omega)) (Int32.not_lt.mp c3)
        refine j_iconst (n := 20) (-1) dX3_tell_19 rfl (by decide) ?_
        exact j_iret dX3_tell_20 rfl rfl (by omega) (by omega) (⟨by simp [tl3, hm], rfl⟩)
theorem c_seenAt {a0 a1 a2 a3 a4 len cnt : Nat} {s : Nat → Int32} {st pst i : Int32} (k0 : Nat) (h0 : ws[k0]? = some (a0, .inr (8, [.ref a1, .int (nI len), .ref a2, .int (nI cnt), .int st, .ref a3, .ref a4, .int pst]))) (k2 : Nat) (h2 : ws[k2]? = some (a2, .inl (gI G, len, .inl s))) (hc : cnt ≤ len) (hl : len ≤ 40) : JE G Y_X8_seenAt 0 0 0 [.ref a0, .int i] ws (atF cnt s i) ws := by
  refine JM.of [(0, .ref a0), (1, .int i)] rfl rfl (by simp) (Nat.le_of_ble_eq_true rfl) (by decide +kernel) ?_
  refine j_iload_n (n := 1) dX8_seenAt_0 rfl rfl ?_
  refine j_if_lt (n := 4) 21 dX8_seenAt_1 (by decide) rfl (fun c => ?_) (fun c => ?_)
  · refine j_iconst (n := 22) (-1) dX8_seenAt_21 rfl (by decide) ?_
    exact j_iret dX8_seenAt_22 rfl rfl (by omega) (by omega) (⟨by simp [atF, c], rfl⟩)
  · refine j_iload_n (n := 5) dX8_seenAt_4 rfl rfl ?_
    refine j_aload_n (n := 6) dX8_seenAt_5 rfl rfl ?_
    refine j_get (n := 9) _ dX8_seenAt_6 f_X8_43 rfl h0 rfl ?_
    refine j_icmp_ge (n := 12) 21 dX8_seenAt_9 (by decide) rfl (fun c2 => ?_) (fun c2 => ?_)
    · refine j_iconst (n := 22) (-1) dX8_seenAt_21 rfl (by decide) ?_
      exact j_iret dX8_seenAt_22 rfl rfl (by omega) (by omega) (⟨by simp [atF, c2], rfl⟩)
    · rcases ix3 i (show cnt < 2147483648 by omega) with h | h | ⟨j, hj, rfl⟩
      · exact absurd h c
      · exact absurd h c2
      · refine j_aload_n (n := 13) dX8_seenAt_12 rfl rfl ?_
        refine j_get (n := 16) _ dX8_seenAt_13 f_X8_34 rfl h0 rfl ?_
        refine j_iload_n (n := 17) dX8_seenAt_16 rfl rfl ?_
        refine j_iald (n := 18) _ j dX8_seenAt_17 rfl h2 rfl (by omega) (by omega) ?_
        refine j_goto 22 dX8_seenAt_18 (by decide) ?_
        exact j_iret dX8_seenAt_22 rfl rfl (by omega) (by omega) (⟨(atF_in hj (by omega)).symm, rfl⟩)
theorem c_toldAt {a0 a1 a2 a3 a4 len cnt : Nat} {t : Nat → Int32} {st pst i : Int32} (k0 : Nat) (h0 : ws[k0]? = some (a0, .inr (8, [.ref a1, .int (nI len), .ref a2, .int (nI cnt), .int st, .ref a3, .ref a4, .int pst]))) (k1 : Nat) (h1 : ws[k1]? = some (a1, .inl (gI G, len, .inl t))) (hl : len ≤ 40) : JE G Y_X8_toldAt 0 0 0 [.ref a0, .int i] ws (atF len t i) ws := by
  refine JM.of [(0, .ref a0), (1, .int i)] rfl rfl (by simp) (Nat.le_of_ble_eq_true rfl) (by decide +kernel) ?_
  refine j_iload_n (n := 1) dX8_toldAt_0 rfl rfl ?_
  refine j_if_lt (n := 4) 21 dX8_toldAt_1 (by decide) rfl (fun c => ?_) (fun c => ?_)
  · refine j_iconst (n := 22) (-1) dX8_toldAt_21 rfl (by decide) ?_
    exact j_iret dX8_toldAt_22 rfl rfl (by omega) (by omega) (⟨by simp [atF, c], rfl⟩)
  · refine j_iload_n (n := 5) dX8_toldAt_4 rfl rfl ?_
    refine j_aload_n (n := 6) dX8_toldAt_5 rfl rfl ?_
    refine j_get (n := 9) _ dX8_toldAt_6 f_X8_18 rfl h0 rfl ?_
    refine j_icmp_ge (n := 12) 21 dX8_toldAt_9 (by decide) rfl (fun c2 => ?_) (fun c2 => ?_)
    · refine j_iconst (n := 22) (-1) dX8_toldAt_21 rfl (by decide) ?_
      exact j_iret dX8_toldAt_22 rfl rfl (by omega) (by omega) (⟨by simp [atF, c2], rfl⟩)
    · rcases ix3 i (show len < 2147483648 by omega) with h | h | ⟨j, hj, rfl⟩
      · exact absurd h c
      · exact absurd h c2
      · refine j_aload_n (n := 13) dX8_toldAt_12 rfl rfl ?_
        refine j_get (n := 16) _ dX8_toldAt_13 f_X8_30 rfl h0 rfl ?_
        refine j_iload_n (n := 17) dX8_toldAt_16 rfl rfl ?_
        refine j_iald (n := 18) _ j dX8_toldAt_17 rfl h1 rfl (by omega) (by omega) ?_
        refine j_goto 22 dX8_toldAt_18 (by decide) ?_
        exact j_iret dX8_toldAt_22 rfl rfl (by omega) (by omega) (⟨(atF_in hj (by omega)).symm, rfl⟩)
def pceF (n : Nat) (f : Nat → Int32) (i c : Int32) : Int32 := if c = 1 then atF n f i else 256 * atF n f i + atF n f (i + 1)
theorem c_pieceAt {a0 a1 a2 a3 a4 len cnt : Nat} {s : Nat → Int32} {st pst i c : Int32} (k0 : Nat) (h0 : ws[k0]? = some (a0, .inr (8, [.ref a1, .int (nI len), .ref a2, .int (nI cnt), .int st, .ref a3, .ref a4, .int pst]))) (k2 : Nat) (h2 : ws[k2]? = some (a2, .inl (gI G, len, .inl s))) (hc : cnt ≤ len) (hl : len ≤ 40) : JE G Y_X8_pieceAt 1 0 0 [.ref a0, .int i, .int c] ws (pceF cnt s i c) ws := by
  refine JM.of [(0, .ref a0), (1, .int i), (2, .int c)] rfl rfl (by simp) (Nat.le_of_ble_eq_true rfl) (by decide +kernel) ?_
  refine j_iload_n (n := 1) dX8_pieceAt_0 rfl rfl ?_
  refine j_iconst (n := 2) (1) dX8_pieceAt_1 rfl (by decide) ?_
  refine j_icmp_ne (n := 5) 13 dX8_pieceAt_2 (by decide) rfl (fun c1 => ?_) (fun c1 => ?_)
  · refine j_sipush (n := 16) (256) dX8_pieceAt_13 rfl (by decide) ?_
    refine j_aload_n (n := 17) dX8_pieceAt_16 rfl rfl ?_
    refine j_iload_n (n := 18) dX8_pieceAt_17 rfl rfl ?_
    refine j_callVe (n := 21) (Y1 := Y_X8_seenAt) _ dX8_pieceAt_18 m_X8_74 cy_X8_seenAt ci_X8_seenAt (c_seenAt _ h0 _ h2 (by omega) (by omega)) rfl rfl rfl h0 rfl (by omega) (by omega) (by omega) (Nat.le_of_ble_eq_true rfl) ?_
    refine j_imul (n := 22) dX8_pieceAt_21 rfl ?_
    refine j_aload_n (n := 23) dX8_pieceAt_22 rfl rfl ?_
    refine j_iload_n (n := 24) dX8_pieceAt_23 rfl rfl ?_
    refine j_iconst (n := 25) (1) dX8_pieceAt_24 rfl (by decide) ?_
    refine j_iadd (n := 26) dX8_pieceAt_25 rfl ?_
    refine j_callVe (n := 29) (Y1 := Y_X8_seenAt) _ dX8_pieceAt_26 m_X8_74 cy_X8_seenAt ci_X8_seenAt (c_seenAt _ h0 _ h2 (by omega) (by omega)) rfl rfl rfl h0 rfl (by omega) (by omega) (by omega) (Nat.le_of_ble_eq_true rfl) ?_
    refine j_iadd (n := 30) dX8_pieceAt_29 rfl ?_
    exact j_iret dX8_pieceAt_30 rfl rfl (by omega) (by omega) (⟨by simp [pceF, c1], rfl⟩)
  · refine j_aload_n (n := 6) dX8_pieceAt_5 rfl rfl ?_
    refine j_iload_n (n := 7) dX8_pieceAt_6 rfl rfl ?_
    refine j_callVe (n := 10) (Y1 := Y_X8_seenAt) _ dX8_pieceAt_7 m_X8_74 cy_X8_seenAt ci_X8_seenAt (c_seenAt _ h0 _ h2 (by omega) (by omega)) rfl rfl rfl h0 rfl (by omega) (by omega) (by omega) (Nat.le_of_ble_eq_true rfl) ?_
    refine j_goto 30 dX8_pieceAt_10 (by decide) ?_
    exact j_iret dX8_pieceAt_30 rfl rfl (by omega) (by omega) (⟨by simp [pceF, c1], rfl⟩)
def pixF (n : Nat) (u p : Nat → Int32) (i c : Int32) : Int32 := if i < 0 ∨ nI n ≤ i then -1 else if c = 1 then u i.toNatClampNeg else p i.toNatClampNeg
theorem c_pieceIndexAt {a0 a1 a2 a3 a4 len cnt : Nat} {u p : Nat → Int32} {st pst i c : Int32} (k0 : Nat) (h0 : ws[k0]? = some (a0, .inr (8, [.ref a1, .int (nI len), .ref a2, .int (nI cnt), .int st, .ref a3, .ref a4, .int pst]))) (k3 : Nat) (h3 : ws[k3]? = some (a3, .inl (gI G, len, .inl u))) (k4 : Nat) (h4 : ws[k4]? = some (a4, .inl (gI G, len, .inl p))) (hc : cnt ≤ len) (hl : len ≤ 40) : JE G Y_X8_pieceIndexAt 0 0 0 [.ref a0, .int i, .int c] ws (pixF cnt u p i c) ws := by
  refine JM.of [(0, .ref a0), (1, .int i), (2, .int c)] rfl rfl (by simp) (Nat.le_of_ble_eq_true rfl) (by decide +kernel) ?_
  refine j_iload_n (n := 1) dX8_pieceIndexAt_0 rfl rfl ?_
  refine j_if_lt (n := 4) 12 dX8_pieceIndexAt_1 (by decide) rfl (fun c1 => ?_) (fun c1 => ?_)
  · refine j_iconst (n := 13) (-1) dX8_pieceIndexAt_12 rfl (by decide) ?_
    exact j_iret dX8_pieceIndexAt_13 rfl rfl (by omega) (by omega) (⟨by simp [pixF, c1], rfl⟩)
  · refine j_iload_n (n := 5) dX8_pieceIndexAt_4 rfl rfl ?_
    refine j_aload_n (n := 6) dX8_pieceIndexAt_5 rfl rfl ?_
    refine j_get (n := 9) _ dX8_pieceIndexAt_6 f_X8_43 rfl h0 rfl ?_
    refine j_icmp_lt (n := 12) 14 dX8_pieceIndexAt_9 (by decide) rfl (fun c2 => ?_) (fun c2 => ?_)
    · rcases ix3 i (show cnt < 2147483648 by omega) with h | h | ⟨j, hj, rfl⟩
      · exact absurd h c1
      · exact absurd c2 (Int32.not_lt.mpr h)
      · have hcl : (nI j).toNatClampNeg = j := nI_clamp (by omega)
        have hx : ¬ (nI j < 0 ∨ nI cnt ≤ nI j) := fun q => q.elim c1 (nI_ge hj (by omega))
        refine j_iload_n (n := 15) dX8_pieceIndexAt_14 rfl rfl ?_
        refine j_iconst (n := 16) (1) dX8_pieceIndexAt_15 rfl (by decide) ?_
        refine j_icmp_ne (n := 19) 28 dX8_pieceIndexAt_16 (by decide) rfl (fun c3 => ?_) (fun c3 => ?_)
        · refine j_aload_n (n := 29) dX8_pieceIndexAt_28 rfl rfl ?_
          refine j_get (n := 32) _ dX8_pieceIndexAt_29 f_X8_40 rfl h0 rfl ?_
          refine j_iload_n (n := 33) dX8_pieceIndexAt_32 rfl rfl ?_
          refine j_iald (n := 34) _ j dX8_pieceIndexAt_33 rfl h4 rfl (by omega) (by omega) ?_
          exact j_iret dX8_pieceIndexAt_34 rfl rfl (by omega) (by omega) (⟨by simp [pixF, hx, hcl, c3], rfl⟩)
        · refine j_aload_n (n := 20) dX8_pieceIndexAt_19 rfl rfl ?_
          refine j_get (n := 23) _ dX8_pieceIndexAt_20 f_X8_37 rfl h0 rfl ?_
          refine j_iload_n (n := 24) dX8_pieceIndexAt_23 rfl rfl ?_
          refine j_iald (n := 25) _ j dX8_pieceIndexAt_24 rfl h3 rfl (by omega) (by omega) ?_
          refine j_goto 34 dX8_pieceIndexAt_25 (by decide) ?_
          exact j_iret dX8_pieceIndexAt_34 rfl rfl (by omega) (by omega) (⟨by simp [pixF, hx, hcl, c3], rfl⟩)
    · refine j_iconst (n := 13) (-1) dX8_pieceIndexAt_12 rfl (by decide) ?_
      exact j_iret dX8_pieceIndexAt_13 rfl rfl (by omega) (by omega) (⟨by simp [pixF, Int32.not_lt.mp c2], rfl⟩)
theorem turn_loop {a0 a1 a2 a3 a4 len cnt fr : Nat} {s : Nat → Int32} {st pst : Int32} {k0 k2 : Nat} (h0 : ws[k0]? = some (a0, .inr (8, [.ref a1, .int (nI len), .ref a2, .int (nI cnt), .int st, .ref a3, .ref a4, .int pst]))) (h2 : ws[k2]? = some (a2, .inl (gI G, len, .inl s))) (hne : k0 ≠ k2) (hfr : fr ≤ cnt) (hc : cnt ≤ len) (hl : len ≤ 40) : ∀ (n i h : Nat), h + i + 1 = cnt → cnt ≤ 2 * i + fr + 1 + n → fr + 2 * i ≤ cnt + 1 → JJ G Y_X8_turnFrom 1 0 0 (Qv (fun w => w = ws.set k2 (a2, .inl (gI G, len, .inl (revF s fr cnt))))) 13 [(0, .ref a0), (2, .int (nI h)), (3, .int (nI (fr + i)))] [] (ws.set k2 (a2, .inl (gI G, len, .inl (swF s fr cnt i)))) 0 0 := by
  intro n
  induction n with
  | zero =>
    intro i h e1 e2 e3
    refine j_iload_n (n := 14) dX8_turnFrom_13 rfl rfl ?_
    refine j_iload_n (n := 15) dX8_turnFrom_14 rfl rfl ?_
    refine j_icmp_ge (n := 18) 55 dX8_turnFrom_15 (by decide) rfl (fun c => ?_) (fun c => ?_)
    · exact j_vret dX8_turnFrom_55 rfl (by omega) (by omega) (by rw [swF_end s e3 (by omega) hfr])
    · exact absurd (nI_le (show h ≤ fr + i by omega) (by omega)) c
  | succ n ih =>
    intro i h e1 e2 e3
    have h0' : (ws.set k2 (a2, .inl (gI G, len, .inl (swF s fr cnt i))))[k0]? = some (a0, .inr (8, [.ref a1, .int (nI len), .ref a2, .int (nI cnt), .int st, .ref a3, .ref a4, .int pst])) := gs_ne (by omega) h0
    have h2' : (ws.set k2 (a2, .inl (gI G, len, .inl (swF s fr cnt i))))[k2]? = some (a2, .inl (gI G, len, .inl (swF s fr cnt i))) := gs_eq h2
    refine j_iload_n (n := 14) dX8_turnFrom_13 rfl rfl ?_
    refine j_iload_n (n := 15) dX8_turnFrom_14 rfl rfl ?_
    refine j_icmp_ge (n := 18) 55 dX8_turnFrom_15 (by decide) rfl (fun c => ?_) (fun c => ?_)
    · have hx : h ≤ fr + i := Nat.le_of_not_lt (fun q => (nI_ge q (by omega)) c)
      exact j_vret dX8_turnFrom_55 rfl (by omega) (by omega) (by rw [swF_end s e3 (by omega) hfr])
    · have hx : fr + i < h := Nat.lt_of_not_le (fun q => c (nI_le q (by omega)))
      obtain ⟨h', rfl⟩ : ∃ h', h = h' + 1 := ⟨h - 1, by omega⟩
      refine j_aload_n (n := 19) dX8_turnFrom_18 rfl rfl ?_
      refine j_get (n := 22) _ dX8_turnFrom_19 f_X8_34 rfl h0' rfl ?_
      refine j_iload_n (n := 23) dX8_turnFrom_22 rfl rfl ?_
      refine j_iald (n := 24) _ (fr + i) dX8_turnFrom_23 rfl h2' rfl (by omega) (by omega) ?_
      refine j_istore (n := 26) dX8_turnFrom_24 rfl (by decide) ?_
      refine j_aload_n (n := 27) dX8_turnFrom_26 rfl rfl ?_
      refine j_get (n := 30) _ dX8_turnFrom_27 f_X8_34 rfl h0' rfl ?_
      refine j_iload_n (n := 31) dX8_turnFrom_30 rfl rfl ?_
      refine j_aload_n (n := 32) dX8_turnFrom_31 rfl rfl ?_
      refine j_get (n := 35) _ dX8_turnFrom_32 f_X8_34 rfl h0' rfl ?_
      refine j_iload_n (n := 36) dX8_turnFrom_35 rfl rfl ?_
      refine j_iald (n := 37) _ (h' + 1) dX8_turnFrom_36 rfl h2' rfl (by omega) (by omega) ?_
      refine j_iast (n := 38) _ (fr + i) dX8_turnFrom_37 rfl h2' rfl (by omega) (by omega) ?_
      refine j_aload_n (n := 39) dX8_turnFrom_38 rfl rfl ?_
      refine j_get (n := 42) _ dX8_turnFrom_39 f_X8_34 rfl (gs_ne (by omega) h0') rfl ?_
      refine j_iload_n (n := 43) dX8_turnFrom_42 rfl rfl ?_
      refine j_iload (n := 45) dX8_turnFrom_43 rfl rfl ?_
      refine j_iast (n := 46) _ (h' + 1) dX8_turnFrom_45 rfl (gs_eq h2') rfl (by omega) (by omega) ?_
      refine j_iinc (n := 49) (nI h') dX8_turnFrom_46 rfl rfl (nI_dec h') (by decide) ?_
      refine j_iinc (n := 52) (nI ((fr + i) + 1)) dX8_turnFrom_49 rfl rfl (nI_inc (fr + i)) (by decide) ?_
      refine j_goto 13 dX8_turnFrom_52 (by decide) ?_
      refine j_keep [0, 2, 3] rfl ?_
      refine j_ws (by rw [List.set_set, List.set_set, swF_s s e1 hx]) ?_
      exact ih (i + 1) h' (by omega) (by omega) (by omega)
theorem c_turnFrom {a0 a1 a2 a3 a4 len cnt fr : Nat} {s : Nat → Int32} {st pst : Int32} (k0 : Nat) (h0 : ws[k0]? = some (a0, .inr (8, [.ref a1, .int (nI len), .ref a2, .int (nI cnt), .int st, .ref a3, .ref a4, .int pst]))) (k2 : Nat) (h2 : ws[k2]? = some (a2, .inl (gI G, len, .inl s))) (hne : k0 ≠ k2) (hfr : fr ≤ cnt) (hc : cnt ≤ len) (hl : len ≤ 40) : JV G Y_X8_turnFrom 1 0 0 [.ref a0, .int (nI fr)] ws (ws.set k2 (a2, .inl (gI G, len, .inl (revF s fr cnt)))) := by
  refine JM.of [(0, .ref a0), (1, .int (nI fr))] rfl rfl (by simp) (Nat.le_of_ble_eq_true rfl) (by decide +kernel) ?_
  have hmx : (if (0 : Int32) < nI fr then nI fr else 0) = nI fr := by
    by_cases h : fr = 0
    · subst h; rfl
    · rw [if_pos]; exact nI_lt (a := 0) (by omega) (by omega)
  by_cases hz : cnt = 0
  · subst hz
    obtain rfl : fr = 0 := by omega
    refine j_aload_n (n := 1) dX8_turnFrom_0 rfl rfl ?_
    refine j_get (n := 4) _ dX8_turnFrom_1 f_X8_43 rfl h0 rfl ?_
    refine j_iconst (n := 5) (1) dX8_turnFrom_4 rfl (by decide) ?_
    refine j_isub (n := 6) dX8_turnFrom_5 rfl ?_
    refine j_istore_n (n := 7) dX8_turnFrom_6 rfl (by decide) ?_
    refine j_iconst (n := 8) (0) dX8_turnFrom_7 rfl (by decide) ?_
    refine j_iload_n (n := 9) dX8_turnFrom_8 rfl rfl ?_
    refine j_max (n := 12) dX8_turnFrom_9 m_X8_15 rfl (by omega) (by omega) (by omega) (Nat.le_of_ble_eq_true rfl) ?_
    refine j_istore_n (n := 13) dX8_turnFrom_12 rfl (by decide) ?_
    refine j_iload_n (n := 14) dX8_turnFrom_13 rfl rfl ?_
    refine j_iload_n (n := 15) dX8_turnFrom_14 rfl rfl ?_
    refine j_icmp_ge (n := 18) 55 dX8_turnFrom_15 (by decide) rfl (fun c => ?_) (fun c => ?_)
    · exact j_vret dX8_turnFrom_55 rfl (by omega) (by omega) (by rw [show revF s 0 0 = s from by funext k; unfold revF; rw [if_neg (by omega)], set_self h2])
    · exact absurd (by decide) c
  · obtain ⟨q, rfl⟩ : ∃ q, cnt = q + 1 := ⟨cnt - 1, by omega⟩
    refine j_aload_n (n := 1) dX8_turnFrom_0 rfl rfl ?_
    refine j_get (n := 4) _ dX8_turnFrom_1 f_X8_43 rfl h0 rfl ?_
    refine j_iconst (n := 5) (1) dX8_turnFrom_4 rfl (by decide) ?_
    refine j_isub (n := 6) dX8_turnFrom_5 rfl ?_
    refine j_top (nI q) (nI_sub1 q) ?_
    refine j_istore_n (n := 7) dX8_turnFrom_6 rfl (by decide) ?_
    refine j_iconst (n := 8) (0) dX8_turnFrom_7 rfl (by decide) ?_
    refine j_iload_n (n := 9) dX8_turnFrom_8 rfl rfl ?_
    refine j_max (n := 12) dX8_turnFrom_9 m_X8_15 rfl (by omega) (by omega) (by omega) (Nat.le_of_ble_eq_true rfl) ?_
    refine j_top (nI fr) hmx ?_
    refine j_istore_n (n := 13) dX8_turnFrom_12 rfl (by decide) ?_
    refine j_keep [0, 2, 3] rfl ?_
    refine j_ws (ws' := ws.set k2 (a2, .inl (gI G, len, .inl (swF s fr (q + 1) 0)))) (by rw [swF_0, set_self h2]) ?_
    exact turn_loop h0 h2 hne hfr hc hl (q + 1) 0 q (by omega) (by omega) (by omega)
end TE
end
section
/-! Text: look, has, isPadded, isSeenAs, scriptBits, the constructor -/
abbrev SQ : Type := (Nat → Int32) × Nat × Bool × Nat
def seeStep (hw : Nat → Int32) (c : Int32) (q : SQ) : SQ :=
  if howF hw c = 0 then (upd q.1 q.2.1 c, q.2.1 + 1, q.2.2.1, q.2.2.2)
  else if howF hw c = 2 then (if q.2.2.1 = true then revF q.1 q.2.2.2 q.2.1 else q.1, q.2.1, !q.2.2.1, q.2.1)
  else q
def seeS (hw t s : Nat → Int32) : Nat → SQ
  | 0 => (s, 0, false, 0)
  | k + 1 => seeStep hw (t k) (seeS hw t s k)
def seeE (q : SQ) : Nat → Int32 := if q.2.2.1 = true then revF q.1 q.2.2.2 q.2.1 else q.1
theorem seeS_le (hw t s : Nat → Int32) (k : Nat) : (seeS hw t s k).2.1 ≤ k ∧ (seeS hw t s k).2.2.2 ≤ (seeS hw t s k).2.1 := by
  induction k with
  | zero => exact ⟨Nat.le_refl _, Nat.le_refl _⟩
  | succ k ih =>
    unfold seeS seeStep
    split
    · exact ⟨by dsimp only; omega, by dsimp only; omega⟩
    · split
      · exact ⟨by dsimp only; omega, Nat.le_refl _⟩
      · exact ⟨by omega, ih.2⟩
theorem set_norm {α : Type} {ws : List α} {k k2 : Nat} {a b a' b' : α} (h : k ≠ k2) : (((ws.set k a).set k2 b).set k2 b').set k a' = (ws.set k a').set k2 b' := by
  rw [List.set_set, List.set_comm _ _ h, List.set_set, List.set_comm _ _ (Ne.symm h)]
theorem set_nrm2 {α : Type} {ws : List α} {k k2 : Nat} {a b b' : α} : ((ws.set k a).set k2 b).set k2 b' = (ws.set k a).set k2 b' := by
  rw [List.set_set]
section LK
variable {G : GT} {ws : va_W} {pre : va_W}
/-- a Text's own cell -/
abbrev txO (a1 a2 a3 a4 len cnt : Nat) (st pst : Int32) : va_E := .inr (8, [.ref a1, .int (nI len), .ref a2, .int (nI cnt), .int st, .ref a3, .ref a4, .int pst])
abbrev stO (b1 b2 : Nat) (stamp : Int32) : va_E := .inr (7, [.ref b1, .ref b2, .int stamp])
abbrev arI (G : GT) (n : Nat) (f : Nat → Int32) : va_E := .inl (gI G, n, .inl f)
theorem look_loop {a0 a1 a2 a3 a4 b0 b1 b2 len : Nat} {t s hw : Nat → Int32} {stamp : Int32} {e0 : va_E} {k0 k1 k2 m0 m2 : Nat} (h0 : ws[k0]? = some (a0, e0)) (h1 : ws[k1]? = some (a1, arI G len t)) (h2 : ws[k2]? = some (a2, arI G len s)) (g0 : ws[m0]? = some (b0, stO b1 b2 stamp)) (g2 : ws[m2]? = some (b2, arI G 127 hw)) (n01 : k0 ≠ k1) (n02 : k0 ≠ k2) (n12 : k1 ≠ k2) (n03 : k0 ≠ m0) (n04 : k0 ≠ m2) (n23 : k2 ≠ m0) (n24 : k2 ≠ m2) (hl : len ≤ 40) : ∀ (n i : Nat), i + n = len → JJ G Y_X8_look 2 0 0 (Qv (fun w => w = (ws.set k0 (a0, txO a1 a2 a3 a4 len (seeS hw t s len).2.1 stamp (-1))).set k2 (a2, arI G len (seeE (seeS hw t s len))))) 37 [(0, .ref a0), (1, .ref b0), (2, .int (b01 (seeS hw t s i).2.2.1)), (3, .int (nI (seeS hw t s i).2.2.2)), (4, .int (nI i))] [] ((ws.set k0 (a0, txO a1 a2 a3 a4 len (seeS hw t s i).2.1 stamp (-1))).set k2 (a2, arI G len (seeS hw t s i).1)) 0 0 := by
  intro n
  induction n with
  | zero =>
    intro i hi
    obtain rfl : i = len := by omega
    obtain ⟨q1, q2⟩ := seeS_le hw t s i
    have hu : seeE (seeS hw t s i) = if (seeS hw t s i).2.2.1 = true then revF (seeS hw t s i).1 (seeS hw t s i).2.2.2 (seeS hw t s i).2.1 else (seeS hw t s i).1 := rfl
    generalize seeS hw t s i = Q at q1 q2 hu ⊢
    obtain ⟨f, cn, tu, fr⟩ := Q
    dsimp only at q1 q2 hu ⊢
    have h0' : ((ws.set k0 (a0, txO a1 a2 a3 a4 i cn stamp (-1))).set k2 (a2, arI G i f))[k0]? = some (a0, txO a1 a2 a3 a4 i cn stamp (-1)) := gs_ne (by omega) (gs_eq h0)
    have h2' : ((ws.set k0 (a0, txO a1 a2 a3 a4 i cn stamp (-1))).set k2 (a2, arI G i f))[k2]? = some (a2, arI G i f) := gs_eq (gs_ne (by omega) h2)
    refine j_iload (n := 39) dX8_look_37 rfl rfl ?_
    refine j_aload_n (n := 40) dX8_look_39 rfl rfl ?_
    refine j_get (n := 43) _ dX8_look_40 f_X8_18 rfl h0' rfl ?_
    refine j_icmp_ge (n := 46) 129 dX8_look_43 (by decide) rfl (fun c => ?_) (fun c => ?_)
    · refine j_iload_n (n := 130) dX8_look_129 rfl rfl ?_
      refine j_if_eq (n := 133) 138 dX8_look_130 (by decide) rfl (fun c2 => ?_) (fun c2 => ?_)
      · have e := b01_0 c2
        subst e
        exact j_vret dX8_look_138 rfl (by omega) (by omega) (by rw [hu]; rfl)
      · have e := b01_n0 c2
        subst e
        refine j_aload_n (n := 134) dX8_look_133 rfl rfl ?_
        refine j_iload_n (n := 135) dX8_look_134 rfl rfl ?_
        refine j_callVv (n := 138) (Y1 := Y_X8_turnFrom) _ dX8_look_135 m_X8_61 cy_X8_turnFrom ci_X8_turnFrom (c_turnFrom _ h0' _ h2' (by omega) q2 (by omega) (by omega)) rfl rfl rfl h0' rfl (by omega) (by omega) (by omega) (Nat.le_of_ble_eq_true rfl) (fun w h => ?_)
        subst h
        exact j_vret dX8_look_138 rfl (by omega) (by omega) (by rw [hu, set_nrm2]; rfl)
    · exact absurd (nI_le (Nat.le_refl i) (by omega)) c
  | succ n ih =>
    intro i hi
    obtain ⟨q1, q2⟩ := seeS_le hw t s i
    have ih := ih (i + 1) (by omega)
    have hstep : seeS hw t s (i + 1) = seeStep hw (t i) (seeS hw t s i) := rfl
    rw [hstep] at ih
    generalize seeS hw t s i = Q at q1 q2 ih ⊢
    obtain ⟨f, cn, tu, fr⟩ := Q
    dsimp only at q1 q2 ⊢
    have h0' : ((ws.set k0 (a0, txO a1 a2 a3 a4 len cn stamp (-1))).set k2 (a2, arI G len f))[k0]? = some (a0, txO a1 a2 a3 a4 len cn stamp (-1)) := gs_ne (by omega) (gs_eq h0)
    have h1' : ((ws.set k0 (a0, txO a1 a2 a3 a4 len cn stamp (-1))).set k2 (a2, arI G len f))[k1]? = some (a1, arI G len t) := gs_ne (by omega) (gs_ne (by omega) h1)
    have h2' : ((ws.set k0 (a0, txO a1 a2 a3 a4 len cn stamp (-1))).set k2 (a2, arI G len f))[k2]? = some (a2, arI G len f) := gs_eq (gs_ne (by omega) h2)
    have g0' : ((ws.set k0 (a0, txO a1 a2 a3 a4 len cn stamp (-1))).set k2 (a2, arI G len f))[m0]? = some (b0, stO b1 b2 stamp) := gs_ne (by omega) (gs_ne (by omega) g0)
    have g2' : ((ws.set k0 (a0, txO a1 a2 a3 a4 len cn stamp (-1))).set k2 (a2, arI G len f))[m2]? = some (b2, arI G 127 hw) := gs_ne (by omega) (gs_ne (by omega) g2)
    refine j_iload (n := 39) dX8_look_37 rfl rfl ?_
    refine j_aload_n (n := 40) dX8_look_39 rfl rfl ?_
    refine j_get (n := 43) _ dX8_look_40 f_X8_18 rfl h0' rfl ?_
    refine j_icmp_ge (n := 46) 129 dX8_look_43 (by decide) rfl (fun c => ?_) (fun c => ?_)
    · exact absurd c (nI_ge (show i < len by omega) (by omega))
    · refine j_aload_n (n := 47) dX8_look_46 rfl rfl ?_
      refine j_aload_n (n := 48) dX8_look_47 rfl rfl ?_
      refine j_get (n := 51) _ dX8_look_48 f_X8_30 rfl h0' rfl ?_
      refine j_iload (n := 53) dX8_look_51 rfl rfl ?_
      refine j_iald (n := 54) _ i dX8_look_53 rfl h1' rfl (by omega) (by omega) ?_
      refine j_callVe (n := 57) (Y1 := Y_X7_howOf) _ dX8_look_54 m_X8_57 cy_X7_howOf ci_X7_howOf (c_howOf _ g0' _ g2') rfl rfl rfl g0' rfl (by omega) (by omega) (by omega) (Nat.le_of_ble_eq_true rfl) ?_
      refine j_istore (n := 59) dX8_look_57 rfl (by decide) ?_
      refine j_iload (n := 61) dX8_look_59 rfl rfl ?_
      refine j_if_ne (n := 64) 93 dX8_look_61 (by decide) rfl (fun c2 => ?_) (fun c2 => ?_)
      · refine j_iload (n := 95) dX8_look_93 rfl rfl ?_
        refine j_iconst (n := 96) (2) dX8_look_95 rfl (by decide) ?_
        refine j_icmp_ne (n := 99) 123 dX8_look_96 (by decide) rfl (fun c3 => ?_) (fun c3 => ?_)
        · have e : seeStep hw (t i) (f, cn, tu, fr) = (f, cn, tu, fr) := by
            unfold seeStep; rw [if_neg c2, if_neg c3]
          rw [e] at ih
          refine j_iinc (n := 126) (nI (i + 1)) dX8_look_123 rfl rfl (nI_inc i) (by decide) ?_
          refine j_goto 37 dX8_look_126 (by decide) ?_
          refine j_keep [0, 1, 2, 3, 4] rfl ?_
          exact ih
        · have e : seeStep hw (t i) (f, cn, tu, fr) = (if tu = true then revF f fr cn else f, cn, !tu, cn) := by
            unfold seeStep; rw [if_neg c2, if_pos c3]
          rw [e] at ih
          refine j_iload_n (n := 100) dX8_look_99 rfl rfl ?_
          refine j_if_eq (n := 103) 108 dX8_look_100 (by decide) rfl (fun c4 => ?_) (fun c4 => ?_)
          · have et := b01_0 c4
            subst et
            refine j_iload_n (n := 109) dX8_look_108 rfl rfl ?_
            refine j_if_ne (n := 112) 116 dX8_look_109 (by decide) rfl (fun c5 => ?_) (fun c5 => ?_)
            · exact absurd c4 c5
            · refine j_iconst (n := 113) (1) dX8_look_112 rfl (by decide) ?_
              refine j_goto 117 dX8_look_113 (by decide) ?_
              refine j_istore_n (n := 118) dX8_look_117 rfl (by decide) ?_
              refine j_aload_n (n := 119) dX8_look_118 rfl rfl ?_
              refine j_get (n := 122) _ dX8_look_119 f_X8_43 rfl h0' rfl ?_
              refine j_istore_n (n := 123) dX8_look_122 rfl (by decide) ?_
              refine j_iinc (n := 126) (nI (i + 1)) dX8_look_123 rfl rfl (nI_inc i) (by decide) ?_
              refine j_goto 37 dX8_look_126 (by decide) ?_
              refine j_keep [0, 1, 2, 3, 4] rfl ?_
              exact ih
          · have et := b01_n0 c4
            subst et
            refine j_aload_n (n := 104) dX8_look_103 rfl rfl ?_
            refine j_iload_n (n := 105) dX8_look_104 rfl rfl ?_
            refine j_callVv (n := 108) (Y1 := Y_X8_turnFrom) _ dX8_look_105 m_X8_61 cy_X8_turnFrom ci_X8_turnFrom (c_turnFrom _ h0' _ h2' (by omega) q2 (by omega) (by omega)) rfl rfl rfl h0' rfl (by omega) (by omega) (by omega) (Nat.le_of_ble_eq_true rfl) (fun w h => ?_)
            subst h
            refine j_iload_n (n := 109) dX8_look_108 rfl rfl ?_
            refine j_if_ne (n := 112) 116 dX8_look_109 (by decide) rfl (fun c5 => ?_) (fun c5 => ?_)
            · refine j_iconst (n := 117) (0) dX8_look_116 rfl (by decide) ?_
              refine j_istore_n (n := 118) dX8_look_117 rfl (by decide) ?_
              refine j_aload_n (n := 119) dX8_look_118 rfl rfl ?_
              refine j_get (n := 122) _ dX8_look_119 f_X8_43 rfl (gs_ne (by omega) h0') rfl ?_
              refine j_istore_n (n := 123) dX8_look_122 rfl (by decide) ?_
              refine j_iinc (n := 126) (nI (i + 1)) dX8_look_123 rfl rfl (nI_inc i) (by decide) ?_
              refine j_goto 37 dX8_look_126 (by decide) ?_
              refine j_keep [0, 1, 2, 3, 4] rfl ?_
              refine j_ws set_nrm2 ?_
              exact ih
            · exact absurd c5 c4
      · have e : seeStep hw (t i) (f, cn, tu, fr) = (upd f cn (t i), cn + 1, tu, fr) := by
          unfold seeStep; rw [if_pos c2]
        rw [e] at ih
        refine j_aload_n (n := 65) dX8_look_64 rfl rfl ?_
        refine j_get (n := 68) _ dX8_look_65 f_X8_34 rfl h0' rfl ?_
        refine j_aload_n (n := 69) dX8_look_68 rfl rfl ?_
        refine j_get (n := 72) _ dX8_look_69 f_X8_43 rfl h0' rfl ?_
        refine j_aload_n (n := 73) dX8_look_72 rfl rfl ?_
        refine j_get (n := 76) _ dX8_look_73 f_X8_30 rfl h0' rfl ?_
        refine j_iload (n := 78) dX8_look_76 rfl rfl ?_
        refine j_iald (n := 79) _ i dX8_look_78 rfl h1' rfl (by omega) (by omega) ?_
        refine j_iast (n := 80) _ cn dX8_look_79 rfl h2' rfl (by omega) (by omega) ?_
        refine j_aload_n (n := 81) dX8_look_80 rfl rfl ?_
        refine j_dup (n := 82) dX8_look_81 rfl rfl ?_
        refine j_get (n := 85) _ dX8_look_82 f_X8_43 rfl (gs_ne (by omega) h0') rfl ?_
        refine j_iconst (n := 86) (1) dX8_look_85 rfl (by decide) ?_
        refine j_iadd (n := 87) dX8_look_86 rfl ?_
        refine j_top (nI (cn + 1)) (nI_1 cn) ?_
        refine j_put (n := 90) _ dX8_look_87 f_X8_43 rfl rfl (gs_ne (by omega) h0') (Nat.le_of_ble_eq_true rfl) rfl rfl ?_
        refine j_goto 123 dX8_look_90 (by decide) ?_
        refine j_iinc (n := 126) (nI (i + 1)) dX8_look_123 rfl rfl (nI_inc i) (by decide) ?_
        refine j_goto 37 dX8_look_126 (by decide) ?_
        refine j_keep [0, 1, 2, 3, 4] rfl ?_
        refine j_ws (set_norm n02) ?_
        exact ih
theorem c_look {a0 a1 a2 a3 a4 b0 b1 b2 len cnt : Nat} {t s hw : Nat → Int32} {stamp st pst : Int32} (k0 : Nat) (h0 : ws[k0]? = some (a0, txO a1 a2 a3 a4 len cnt st pst)) (k1 : Nat) (h1 : ws[k1]? = some (a1, arI G len t)) (k2 : Nat) (h2 : ws[k2]? = some (a2, arI G len s)) (m0 : Nat) (g0 : ws[m0]? = some (b0, stO b1 b2 stamp)) (m2 : Nat) (g2 : ws[m2]? = some (b2, arI G 127 hw)) (n01 : k0 ≠ k1) (n02 : k0 ≠ k2) (n12 : k1 ≠ k2) (n03 : k0 ≠ m0) (n04 : k0 ≠ m2) (n23 : k2 ≠ m0) (n24 : k2 ≠ m2) (hl : len ≤ 40) : JV G Y_X8_look 2 0 0 [.ref a0, .ref b0] ws (if st = stamp then ws else (ws.set k0 (a0, txO a1 a2 a3 a4 len (seeS hw t s len).2.1 stamp (-1))).set k2 (a2, arI G len (seeE (seeS hw t s len)))) := by
  refine JM.of [(0, .ref a0), (1, .ref b0)] rfl rfl (by simp) (Nat.le_of_ble_eq_true rfl) (by decide +kernel) ?_
  refine j_aload_n (n := 1) dX8_look_0 rfl rfl ?_
  refine j_get (n := 4) _ dX8_look_1 f_X8_46 rfl h0 rfl ?_
  refine j_aload_n (n := 5) dX8_look_4 rfl rfl ?_
  refine j_getN (n := 8) _ dX8_look_5 f_X8_52 rfl g0 rfl ?_
  refine j_icmp_ne (n := 11) 12 dX8_look_8 (by decide) rfl (fun c => ?_) (fun c => ?_)
  · rw [if_neg c]
    refine j_aload_n (n := 13) dX8_look_12 rfl rfl ?_
    refine j_aload_n (n := 14) dX8_look_13 rfl rfl ?_
    refine j_getN (n := 17) _ dX8_look_14 f_X8_52 rfl g0 rfl ?_
    refine j_put (n := 20) _ dX8_look_17 f_X8_46 rfl rfl h0 (Nat.le_of_ble_eq_true rfl) rfl rfl ?_
    refine j_aload_n (n := 21) dX8_look_20 rfl rfl ?_
    refine j_iconst (n := 22) (-1) dX8_look_21 rfl (by decide) ?_
    refine j_put (n := 25) _ dX8_look_22 f_X8_49 rfl rfl (gs_eq h0) (Nat.le_of_ble_eq_true rfl) rfl rfl ?_
    refine j_aload_n (n := 26) dX8_look_25 rfl rfl ?_
    refine j_iconst (n := 27) (0) dX8_look_26 rfl (by decide) ?_
    refine j_put (n := 30) _ dX8_look_27 f_X8_43 rfl rfl (gs_eq (gs_eq h0)) (Nat.le_of_ble_eq_true rfl) rfl rfl ?_
    refine j_iconst (n := 31) (0) dX8_look_30 rfl (by decide) ?_
    refine j_istore_n (n := 32) dX8_look_31 rfl (by decide) ?_
    refine j_iconst (n := 33) (0) dX8_look_32 rfl (by decide) ?_
    refine j_istore_n (n := 34) dX8_look_33 rfl (by decide) ?_
    refine j_iconst (n := 35) (0) dX8_look_34 rfl (by decide) ?_
    refine j_istore (n := 37) dX8_look_35 rfl (by decide) ?_
    have hs : ws.set k0 (a0, txO a1 a2 a3 a4 len 0 stamp (-1)) = (ws.set k0 (a0, txO a1 a2 a3 a4 len (seeS hw t s 0).2.1 stamp (-1))).set k2 (a2, arI G len (seeS hw t s 0).1) := (set_self (gs_ne n02 h2)).symm
    refine j_ws (Eq.trans (by rw [List.set_set, List.set_set]; rfl) hs) ?_
    exact look_loop h0 h1 h2 g0 g2 n01 n02 n12 n03 n04 n23 n24 hl len 0 (by omega)
  · rw [if_pos c]
    exact j_vret dX8_look_11 rfl (by omega) (by omega) (rfl)
def hasB (hw t : Nat → Int32) (len : Nat) (h : Int32) : Bool := (List.range len).any (fun i => decide (howF hw (t i) = h))
theorem has_loop {a0 a1 a2 a3 a4 b0 b1 b2 len cnt : Nat} {t hw : Nat → Int32} {stamp st pst x : Int32} {k0 k1 m0 m2 : Nat} (h0 : ws[k0]? = some (a0, txO a1 a2 a3 a4 len cnt st pst)) (h1 : ws[k1]? = some (a1, arI G len t)) (g0 : ws[m0]? = some (b0, stO b1 b2 stamp)) (g2 : ws[m2]? = some (b2, arI G 127 hw)) (hl : len ≤ 40) : ∀ (n i : Nat), i + n = len → (∀ j, j < i → ¬ howF hw (t j) = x) → JJ G Y_X8_has 2 0 0 (Qi (fun r w => r = b01 (hasB hw t len x) ∧ w = ws)) 2 [(0, .ref a0), (1, .int x), (2, .ref b0), (3, .int (nI i))] [] ws 0 0 := by
  intro n
  induction n with
  | zero =>
    intro i hi hj
    refine j_iload_n (n := 3) dX8_has_2 rfl rfl ?_
    refine j_aload_n (n := 4) dX8_has_3 rfl rfl ?_
    refine j_get (n := 7) _ dX8_has_4 f_X8_18 rfl h0 rfl ?_
    refine j_icmp_ge (n := 10) 32 dX8_has_7 (by decide) rfl (fun c => ?_) (fun c => ?_)
    · refine j_iconst (n := 33) (0) dX8_has_32 rfl (by decide) ?_
      obtain rfl : i = len := by omega
      exact j_iret dX8_has_33 rfl rfl (by omega) (by omega) (⟨by rw [hasB, any_f (fun j h => decide_eq_false (hj j h))]; rfl, rfl⟩)
    · exact absurd (nI_le (show len ≤ i by omega) (by omega)) c
  | succ n ih =>
    intro i hi hj
    refine j_iload_n (n := 3) dX8_has_2 rfl rfl ?_
    refine j_aload_n (n := 4) dX8_has_3 rfl rfl ?_
    refine j_get (n := 7) _ dX8_has_4 f_X8_18 rfl h0 rfl ?_
    refine j_icmp_ge (n := 10) 32 dX8_has_7 (by decide) rfl (fun c => ?_) (fun c => ?_)
    · exact absurd c (nI_ge (show i < len by omega) (by omega))
    · refine j_aload_n (n := 11) dX8_has_10 rfl rfl ?_
      refine j_aload_n (n := 12) dX8_has_11 rfl rfl ?_
      refine j_get (n := 15) _ dX8_has_12 f_X8_30 rfl h0 rfl ?_
      refine j_iload_n (n := 16) dX8_has_15 rfl rfl ?_
      refine j_iald (n := 17) _ i dX8_has_16 rfl h1 rfl (by omega) (by omega) ?_
      refine j_callVe (n := 20) (Y1 := Y_X7_howOf) _ dX8_has_17 m_X8_57 cy_X7_howOf ci_X7_howOf (c_howOf _ g0 _ g2) rfl rfl rfl g0 rfl (by omega) (by omega) (by omega) (Nat.le_of_ble_eq_true rfl) ?_
      refine j_iload_n (n := 21) dX8_has_20 rfl rfl ?_
      refine j_icmp_ne (n := 24) 26 dX8_has_21 (by decide) rfl (fun c2 => ?_) (fun c2 => ?_)
      · refine j_iinc (n := 29) (nI (i + 1)) dX8_has_26 rfl rfl (nI_inc i) (by decide) ?_
        refine j_goto 2 dX8_has_29 (by decide) ?_
        exact ih (i + 1) (by omega) (lt_s hj c2)
      · refine j_iconst (n := 25) (1) dX8_has_24 rfl (by decide) ?_
        exact j_iret dX8_has_25 rfl rfl (by omega) (by omega) (⟨by rw [hasB, any_t (show i < len by omega) (decide_eq_true c2)]; rfl, rfl⟩)
theorem c_has {a0 a1 a2 a3 a4 b0 b1 b2 len cnt : Nat} {t hw : Nat → Int32} {stamp st pst x : Int32} (k0 : Nat) (h0 : ws[k0]? = some (a0, txO a1 a2 a3 a4 len cnt st pst)) (k1 : Nat) (h1 : ws[k1]? = some (a1, arI G len t)) (m0 : Nat) (g0 : ws[m0]? = some (b0, stO b1 b2 stamp)) (m2 : Nat) (g2 : ws[m2]? = some (b2, arI G 127 hw)) (hl : len ≤ 40) : JE G Y_X8_has 2 0 0 [.ref a0, .int x, .ref b0] ws (b01 (hasB hw t len x)) ws := by
  refine JM.of [(0, .ref a0), (1, .int x), (2, .ref b0)] rfl rfl (by simp) (Nat.le_of_ble_eq_true rfl) (by decide +kernel) ?_
  refine j_iconst (n := 1) (0) dX8_has_0 rfl (by decide) ?_
  refine j_istore_n (n := 2) dX8_has_1 rfl (by decide) ?_
  exact has_loop h0 h1 g0 g2 hl len 0 (by omega) lt_0
def padB (hw t : Nat → Int32) (len : Nat) : Bool := decide (0 < len) && (decide (howF hw (t 0) = 1) || decide (howF hw (t (len - 1)) = 1))
theorem c_isPadded {a0 a1 a2 a3 a4 b0 b1 b2 len cnt : Nat} {t hw : Nat → Int32} {stamp st pst : Int32} (k0 : Nat) (h0 : ws[k0]? = some (a0, txO a1 a2 a3 a4 len cnt st pst)) (k1 : Nat) (h1 : ws[k1]? = some (a1, arI G len t)) (m0 : Nat) (g0 : ws[m0]? = some (b0, stO b1 b2 stamp)) (m2 : Nat) (g2 : ws[m2]? = some (b2, arI G 127 hw)) (hl : len ≤ 40) : JE G Y_X8_isPadded 2 0 0 [.ref a0, .ref b0] ws (b01 (padB hw t len)) ws := by
  refine JM.of [(0, .ref a0), (1, .ref b0)] rfl rfl (by simp) (Nat.le_of_ble_eq_true rfl) (by decide +kernel) ?_
  refine j_aload_n (n := 1) dX8_isPadded_0 rfl rfl ?_
  refine j_get (n := 4) _ dX8_isPadded_1 f_X8_18 rfl h0 rfl ?_
  refine j_if_le (n := 7) 44 dX8_isPadded_4 (by decide) rfl (fun c => ?_) (fun c => ?_)
  · have hz : len = 0 := by
      rcases Nat.eq_zero_or_pos len with h | h
      · exact h
      · exact absurd c (nI_nle h (by omega))
    refine j_iconst (n := 45) (0) dX8_isPadded_44 rfl (by decide) ?_
    exact j_iret dX8_isPadded_45 rfl rfl (by omega) (by omega) (⟨by simp [padB, hz, b01], rfl⟩)
  · have hz : 0 < len := Nat.pos_of_ne_zero (fun h => c (by rw [h]; decide))
    refine j_aload_n (n := 8) dX8_isPadded_7 rfl rfl ?_
    refine j_aload_n (n := 9) dX8_isPadded_8 rfl rfl ?_
    refine j_get (n := 12) _ dX8_isPadded_9 f_X8_30 rfl h0 rfl ?_
    refine j_iconst (n := 13) (0) dX8_isPadded_12 rfl (by decide) ?_
    refine j_iald (n := 14) _ 0 dX8_isPadded_13 rfl h1 rfl (by omega) (by omega) ?_
    refine j_callVe (n := 17) (Y1 := Y_X7_howOf) _ dX8_isPadded_14 m_X8_57 cy_X7_howOf ci_X7_howOf (c_howOf _ g0 _ g2) rfl rfl rfl g0 rfl (by omega) (by omega) (by omega) (Nat.le_of_ble_eq_true rfl) ?_
    refine j_iconst (n := 18) (1) dX8_isPadded_17 rfl (by decide) ?_
    refine j_icmp_eq (n := 21) 40 dX8_isPadded_18 (by decide) rfl (fun c2 => ?_) (fun c2 => ?_)
    · refine j_iconst (n := 41) (1) dX8_isPadded_40 rfl (by decide) ?_
      refine j_goto 45 dX8_isPadded_41 (by decide) ?_
      exact j_iret dX8_isPadded_45 rfl rfl (by omega) (by omega) (⟨by simp [padB, hz, c2, b01], rfl⟩)
    · refine j_aload_n (n := 22) dX8_isPadded_21 rfl rfl ?_
      refine j_aload_n (n := 23) dX8_isPadded_22 rfl rfl ?_
      refine j_get (n := 26) _ dX8_isPadded_23 f_X8_30 rfl h0 rfl ?_
      refine j_aload_n (n := 27) dX8_isPadded_26 rfl rfl ?_
      refine j_get (n := 30) _ dX8_isPadded_27 f_X8_18 rfl h0 rfl ?_
      refine j_iconst (n := 31) (1) dX8_isPadded_30 rfl (by decide) ?_
      refine j_isub (n := 32) dX8_isPadded_31 rfl ?_
      refine j_iald (n := 33) _ (len - 1) dX8_isPadded_32 rfl h1 (by have := nI_sub1 (len - 1); rwa [show len - 1 + 1 = len by omega] at this) (by omega) (by omega) ?_
      refine j_callVe (n := 36) (Y1 := Y_X7_howOf) _ dX8_isPadded_33 m_X8_57 cy_X7_howOf ci_X7_howOf (c_howOf _ g0 _ g2) rfl rfl rfl g0 rfl (by omega) (by omega) (by omega) (Nat.le_of_ble_eq_true rfl) ?_
      refine j_iconst (n := 37) (1) dX8_isPadded_36 rfl (by decide) ?_
      refine j_icmp_ne (n := 40) 44 dX8_isPadded_37 (by decide) rfl (fun c3 => ?_) (fun c3 => ?_)
      · refine j_iconst (n := 45) (0) dX8_isPadded_44 rfl (by decide) ?_
        exact j_iret dX8_isPadded_45 rfl rfl (by omega) (by omega) (⟨by simp [padB, hz, c2, c3, b01], rfl⟩)
      · refine j_iconst (n := 41) (1) dX8_isPadded_40 rfl (by decide) ?_
        refine j_goto 45 dX8_isPadded_41 (by decide) ?_
        exact j_iret dX8_isPadded_45 rfl rfl (by omega) (by omega) (⟨by simp [padB, hz, c2, c3, b01], rfl⟩)
def sameB (n m : Nat) (s u : Nat → Int32) : Bool := decide (n = m) && (List.range n).all (fun i => decide (s i = u i))
theorem all_t {n : Nat} {P : Nat → Bool} (h : ∀ i, i < n → P i = true) : (List.range n).all P = true := by
  rw [List.all_eq_true]
  intro i hi
  exact h i (List.mem_range.mp hi)
theorem all_f {n : Nat} {P : Nat → Bool} {i : Nat} (hi : i < n) (h : P i = false) : (List.range n).all P = false := by
  rw [List.all_eq_false]
  exact ⟨i, List.mem_range.mpr hi, by rw [h]; exact Bool.false_ne_true⟩
theorem same_loop {a0 a1 a2 a3 a4 b0 b1 b2 b3 b4 len len' cnt : Nat} {s u : Nat → Int32} {st pst st' pst' : Int32} {k0 k2 m0 m2 : Nat} (h0 : ws[k0]? = some (a0, txO a1 a2 a3 a4 len cnt st pst)) (h2 : ws[k2]? = some (a2, arI G len s)) (g0 : ws[m0]? = some (b0, txO b1 b2 b3 b4 len' cnt st' pst')) (g2 : ws[m2]? = some (b2, arI G len' u)) (hc : cnt ≤ len) (hc' : cnt ≤ len') (hl : len ≤ 40) (hl' : len' ≤ 40) : ∀ (n i : Nat), i + n = cnt → (∀ j, j < i → s j = u j) → JJ G Y_X8_isSeenAs 1 0 0 (Qi (fun r w => r = b01 (sameB cnt cnt s u) ∧ w = ws)) 15 [(0, .ref a0), (1, .ref b0), (2, .int (nI i))] [] ws 0 0 := by
  intro n
  induction n with
  | zero =>
    intro i hi hj
    refine j_iload_n (n := 16) dX8_isSeenAs_15 rfl rfl ?_
    refine j_aload_n (n := 17) dX8_isSeenAs_16 rfl rfl ?_
    refine j_get (n := 20) _ dX8_isSeenAs_17 f_X8_43 rfl h0 rfl ?_
    refine j_icmp_ge (n := 23) 45 dX8_isSeenAs_20 (by decide) rfl (fun c => ?_) (fun c => ?_)
    · refine j_iconst (n := 46) (1) dX8_isSeenAs_45 rfl (by decide) ?_
      obtain rfl : i = cnt := by omega
      exact j_iret dX8_isSeenAs_46 rfl rfl (by omega) (by omega) (⟨by rw [sameB, all_t (fun j h => decide_eq_true (hj j h))]; simp [b01], rfl⟩)
    · exact absurd (nI_le (show cnt ≤ i by omega) (by omega)) c
  | succ n ih =>
    intro i hi hj
    refine j_iload_n (n := 16) dX8_isSeenAs_15 rfl rfl ?_
    refine j_aload_n (n := 17) dX8_isSeenAs_16 rfl rfl ?_
    refine j_get (n := 20) _ dX8_isSeenAs_17 f_X8_43 rfl h0 rfl ?_
    refine j_icmp_ge (n := 23) 45 dX8_isSeenAs_20 (by decide) rfl (fun c => ?_) (fun c => ?_)
    · exact absurd c (nI_ge (show i < cnt by omega) (by omega))
    · refine j_aload_n (n := 24) dX8_isSeenAs_23 rfl rfl ?_
      refine j_get (n := 27) _ dX8_isSeenAs_24 f_X8_34 rfl h0 rfl ?_
      refine j_iload_n (n := 28) dX8_isSeenAs_27 rfl rfl ?_
      refine j_iald (n := 29) _ i dX8_isSeenAs_28 rfl h2 rfl (by omega) (by omega) ?_
      refine j_aload_n (n := 30) dX8_isSeenAs_29 rfl rfl ?_
      refine j_iload_n (n := 31) dX8_isSeenAs_30 rfl rfl ?_
      refine j_callVe (n := 34) (Y1 := Y_X8_seenAt) _ dX8_isSeenAs_31 m_X8_74 cy_X8_seenAt ci_X8_seenAt (c_seenAt _ g0 _ g2 (by omega) (by omega)) rfl rfl rfl g0 rfl (by omega) (by omega) (by omega) (Nat.le_of_ble_eq_true rfl) ?_
      rw [atF_in (show i < cnt by omega) (by omega)]
      refine j_icmp_eq (n := 37) 39 dX8_isSeenAs_34 (by decide) rfl (fun c2 => ?_) (fun c2 => ?_)
      · refine j_iinc (n := 42) (nI (i + 1)) dX8_isSeenAs_39 rfl rfl (nI_inc i) (by decide) ?_
        refine j_goto 15 dX8_isSeenAs_42 (by decide) ?_
        exact ih (i + 1) (by omega) (lt_s hj c2)
      · refine j_iconst (n := 38) (0) dX8_isSeenAs_37 rfl (by decide) ?_
        exact j_iret dX8_isSeenAs_38 rfl rfl (by omega) (by omega) (⟨by rw [sameB, all_f (show i < cnt by omega) (decide_eq_false c2)]; simp [b01], rfl⟩)
theorem c_isSeenAs {a0 a1 a2 a3 a4 b0 b1 b2 b3 b4 len len' cnt cnt' : Nat} {s u : Nat → Int32} {st pst st' pst' : Int32} (k0 : Nat) (h0 : ws[k0]? = some (a0, txO a1 a2 a3 a4 len cnt st pst)) (k2 : Nat) (h2 : ws[k2]? = some (a2, arI G len s)) (m0 : Nat) (g0 : ws[m0]? = some (b0, txO b1 b2 b3 b4 len' cnt' st' pst')) (m2 : Nat) (g2 : ws[m2]? = some (b2, arI G len' u)) (hc : cnt ≤ len) (hc' : cnt' ≤ len') (hl : len ≤ 40) (hl' : len' ≤ 40) : JE G Y_X8_isSeenAs 1 0 0 [.ref a0, .ref b0] ws (b01 (sameB cnt cnt' s u)) ws := by
  refine JM.of [(0, .ref a0), (1, .ref b0)] rfl rfl (by simp) (Nat.le_of_ble_eq_true rfl) (by decide +kernel) ?_
  refine j_aload_n (n := 1) dX8_isSeenAs_0 rfl rfl ?_
  refine j_get (n := 4) _ dX8_isSeenAs_1 f_X8_43 rfl h0 rfl ?_
  refine j_aload_n (n := 5) dX8_isSeenAs_4 rfl rfl ?_
  refine j_get (n := 8) _ dX8_isSeenAs_5 f_X8_43 rfl g0 rfl ?_
  refine j_icmp_eq (n := 11) 13 dX8_isSeenAs_8 (by decide) rfl (fun c => ?_) (fun c => ?_)
  · have e : cnt = cnt' := (nI_eq (by omega) (by omega)).mp c
    subst e
    refine j_iconst (n := 14) (0) dX8_isSeenAs_13 rfl (by decide) ?_
    refine j_istore_n (n := 15) dX8_isSeenAs_14 rfl (by decide) ?_
    exact same_loop h0 h2 g0 g2 hc hc' hl hl' cnt 0 (by omega) lt_0
  · have e : ¬ cnt = cnt' := fun q => c (by rw [q])
    refine j_iconst (n := 12) (0) dX8_isSeenAs_11 rfl (by decide) ?_
    exact j_iret dX8_isSeenAs_12 rfl rfl (by omega) (by omega) (⟨by simp [sameB, e, b01], rfl⟩)
def bitsF (sc s : Nat → Int32) : Nat → Int32
  | 0 => 0
  | k + 1 => bitsF sc s k ||| ((1 : Int32) <<< (scrF sc (s k) &&& 31))
theorem bits_loop {a0 a1 a2 a3 a4 b0 b1 b2 len cnt : Nat} {s sc : Nat → Int32} {stamp st pst : Int32} {k0 k2 m0 m1 : Nat} (h0 : ws[k0]? = some (a0, txO a1 a2 a3 a4 len cnt st pst)) (h2 : ws[k2]? = some (a2, arI G len s)) (g0 : ws[m0]? = some (b0, stO b1 b2 stamp)) (g1 : ws[m1]? = some (b1, arI G 127 sc)) (hc : cnt ≤ len) (hl : len ≤ 40) : ∀ (n i : Nat), i + n = cnt → JJ G Y_X8_scriptBits 2 0 0 (Qi (fun r w => r = (bitsF sc s cnt &&& 254) ∧ w = ws)) 4 [(0, .ref a0), (1, .ref b0), (2, .int (bitsF sc s i)), (3, .int (nI i))] [] ws 0 0 := by
  intro n
  induction n with
  | zero =>
    intro i hi
    refine j_iload_n (n := 5) dX8_scriptBits_4 rfl rfl ?_
    refine j_aload_n (n := 6) dX8_scriptBits_5 rfl rfl ?_
    refine j_get (n := 9) _ dX8_scriptBits_6 f_X8_43 rfl h0 rfl ?_
    refine j_icmp_ge (n := 12) 33 dX8_scriptBits_9 (by decide) rfl (fun c => ?_) (fun c => ?_)
    · refine j_iload_n (n := 34) dX8_scriptBits_33 rfl rfl ?_
      refine j_sipush (n := 37) (254) dX8_scriptBits_34 rfl (by decide) ?_
      refine j_iand (n := 38) dX8_scriptBits_37 rfl ?_
      obtain rfl : i = cnt := by omega
      exact j_iret dX8_scriptBits_38 rfl rfl (by omega) (by omega) (⟨rfl, rfl⟩)
    · exact absurd (nI_le (show cnt ≤ i by omega) (by omega)) c
  | succ n ih =>
    intro i hi
    refine j_iload_n (n := 5) dX8_scriptBits_4 rfl rfl ?_
    refine j_aload_n (n := 6) dX8_scriptBits_5 rfl rfl ?_
    refine j_get (n := 9) _ dX8_scriptBits_6 f_X8_43 rfl h0 rfl ?_
    refine j_icmp_ge (n := 12) 33 dX8_scriptBits_9 (by decide) rfl (fun c => ?_) (fun c => ?_)
    · exact absurd c (nI_ge (show i < cnt by omega) (by omega))
    · refine j_iload_n (n := 13) dX8_scriptBits_12 rfl rfl ?_
      refine j_iconst (n := 14) (1) dX8_scriptBits_13 rfl (by decide) ?_
      refine j_aload_n (n := 15) dX8_scriptBits_14 rfl rfl ?_
      refine j_aload_n (n := 16) dX8_scriptBits_15 rfl rfl ?_
      refine j_get (n := 19) _ dX8_scriptBits_16 f_X8_34 rfl h0 rfl ?_
      refine j_iload_n (n := 20) dX8_scriptBits_19 rfl rfl ?_
      refine j_iald (n := 21) _ i dX8_scriptBits_20 rfl h2 rfl (by omega) (by omega) ?_
      refine j_callVe (n := 24) (Y1 := Y_X7_scriptOf) _ dX8_scriptBits_21 m_X8_77 cy_X7_scriptOf ci_X7_scriptOf (c_scriptOf _ g0 _ g1) rfl rfl rfl g0 rfl (by omega) (by omega) (by omega) (Nat.le_of_ble_eq_true rfl) ?_
      refine j_ishl (n := 25) dX8_scriptBits_24 rfl ?_
      refine j_ior (n := 26) dX8_scriptBits_25 rfl ?_
      refine j_istore_n (n := 27) dX8_scriptBits_26 rfl (by decide) ?_
      refine j_iinc (n := 30) (nI (i + 1)) dX8_scriptBits_27 rfl rfl (nI_inc i) (by decide) ?_
      refine j_goto 4 dX8_scriptBits_30 (by decide) ?_
      exact ih (i + 1) (by omega)
theorem c_scriptBits {a0 a1 a2 a3 a4 b0 b1 b2 len cnt : Nat} {s sc : Nat → Int32} {stamp st pst : Int32} (k0 : Nat) (h0 : ws[k0]? = some (a0, txO a1 a2 a3 a4 len cnt st pst)) (k2 : Nat) (h2 : ws[k2]? = some (a2, arI G len s)) (m0 : Nat) (g0 : ws[m0]? = some (b0, stO b1 b2 stamp)) (m1 : Nat) (g1 : ws[m1]? = some (b1, arI G 127 sc)) (hc : cnt ≤ len) (hl : len ≤ 40) : JE G Y_X8_scriptBits 2 0 0 [.ref a0, .ref b0] ws (bitsF sc s cnt &&& 254) ws := by
  refine JM.of [(0, .ref a0), (1, .ref b0)] rfl rfl (by simp) (Nat.le_of_ble_eq_true rfl) (by decide +kernel) ?_
  refine j_iconst (n := 1) (0) dX8_scriptBits_0 rfl (by decide) ?_
  refine j_istore_n (n := 2) dX8_scriptBits_1 rfl (by decide) ?_
  refine j_iconst (n := 3) (0) dX8_scriptBits_2 rfl (by decide) ?_
  refine j_istore_n (n := 4) dX8_scriptBits_3 rfl (by decide) ?_
  exact bits_loop h0 h2 g0 g1 hc hl cnt 0 (by omega)
theorem c_Text {a0 as n q : Nat} {f : Nat → Int32} (hq : pre[q]? = some (as, arI G 200 f)) (hn : n ≤ 40) : JM G Y_X8_init 2 4 (4 * n) [.ref a0, .ref as, .int (nI n)] ((a0, .inr (8, [.null, .int 0, .null, .int 0, .int 0, .null, .null, .int 0])) :: pre) (Qv (fun w => ∃ a1 a2 a3 a4 : Nat, w = (a0, txO a1 a2 a3 a4 n 0 (-1) (-1)) :: pre ++ [(a1, arI G n (va_cpy f (fun _ => 0) 0 0 n)), (a2, arI G n (fun _ => 0)), (a3, arI G n (fun _ => 0)), (a4, arI G n (fun _ => 0))])) := by
  have hq1 : ∀ c : Nat × va_E, (c :: pre)[q + 1]? = some (as, arI G 200 f) := fun c => by simp [hq]
  refine JM.of [(0, .ref a0), (1, .ref as), (2, .int (nI n))] rfl rfl (by simp) (Nat.le_of_ble_eq_true rfl) (by decide +kernel) ?_
  refine j_aload_n (n := 1) dX8_init_0 rfl rfl ?_
  refine j_objInit (n := 4) dX8_init_1 m_X8_3 rfl (by omega) (Nat.le_of_ble_eq_true rfl) ?_
  refine j_aload_n (n := 5) dX8_init_4 rfl rfl ?_
  refine j_iconst (n := 6) (0) dX8_init_5 rfl (by decide) ?_
  refine j_iload_n (n := 7) dX8_init_6 rfl rfl ?_
  refine j_aload_n (n := 8) dX8_init_7 rfl rfl ?_
  refine j_alen (n := 9) _ dX8_init_8 rfl (hq1 _) ?_
  refine j_bipush (n := 11) (40) dX8_init_9 rfl (by decide) ?_
  refine j_min (n := 14) dX8_init_11 m_X8_9 rfl (by omega) (by omega) (by omega) (Nat.le_of_ble_eq_true rfl) ?_
  refine j_min (n := 17) dX8_init_14 m_X8_9 rfl (by omega) (by omega) (by omega) (Nat.le_of_ble_eq_true rfl) ?_
  have hmx : (if (0 : Int32) < (if (if (40 : Int32) < nI 200 then (40 : Int32) else nI 200) < nI n then (if (40 : Int32) < nI 200 then (40 : Int32) else nI 200) else nI n) then (if (if (40 : Int32) < nI 200 then (40 : Int32) else nI 200) < nI n then (if (40 : Int32) < nI 200 then (40 : Int32) else nI 200) else nI n) else 0) = nI n := by
    have e1 : (if (40 : Int32) < nI 200 then (40 : Int32) else nI 200) = 40 := by decide
    rw [e1]
    have e2 : (if (40 : Int32) < nI n then (40 : Int32) else nI n) = nI n := if_neg (nI_nlt (a := 40) (b := n) hn (by omega))
    rw [e2]
    by_cases h : n = 0
    · subst h; rfl
    · rw [if_pos]; exact nI_lt (a := 0) (by omega) (by omega)
  refine j_max (n := 20) dX8_init_17 m_X8_15 rfl (by omega) (by omega) (by omega) (Nat.le_of_ble_eq_true rfl) ?_
  refine j_top (nI n) hmx ?_
  refine j_putF (n := 23) 0 dX8_init_20 f_X8_18 rfl rfl rfl (fun q h => by cases h; rfl) rfl (Nat.le_of_ble_eq_true rfl) rfl rfl ?_
  refine j_aload_n (n := 24) dX8_init_23 rfl rfl ?_
  refine j_aload_n (n := 25) dX8_init_24 rfl rfl ?_
  refine j_aload_n (n := 26) dX8_init_25 rfl rfl ?_
  refine j_get (n := 29) 0 dX8_init_26 f_X8_18 rfl rfl rfl ?_
  refine j_callSr (n := 32) (Y1 := Y_J7_copyOf_59c91) dX8_init_29 m_X8_24 cy_J7_copyOf_59c91 cs_J7_copyOf_59c91 (c_copyOf (k := q + 1) (hq1 _) (by omega) (by omega)) rfl rfl rfl (by omega) (by omega) (by omega) (Nat.le_of_ble_eq_true rfl) (fun o w h => ?_)
  obtain ⟨a1, rfl, rfl⟩ := h
  refine j_putF (n := 35) 0 dX8_init_32 f_X8_30 rfl rfl rfl (fun q h => by cases h; rfl) rfl (Nat.le_of_ble_eq_true rfl) rfl rfl ?_
  refine j_aload_n (n := 36) dX8_init_35 rfl rfl ?_
  refine j_aload_n (n := 37) dX8_init_36 rfl rfl ?_
  refine j_get (n := 40) 0 dX8_init_37 f_X8_18 rfl rfl rfl ?_
  refine j_newi (n := 42) n dX8_init_40 rfl rfl (by omega) (by omega) (by omega) (fun a2 => ?_)
  refine j_putF (n := 45) 0 dX8_init_42 f_X8_34 rfl rfl rfl (fun q h => by cases h; rfl) rfl (Nat.le_of_ble_eq_true rfl) rfl rfl ?_
  refine j_aload_n (n := 46) dX8_init_45 rfl rfl ?_
  refine j_aload_n (n := 47) dX8_init_46 rfl rfl ?_
  refine j_get (n := 50) 0 dX8_init_47 f_X8_18 rfl rfl rfl ?_
  refine j_newi (n := 52) n dX8_init_50 rfl rfl (by omega) (by omega) (by omega) (fun a3 => ?_)
  refine j_putF (n := 55) 0 dX8_init_52 f_X8_37 rfl rfl rfl (fun q h => by cases h; rfl) rfl (Nat.le_of_ble_eq_true rfl) rfl rfl ?_
  refine j_aload_n (n := 56) dX8_init_55 rfl rfl ?_
  refine j_aload_n (n := 57) dX8_init_56 rfl rfl ?_
  refine j_get (n := 60) 0 dX8_init_57 f_X8_18 rfl rfl rfl ?_
  refine j_newi (n := 62) n dX8_init_60 rfl rfl (by omega) (by omega) (by omega) (fun a4 => ?_)
  refine j_putF (n := 65) 0 dX8_init_62 f_X8_40 rfl rfl rfl (fun q h => by cases h; rfl) rfl (Nat.le_of_ble_eq_true rfl) rfl rfl ?_
  refine j_aload_n (n := 66) dX8_init_65 rfl rfl ?_
  refine j_iconst (n := 67) (0) dX8_init_66 rfl (by decide) ?_
  refine j_put (n := 70) 0 dX8_init_67 f_X8_43 rfl rfl rfl (Nat.le_of_ble_eq_true rfl) rfl rfl ?_
  refine j_aload_n (n := 71) dX8_init_70 rfl rfl ?_
  refine j_iconst (n := 72) (-1) dX8_init_71 rfl (by decide) ?_
  refine j_put (n := 75) 0 dX8_init_72 f_X8_46 rfl rfl rfl (Nat.le_of_ble_eq_true rfl) rfl rfl ?_
  refine j_aload_n (n := 76) dX8_init_75 rfl rfl ?_
  refine j_iconst (n := 77) (-1) dX8_init_76 rfl (by decide) ?_
  refine j_put (n := 80) 0 dX8_init_77 f_X8_49 rfl rfl rfl (Nat.le_of_ble_eq_true rfl) rfl rfl ?_
  exact j_vret dX8_init_80 rfl (by omega) (by omega) (⟨a1, a2, a3, a4, by simp [List.set, va_rf]; rfl⟩)
end LK
end
section
/-! PieceTable: its eight cells come first in the world. placeOf, tell, forget, leadingSign, indexOf, addPiece -/
abbrev ptO (A : Nat → Nat) (n : Nat) (stamp closed : Int32) (m : Nat) : va_E := .inr (4, [.ref (A 1), .ref (A 2), .ref (A 3), .int (nI n), .int stamp, .int closed, .ref (A 4), .int (nI m), .ref (A 5), .ref (A 6), .ref (A 7)])
/-- confusions: how many, one, other, cost -/
abbrev CT : Type := Nat × (Nat → Int32) × (Nat → Int32) × (Nat → Int32)
def ptL (G : GT) (A : Nat → Nat) (C : CT) (stamp closed : Int32) (m : Nat) (cs la be : Nat → Int32) (Ln : Nat) (ll : Nat → Int32) : va_W :=
  [(A 0, ptO A C.1 stamp closed m), (A 1, arI G 60 C.2.1), (A 2, arI G 60 C.2.2.1), (A 3, arI G 60 C.2.2.2), (A 4, arI G 120 cs), (A 5, arI G 127 la), (A 6, arI G 120 be), (A 7, arI G Ln ll)]
def mtB (C : CT) (x y : Int32) (i : Nat) : Bool := (decide (C.2.1 i = x) && decide (C.2.2.1 i = y)) || (decide (C.2.1 i = y) && decide (C.2.2.1 i = x))
/-- the first place of the pair, from i on, k places -/
def fndA (C : CT) (x y : Int32) : Nat → Nat → Option Nat
  | 0, _ => none
  | k + 1, i => if mtB C x y i = true then some i else fndA C x y k (i + 1)
def fnd (C : CT) (x y : Int32) : Option Nat := fndA C x y C.1 0
def oI (o : Option Nat) : Int32 := match o with
  | none => -1
  | some i => nI i
theorem fndA_lt {C : CT} {x y : Int32} : ∀ (k i j : Nat), fndA C x y k i = some j → i ≤ j ∧ j < i + k := by
  intro k
  induction k with
  | zero => intro i j h; cases h
  | succ k ih =>
    intro i j h
    unfold fndA at h
    split at h
    · cases h; omega
    · have := ih (i + 1) j h; omega
def tellS (C : CT) (x y cost : Int32) : Int32 × CT × Bool := match fnd C x y with
  | some i => (C.2.2.2 i, (C.1, C.2.1, C.2.2.1, upd C.2.2.2 i cost), true)
  | none => if 60 ≤ C.1 then (-3, C, false) else (-1, (C.1 + 1, upd C.2.1 C.1 x, upd C.2.2.1 C.1 y, upd C.2.2.2 C.1 cost), true)
def forgetS (C : CT) (x y : Int32) : Int32 × CT × Bool := match fnd C x y with
  | none => (-1, C, false)
  | some i => (C.2.2.2 i, (C.1 - 1, upd C.2.1 i (C.2.1 (C.1 - 1)), upd C.2.2.1 i (C.2.2.1 (C.1 - 1)), upd C.2.2.2 i (C.2.2.2 (C.1 - 1))), true)
def ldF (x : Int32) : Int32 := if 255 < x then x >>> ((8 : Int32) &&& 31) else x
/-- the latest code below i that begins with the sign s -/
def prvF (cs : Nat → Int32) (s : Int32) : Nat → Int32
  | 0 => -1
  | i + 1 => if ldF (cs i) = s then nI i else prvF cs s i
def idxF (cs : Nat → Int32) (x : Int32) : Nat → Int32
  | 0 => -1
  | i + 1 => if cs i = x then nI i else idxF cs x i
/-- the chains of codes by their first signs -/
def CHI (cs la be : Nat → Int32) (m : Nat) : Prop := (∀ i, i < m → sgB (ldF (cs i)) = true) ∧ (∀ j, 33 ≤ j → j ≤ 126 → la j = prvF cs (nI j) m) ∧ ∀ i, i < m → be i = prvF cs (ldF (cs i)) i
theorem prvF_cases (cs : Nat → Int32) (s : Int32) : ∀ b : Nat, (prvF cs s b = -1 ∧ ∀ i, i < b → ¬ ldF (cs i) = s) ∨ ∃ j, j < b ∧ prvF cs s b = nI j ∧ ldF (cs j) = s ∧ ∀ i, j < i → i < b → ¬ ldF (cs i) = s := by
  intro b
  induction b with
  | zero => exact Or.inl ⟨rfl, fun i h => by omega⟩
  | succ b ih =>
    unfold prvF
    by_cases h : ldF (cs b) = s
    · rw [if_pos h]
      exact Or.inr ⟨b, by omega, rfl, h, fun i h1 h2 => by omega⟩
    · rw [if_neg h]
      rcases ih with ⟨h1, h2⟩ | ⟨j, h1, h2, h3, h4⟩
      · exact Or.inl ⟨h1, fun i hi => by rcases Nat.lt_or_ge i b with q | q; exact h2 i q; rw [show i = b by omega]; exact h⟩
      · exact Or.inr ⟨j, by omega, h2, h3, fun i a1 a2 => by rcases Nat.lt_or_ge i b with q | q; exact h4 i a1 q; rw [show i = b by omega]; exact h⟩
theorem prvF_upd (cs : Nat → Int32) (s x : Int32) (m : Nat) : ∀ b : Nat, b ≤ m → prvF (upd cs m x) s b = prvF cs s b := by
  intro b
  induction b with
  | zero => intro _; rfl
  | succ b ih =>
    intro h
    unfold prvF
    rw [ih (by omega), pk_un (show b ≠ m by omega)]
theorem idxF_none {cs : Nat → Int32} {x : Int32} : ∀ b : Nat, (∀ i, i < b → ¬ cs i = x) → idxF cs x b = -1 := by
  intro b
  induction b with
  | zero => intro _; rfl
  | succ b ih => intro h; unfold idxF; rw [if_neg (h b (by omega))]; exact ih (fun i hi => h i (by omega))
theorem idxF_down {cs : Nat → Int32} {x : Int32} {b : Nat} : ∀ m : Nat, b ≤ m → (∀ i, b ≤ i → i < m → ¬ cs i = x) → idxF cs x m = idxF cs x b := by
  intro m
  induction m with
  | zero => intro h _; rw [show b = 0 by omega]
  | succ m ih =>
    intro h hn
    rcases Nat.lt_or_ge b (m + 1) with q | q
    · show (if cs m = x then nI m else idxF cs x m) = _
      rw [if_neg (hn m (by omega) (by omega))]
      exact ih (by omega) (fun i a1 a2 => hn i a1 (by omega))
    · rw [show b = m + 1 by omega]
theorem idxF_cases (cs : Nat → Int32) (x : Int32) (m : Nat) : (idxF cs x m = -1 ∧ ∀ i, i < m → ¬ cs i = x) ∨ ∃ j, j < m ∧ idxF cs x m = nI j ∧ cs j = x := by
  induction m with
  | zero => exact Or.inl ⟨rfl, fun i h => by omega⟩
  | succ b ih =>
    unfold idxF
    by_cases h : cs b = x
    · rw [if_pos h]; exact Or.inr ⟨b, by omega, rfl, h⟩
    · rw [if_neg h]
      rcases ih with ⟨h1, h2⟩ | ⟨j, h1, h2, h3⟩
      · exact Or.inl ⟨h1, fun i hi => by rcases Nat.lt_or_ge i b with q | q; exact h2 i q; rw [show i = b by omega]; exact h⟩
      · exact Or.inr ⟨j, by omega, h2, h3⟩
theorem nI_nm1 {j : Nat} (h : j < 2147483648) : ¬ nI j = -1 := by
  intro q
  have e1 : (nI j).toInt = (j : Int) := nI_toInt h
  have e2 : (-1 : Int32).toInt = -1 := rfl
  rw [q, e2] at e1
  omega
section PT1
variable {G : GT} {rest : va_W} {A : Nat → Nat} {C : CT} {stamp closed : Int32} {m Ln : Nat} {cs la be ll : Nat → Int32}
theorem place_loop {x y : Int32} (hn : C.1 ≤ 60) : ∀ (k i : Nat), i + k = C.1 → JJ G Y_X4_placeOf 0 0 0 (Qi (fun r w => r = oI (fndA C x y k i) ∧ w = ptL G A C stamp closed m cs la be Ln ll ++ rest)) 2 [(0, .ref (A 0)), (1, .int x), (2, .int y), (3, .int (nI i))] [] (ptL G A C stamp closed m cs la be Ln ll ++ rest) 0 0 := by
  intro k
  induction k with
  | zero =>
    intro i hi
    refine j_iload_n (n := 3) dX4_placeOf_2 rfl rfl ?_
    refine j_aload_n (n := 4) dX4_placeOf_3 rfl rfl ?_
    refine j_get (n := 7) 0 dX4_placeOf_4 f_X4_21 rfl rfl rfl ?_
    refine j_icmp_ge (n := 10) 58 dX4_placeOf_7 (by decide) rfl (fun c => ?_) (fun c => ?_)
    · refine j_iconst (n := 59) (-1) dX4_placeOf_58 rfl (by decide) ?_
      exact j_iret dX4_placeOf_59 rfl rfl (by omega) (by omega) (⟨rfl, rfl⟩)
    · exact absurd (nI_le (show C.1 ≤ i by omega) (by omega)) c
  | succ k ih =>
    intro i hi
    have ih := ih (i + 1) (by omega)
    refine j_iload_n (n := 3) dX4_placeOf_2 rfl rfl ?_
    refine j_aload_n (n := 4) dX4_placeOf_3 rfl rfl ?_
    refine j_get (n := 7) 0 dX4_placeOf_4 f_X4_21 rfl rfl rfl ?_
    refine j_icmp_ge (n := 10) 58 dX4_placeOf_7 (by decide) rfl (fun c => ?_) (fun c => ?_)
    · exact absurd c (nI_ge (show i < C.1 by omega) (by omega))
    · refine j_aload_n (n := 11) dX4_placeOf_10 rfl rfl ?_
      refine j_get (n := 14) 0 dX4_placeOf_11 f_X4_9 rfl rfl rfl ?_
      refine j_iload_n (n := 15) dX4_placeOf_14 rfl rfl ?_
      refine j_iald (n := 16) 1 i dX4_placeOf_15 rfl rfl rfl (by omega) (by omega) ?_
      refine j_iload_n (n := 17) dX4_placeOf_16 rfl rfl ?_
      refine j_icmp_ne (n := 20) 30 dX4_placeOf_17 (by decide) rfl (fun c2 => ?_) (fun c2 => ?_)
      · refine j_aload_n (n := 31) dX4_placeOf_30 rfl rfl ?_
        refine j_get (n := 34) 0 dX4_placeOf_31 f_X4_9 rfl rfl rfl ?_
        refine j_iload_n (n := 35) dX4_placeOf_34 rfl rfl ?_
        refine j_iald (n := 36) 1 i dX4_placeOf_35 rfl rfl rfl (by omega) (by omega) ?_
        refine j_iload_n (n := 37) dX4_placeOf_36 rfl rfl ?_
        refine j_icmp_ne (n := 40) 52 dX4_placeOf_37 (by decide) rfl (fun c3 => ?_) (fun c3 => ?_)
        · have e : fndA C x y (k + 1) i = fndA C x y k (i + 1) := if_neg (by simp [mtB, c2, c3])
          rw [e]
          refine j_iinc (n := 55) (nI (i + 1)) dX4_placeOf_52 rfl rfl (nI_inc i) (by decide) ?_
          refine j_goto 2 dX4_placeOf_55 (by decide) ?_
          exact ih
        · refine j_aload_n (n := 41) dX4_placeOf_40 rfl rfl ?_
          refine j_get (n := 44) 0 dX4_placeOf_41 f_X4_15 rfl rfl rfl ?_
          refine j_iload_n (n := 45) dX4_placeOf_44 rfl rfl ?_
          refine j_iald (n := 46) 2 i dX4_placeOf_45 rfl rfl rfl (by omega) (by omega) ?_
          refine j_iload_n (n := 47) dX4_placeOf_46 rfl rfl ?_
          refine j_icmp_ne (n := 50) 52 dX4_placeOf_47 (by decide) rfl (fun c4 => ?_) (fun c4 => ?_)
          · have e : fndA C x y (k + 1) i = fndA C x y k (i + 1) := if_neg (by simp [mtB, c2, c4])
            rw [e]
            refine j_iinc (n := 55) (nI (i + 1)) dX4_placeOf_52 rfl rfl (nI_inc i) (by decide) ?_
            refine j_goto 2 dX4_placeOf_55 (by decide) ?_
            exact ih
          · have e : fndA C x y (k + 1) i = some i := if_pos (by simp [mtB, c3, c4])
            rw [e]
            refine j_iload_n (n := 51) dX4_placeOf_50 rfl rfl ?_
            exact j_iret dX4_placeOf_51 rfl rfl (by omega) (by omega) (⟨rfl, rfl⟩)
      · refine j_aload_n (n := 21) dX4_placeOf_20 rfl rfl ?_
        refine j_get (n := 24) 0 dX4_placeOf_21 f_X4_15 rfl rfl rfl ?_
        refine j_iload_n (n := 25) dX4_placeOf_24 rfl rfl ?_
        refine j_iald (n := 26) 2 i dX4_placeOf_25 rfl rfl rfl (by omega) (by omega) ?_
        refine j_iload_n (n := 27) dX4_placeOf_26 rfl rfl ?_
        refine j_icmp_eq (n := 30) 50 dX4_placeOf_27 (by decide) rfl (fun c3 => ?_) (fun c3 => ?_)
        · have e : fndA C x y (k + 1) i = some i := if_pos (by simp [mtB, c2, c3])
          rw [e]
          refine j_iload_n (n := 51) dX4_placeOf_50 rfl rfl ?_
          exact j_iret dX4_placeOf_51 rfl rfl (by omega) (by omega) (⟨rfl, rfl⟩)
        · refine j_aload_n (n := 31) dX4_placeOf_30 rfl rfl ?_
          refine j_get (n := 34) 0 dX4_placeOf_31 f_X4_9 rfl rfl rfl ?_
          refine j_iload_n (n := 35) dX4_placeOf_34 rfl rfl ?_
          refine j_iald (n := 36) 1 i dX4_placeOf_35 rfl rfl rfl (by omega) (by omega) ?_
          refine j_iload_n (n := 37) dX4_placeOf_36 rfl rfl ?_
          refine j_icmp_ne (n := 40) 52 dX4_placeOf_37 (by decide) rfl (fun c4 => ?_) (fun c4 => ?_)
          · have e : fndA C x y (k + 1) i = fndA C x y k (i + 1) := if_neg (by simp [mtB, c3, c4])
            rw [e]
            refine j_iinc (n := 55) (nI (i + 1)) dX4_placeOf_52 rfl rfl (nI_inc i) (by decide) ?_
            refine j_goto 2 dX4_placeOf_55 (by decide) ?_
            exact ih
          · refine j_aload_n (n := 41) dX4_placeOf_40 rfl rfl ?_
            refine j_get (n := 44) 0 dX4_placeOf_41 f_X4_15 rfl rfl rfl ?_
            refine j_iload_n (n := 45) dX4_placeOf_44 rfl rfl ?_
            refine j_iald (n := 46) 2 i dX4_placeOf_45 rfl rfl rfl (by omega) (by omega) ?_
            refine j_iload_n (n := 47) dX4_placeOf_46 rfl rfl ?_
            refine j_icmp_ne (n := 50) 52 dX4_placeOf_47 (by decide) rfl (fun c5 => ?_) (fun c5 => ?_)
            · have e : fndA C x y (k + 1) i = fndA C x y k (i + 1) := if_neg (by simp [mtB, c3, c5])
              rw [e]
              refine j_iinc (n := 55) (nI (i + 1)) dX4_placeOf_52 rfl rfl (nI_inc i) (by decide) ?_
              refine j_goto 2 dX4_placeOf_55 (by decide) ?_
              exact ih
            · have e : fndA C x y (k + 1) i = some i := if_pos (by simp [mtB, c4, c5])
              rw [e]
              refine j_iload_n (n := 51) dX4_placeOf_50 rfl rfl ?_
              exact j_iret dX4_placeOf_51 rfl rfl (by omega) (by omega) (⟨rfl, rfl⟩)
theorem c_placeOf {x y : Int32} (hn : C.1 ≤ 60) : JE G Y_X4_placeOf 0 0 0 [.ref (A 0), .int x, .int y] (ptL G A C stamp closed m cs la be Ln ll ++ rest) (oI (fnd C x y)) (ptL G A C stamp closed m cs la be Ln ll ++ rest) := by
  refine JM.of [(0, .ref (A 0)), (1, .int x), (2, .int y)] rfl rfl (by simp) (Nat.le_of_ble_eq_true rfl) (by decide +kernel) ?_
  refine j_iconst (n := 1) (0) dX4_placeOf_0 rfl (by decide) ?_
  refine j_istore_n (n := 2) dX4_placeOf_1 rfl (by decide) ?_
  exact place_loop hn C.1 0 (by omega)
theorem c_ptTell {x y cost : Int32} {s : Nat} (hn : C.1 ≤ 60) : JE G Y_X4_tell 1 0 0 [.ref (A 0), .int x, .int y, .int cost] (ptL G A C (nI s) closed m cs la be Ln ll ++ rest) (tellS C x y cost).1 (ptL G A (tellS C x y cost).2.1 (nI (if (tellS C x y cost).2.2 = true then s + 1 else s)) closed m cs la be Ln ll ++ rest) := by
  refine JM.of [(0, .ref (A 0)), (1, .int x), (2, .int y), (3, .int cost)] rfl rfl (by simp) (Nat.le_of_ble_eq_true rfl) (by decide +kernel) ?_
  refine j_aload_n (n := 1) dX4_tell_0 rfl rfl ?_
  refine j_iload_n (n := 2) dX4_tell_1 rfl rfl ?_
  refine j_iload_n (n := 3) dX4_tell_2 rfl rfl ?_
  refine j_callVe (n := 6) (Y1 := Y_X4_placeOf) 0 dX4_tell_3 m_X4_46 cy_X4_placeOf ci_X4_placeOf (c_placeOf hn) rfl rfl rfl rfl rfl (by omega) (by omega) (by omega) (Nat.le_of_ble_eq_true rfl) ?_
  refine j_istore (n := 8) dX4_tell_6 rfl (by decide) ?_
  refine j_iload (n := 10) dX4_tell_8 rfl rfl ?_
  refine j_iconst (n := 11) (-1) dX4_tell_10 rfl (by decide) ?_
  unfold tellS
  cases hf : fnd C x y with
  | none =>
    dsimp only [oI]
    refine j_icmp_eq (n := 14) 44 dX4_tell_11 (by decide) rfl (fun c => ?_) (fun c => absurd rfl c)
    refine j_aload_n (n := 45) dX4_tell_44 rfl rfl ?_
    refine j_get (n := 48) 0 dX4_tell_45 f_X4_21 rfl rfl rfl ?_
    refine j_bipush (n := 50) (60) dX4_tell_48 rfl (by decide) ?_
    refine j_icmp_lt (n := 53) 56 dX4_tell_50 (by decide) rfl (fun c2 => ?_) (fun c2 => ?_)
    · have hlt : C.1 < 60 := (nI_ltI (b := 60) (by omega) (by omega)).mp c2
      rw [if_neg (by omega)]
      refine j_aload_n (n := 57) dX4_tell_56 rfl rfl ?_
      refine j_get (n := 60) 0 dX4_tell_57 f_X4_9 rfl rfl rfl ?_
      refine j_aload_n (n := 61) dX4_tell_60 rfl rfl ?_
      refine j_get (n := 64) 0 dX4_tell_61 f_X4_21 rfl rfl rfl ?_
      refine j_iload_n (n := 65) dX4_tell_64 rfl rfl ?_
      refine j_iast (n := 66) 1 C.1 dX4_tell_65 rfl rfl rfl (by omega) (by omega) ?_
      refine j_aload_n (n := 67) dX4_tell_66 rfl rfl ?_
      refine j_get (n := 70) 0 dX4_tell_67 f_X4_15 rfl rfl rfl ?_
      refine j_aload_n (n := 71) dX4_tell_70 rfl rfl ?_
      refine j_get (n := 74) 0 dX4_tell_71 f_X4_21 rfl rfl rfl ?_
      refine j_iload_n (n := 75) dX4_tell_74 rfl rfl ?_
      refine j_iast (n := 76) 2 C.1 dX4_tell_75 rfl rfl rfl (by omega) (by omega) ?_
      refine j_aload_n (n := 77) dX4_tell_76 rfl rfl ?_
      refine j_get (n := 80) 0 dX4_tell_77 f_X4_18 rfl rfl rfl ?_
      refine j_aload_n (n := 81) dX4_tell_80 rfl rfl ?_
      refine j_get (n := 84) 0 dX4_tell_81 f_X4_21 rfl rfl rfl ?_
      refine j_iload_n (n := 85) dX4_tell_84 rfl rfl ?_
      refine j_iast (n := 86) 3 C.1 dX4_tell_85 rfl rfl rfl (by omega) (by omega) ?_
      refine j_aload_n (n := 87) dX4_tell_86 rfl rfl ?_
      refine j_dup (n := 88) dX4_tell_87 rfl rfl ?_
      refine j_get (n := 91) 0 dX4_tell_88 f_X4_21 rfl rfl rfl ?_
      refine j_iconst (n := 92) (1) dX4_tell_91 rfl (by decide) ?_
      refine j_iadd (n := 93) dX4_tell_92 rfl ?_
      refine j_top (nI (C.1 + 1)) (nI_1 C.1) ?_
      refine j_put (n := 96) 0 dX4_tell_93 f_X4_21 rfl rfl rfl (Nat.le_of_ble_eq_true rfl) rfl rfl ?_
      refine j_aload_n (n := 97) dX4_tell_96 rfl rfl ?_
      refine j_dup (n := 98) dX4_tell_97 rfl rfl ?_
      refine j_get (n := 101) 0 dX4_tell_98 f_X4_25 rfl rfl rfl ?_
      refine j_iconst (n := 102) (1) dX4_tell_101 rfl (by decide) ?_
      refine j_iadd (n := 103) dX4_tell_102 rfl ?_
      refine j_top (nI (s + 1)) (nI_1 s) ?_
      refine j_put (n := 106) 0 dX4_tell_103 f_X4_25 rfl rfl rfl (Nat.le_of_ble_eq_true rfl) rfl rfl ?_
      refine j_iconst (n := 107) (-1) dX4_tell_106 rfl (by decide) ?_
      exact j_iret dX4_tell_107 rfl rfl (by omega) (by omega) (⟨rfl, rfl⟩)
    · have hge : ¬ C.1 < 60 := fun h => c2 (nI_lt (b := 60) h (by omega))
      rw [if_pos (by omega)]
      refine j_bipush (n := 55) (-3) dX4_tell_53 rfl (by decide) ?_
      exact j_iret dX4_tell_55 rfl rfl (by omega) (by omega) (⟨rfl, rfl⟩)
  | some i =>
    have hi := fndA_lt _ _ _ hf
    dsimp only [oI]
    refine j_icmp_eq (n := 14) 44 dX4_tell_11 (by decide) rfl (fun c => absurd c (nI_nm1 (by omega))) (fun c => ?_)
    refine j_aload_n (n := 15) dX4_tell_14 rfl rfl ?_
    refine j_get (n := 18) 0 dX4_tell_15 f_X4_18 rfl rfl rfl ?_
    refine j_iload (n := 20) dX4_tell_18 rfl rfl ?_
    refine j_iald (n := 21) 3 i dX4_tell_20 rfl rfl rfl (by omega) (by omega) ?_
    refine j_istore (n := 23) dX4_tell_21 rfl (by decide) ?_
    refine j_aload_n (n := 24) dX4_tell_23 rfl rfl ?_
    refine j_get (n := 27) 0 dX4_tell_24 f_X4_18 rfl rfl rfl ?_
    refine j_iload (n := 29) dX4_tell_27 rfl rfl ?_
    refine j_iload_n (n := 30) dX4_tell_29 rfl rfl ?_
    refine j_iast (n := 31) 3 i dX4_tell_30 rfl rfl rfl (by omega) (by omega) ?_
    refine j_aload_n (n := 32) dX4_tell_31 rfl rfl ?_
    refine j_dup (n := 33) dX4_tell_32 rfl rfl ?_
    refine j_get (n := 36) 0 dX4_tell_33 f_X4_25 rfl rfl rfl ?_
    refine j_iconst (n := 37) (1) dX4_tell_36 rfl (by decide) ?_
    refine j_iadd (n := 38) dX4_tell_37 rfl ?_
    refine j_top (nI (s + 1)) (nI_1 s) ?_
    refine j_put (n := 41) 0 dX4_tell_38 f_X4_25 rfl rfl rfl (Nat.le_of_ble_eq_true rfl) rfl rfl ?_
    refine j_iload (n := 43) dX4_tell_41 rfl rfl ?_
    exact j_iret dX4_tell_43 rfl rfl (by omega) (by omega) (⟨rfl, rfl⟩)
theorem c_ptForget {x y : Int32} {s : Nat} (hn : C.1 ≤ 60) : JE G Y_X4_forget 1 0 0 [.ref (A 0), .int x, .int y] (ptL G A C (nI s) closed m cs la be Ln ll ++ rest) (forgetS C x y).1 (ptL G A (forgetS C x y).2.1 (nI (if (forgetS C x y).2.2 = true then s + 1 else s)) closed m cs la be Ln ll ++ rest) := by
  refine JM.of [(0, .ref (A 0)), (1, .int x), (2, .int y)] rfl rfl (by simp) (Nat.le_of_ble_eq_true rfl) (by decide +kernel) ?_
  refine j_aload_n (n := 1) dX4_forget_0 rfl rfl ?_
  refine j_iload_n (n := 2) dX4_forget_1 rfl rfl ?_
  refine j_iload_n (n := 3) dX4_forget_2 rfl rfl ?_
  refine j_callVe (n := 6) (Y1 := Y_X4_placeOf) 0 dX4_forget_3 m_X4_46 cy_X4_placeOf ci_X4_placeOf (c_placeOf hn) rfl rfl rfl rfl rfl (by omega) (by omega) (by omega) (Nat.le_of_ble_eq_true rfl) ?_
  refine j_istore_n (n := 7) dX4_forget_6 rfl (by decide) ?_
  refine j_iload_n (n := 8) dX4_forget_7 rfl rfl ?_
  refine j_iconst (n := 9) (-1) dX4_forget_8 rfl (by decide) ?_
  unfold forgetS
  cases hf : fnd C x y with
  | none =>
    dsimp only [oI]
    refine j_icmp_ne (n := 12) 14 dX4_forget_9 (by decide) rfl (fun c => absurd rfl c) (fun c => ?_)
    refine j_iconst (n := 13) (-1) dX4_forget_12 rfl (by decide) ?_
    exact j_iret dX4_forget_13 rfl rfl (by omega) (by omega) (⟨rfl, rfl⟩)
  | some i =>
    have hi := fndA_lt _ _ _ hf
    have hs : nI C.1 - 1 = nI (C.1 - 1) := by
      have := nI_sub1 (C.1 - 1); rwa [show C.1 - 1 + 1 = C.1 by omega] at this
    dsimp only [oI]
    refine j_icmp_ne (n := 12) 14 dX4_forget_9 (by decide) rfl (fun c => ?_) (fun c => absurd c (nI_nm1 (by omega)))
    refine j_aload_n (n := 15) dX4_forget_14 rfl rfl ?_
    refine j_get (n := 18) 0 dX4_forget_15 f_X4_18 rfl rfl rfl ?_
    refine j_iload_n (n := 19) dX4_forget_18 rfl rfl ?_
    refine j_iald (n := 20) 3 i dX4_forget_19 rfl rfl rfl (by omega) (by omega) ?_
    refine j_istore (n := 22) dX4_forget_20 rfl (by decide) ?_
    refine j_aload_n (n := 23) dX4_forget_22 rfl rfl ?_
    refine j_dup (n := 24) dX4_forget_23 rfl rfl ?_
    refine j_get (n := 27) 0 dX4_forget_24 f_X4_21 rfl rfl rfl ?_
    refine j_iconst (n := 28) (1) dX4_forget_27 rfl (by decide) ?_
    refine j_isub (n := 29) dX4_forget_28 rfl ?_
    refine j_top (nI (C.1 - 1)) hs ?_
    refine j_put (n := 32) 0 dX4_forget_29 f_X4_21 rfl rfl rfl (Nat.le_of_ble_eq_true rfl) rfl rfl ?_
    refine j_aload_n (n := 33) dX4_forget_32 rfl rfl ?_
    refine j_get (n := 36) 0 dX4_forget_33 f_X4_9 rfl rfl rfl ?_
    refine j_iload_n (n := 37) dX4_forget_36 rfl rfl ?_
    refine j_aload_n (n := 38) dX4_forget_37 rfl rfl ?_
    refine j_get (n := 41) 0 dX4_forget_38 f_X4_9 rfl rfl rfl ?_
    refine j_aload_n (n := 42) dX4_forget_41 rfl rfl ?_
    refine j_get (n := 45) 0 dX4_forget_42 f_X4_21 rfl rfl rfl ?_
    refine j_iald (n := 46) 1 (C.1 - 1) dX4_forget_45 rfl rfl rfl (by omega) (by omega) ?_
    refine j_iast (n := 47) 1 i dX4_forget_46 rfl rfl rfl (by omega) (by omega) ?_
    refine j_aload_n (n := 48) dX4_forget_47 rfl rfl ?_
    refine j_get (n := 51) 0 dX4_forget_48 f_X4_15 rfl rfl rfl ?_
    refine j_iload_n (n := 52) dX4_forget_51 rfl rfl ?_
    refine j_aload_n (n := 53) dX4_forget_52 rfl rfl ?_
    refine j_get (n := 56) 0 dX4_forget_53 f_X4_15 rfl rfl rfl ?_
    refine j_aload_n (n := 57) dX4_forget_56 rfl rfl ?_
    refine j_get (n := 60) 0 dX4_forget_57 f_X4_21 rfl rfl rfl ?_
    refine j_iald (n := 61) 2 (C.1 - 1) dX4_forget_60 rfl rfl rfl (by omega) (by omega) ?_
    refine j_iast (n := 62) 2 i dX4_forget_61 rfl rfl rfl (by omega) (by omega) ?_
    refine j_aload_n (n := 63) dX4_forget_62 rfl rfl ?_
    refine j_get (n := 66) 0 dX4_forget_63 f_X4_18 rfl rfl rfl ?_
    refine j_iload_n (n := 67) dX4_forget_66 rfl rfl ?_
    refine j_aload_n (n := 68) dX4_forget_67 rfl rfl ?_
    refine j_get (n := 71) 0 dX4_forget_68 f_X4_18 rfl rfl rfl ?_
    refine j_aload_n (n := 72) dX4_forget_71 rfl rfl ?_
    refine j_get (n := 75) 0 dX4_forget_72 f_X4_21 rfl rfl rfl ?_
    refine j_iald (n := 76) 3 (C.1 - 1) dX4_forget_75 rfl rfl rfl (by omega) (by omega) ?_
    refine j_iast (n := 77) 3 i dX4_forget_76 rfl rfl rfl (by omega) (by omega) ?_
    refine j_aload_n (n := 78) dX4_forget_77 rfl rfl ?_
    refine j_dup (n := 79) dX4_forget_78 rfl rfl ?_
    refine j_get (n := 82) 0 dX4_forget_79 f_X4_25 rfl rfl rfl ?_
    refine j_iconst (n := 83) (1) dX4_forget_82 rfl (by decide) ?_
    refine j_iadd (n := 84) dX4_forget_83 rfl ?_
    refine j_top (nI (s + 1)) (nI_1 s) ?_
    refine j_put (n := 87) 0 dX4_forget_84 f_X4_25 rfl rfl rfl (Nat.le_of_ble_eq_true rfl) rfl rfl ?_
    refine j_iload (n := 89) dX4_forget_87 rfl rfl ?_
    exact j_iret dX4_forget_89 rfl rfl (by omega) (by omega) (⟨rfl, rfl⟩)
theorem c_leadingSign {ws : va_W} {x : Int32} : JE G Y_X4_leadingSign 0 0 0 [.int x] ws (ldF x) ws := by
  refine JM.of [(0, .int x)] rfl rfl (by simp) (Nat.le_of_ble_eq_true rfl) (by decide +kernel) ?_
  refine j_iload_n (n := 1) dX4_leadingSign_0 rfl rfl ?_
  refine j_sipush (n := 4) (255) dX4_leadingSign_1 rfl (by decide) ?_
  refine j_icmp_le (n := 7) 14 dX4_leadingSign_4 (by decide) rfl (fun c => ?_) (fun c => ?_)
  · refine j_iload_n (n := 15) dX4_leadingSign_14 rfl rfl ?_
    exact j_iret dX4_leadingSign_15 rfl rfl (by omega) (by omega) (⟨by unfold ldF; rw [if_neg (Int32.not_lt.mpr c)], rfl⟩)
  · refine j_iload_n (n := 8) dX4_leadingSign_7 rfl rfl ?_
    refine j_bipush (n := 10) (8) dX4_leadingSign_8 rfl (by decide) ?_
    refine j_ishr (n := 11) dX4_leadingSign_10 rfl ?_
    refine j_goto 15 dX4_leadingSign_11 (by decide) ?_
    exact j_iret dX4_leadingSign_15 rfl rfl (by omega) (by omega) (⟨by unfold ldF; rw [if_pos (Int32.not_le.mp c)], rfl⟩)
theorem index_loop {x : Int32} (hC : CHI cs la be m) (hm : m ≤ 120) : ∀ (k b : Nat), b ≤ k → k ≤ m → (∀ i, b ≤ i → i < m → ¬ cs i = x) → JJ G Y_X4_indexOf 1 0 0 (Qi (fun r w => r = idxF cs x m ∧ w = ptL G A C stamp closed m cs la be Ln ll ++ rest)) 26 [(0, .ref (A 0)), (1, .int x), (3, .int (prvF cs (ldF x) b)), (4, .int (nI (m - k)))] [] (ptL G A C stamp closed m cs la be Ln ll ++ rest) 0 0 := by
  intro k
  induction k with
  | zero =>
    intro b hb hk hn
    obtain rfl : b = 0 := by omega
    refine j_iload (n := 28) dX4_indexOf_26 rfl rfl ?_
    refine j_aload_n (n := 29) dX4_indexOf_28 rfl rfl ?_
    refine j_get (n := 32) 0 dX4_indexOf_29 f_X4_34 rfl rfl rfl ?_
    refine j_icmp_ge (n := 35) 72 dX4_indexOf_32 (by decide) rfl (fun c => ?_) (fun c => ?_)
    · refine j_iconst (n := 73) (-1) dX4_indexOf_72 rfl (by decide) ?_
      exact j_iret dX4_indexOf_73 rfl rfl (by omega) (by omega) (⟨by rw [idxF_down m (Nat.zero_le _) hn]; rfl, rfl⟩)
    · exact absurd (nI_le (show m ≤ m - 0 by omega) (by omega)) c
  | succ k ih =>
    intro b hb hk hn
    rcases prvF_cases cs (ldF x) b with ⟨e, h2⟩ | ⟨j, h1, e, h3, h4⟩
    · rw [e]
      have hres : idxF cs x m = -1 := idxF_none m (fun i hi q => by
        rcases Nat.lt_or_ge i b with z | z
        · exact h2 i z (by rw [q])
        · exact hn i z hi q)
      rw [hres]
      refine j_iload (n := 28) dX4_indexOf_26 rfl rfl ?_
      refine j_aload_n (n := 29) dX4_indexOf_28 rfl rfl ?_
      refine j_get (n := 32) 0 dX4_indexOf_29 f_X4_34 rfl rfl rfl ?_
      refine j_icmp_ge (n := 35) 72 dX4_indexOf_32 (by decide) rfl (fun c => ?_) (fun c => ?_)
      · refine j_iconst (n := 73) (-1) dX4_indexOf_72 rfl (by decide) ?_
        exact j_iret dX4_indexOf_73 rfl rfl (by omega) (by omega) (⟨rfl, rfl⟩)
      · refine j_iload_n (n := 36) dX4_indexOf_35 rfl rfl ?_
        refine j_if_lt (n := 39) 72 dX4_indexOf_36 (by decide) rfl (fun c2 => ?_) (fun c2 => ?_)
        · refine j_iconst (n := 73) (-1) dX4_indexOf_72 rfl (by decide) ?_
          exact j_iret dX4_indexOf_73 rfl rfl (by omega) (by omega) (⟨rfl, rfl⟩)
        · exact absurd (by decide) c2
    · rw [e]
      have hjm : j < m := by
        rcases Nat.lt_or_ge j m with z | z
        · exact z
        · omega
      refine j_iload (n := 28) dX4_indexOf_26 rfl rfl ?_
      refine j_aload_n (n := 29) dX4_indexOf_28 rfl rfl ?_
      refine j_get (n := 32) 0 dX4_indexOf_29 f_X4_34 rfl rfl rfl ?_
      refine j_icmp_ge (n := 35) 72 dX4_indexOf_32 (by decide) rfl (fun c => ?_) (fun c => ?_)
      · exact absurd c (nI_ge (show m - (k + 1) < m by omega) (by omega))
      · refine j_iload_n (n := 36) dX4_indexOf_35 rfl rfl ?_
        refine j_if_lt (n := 39) 72 dX4_indexOf_36 (by decide) rfl (fun c2 => ?_) (fun c2 => ?_)
        · exact absurd c2 (nI_pos (by omega))
        · refine j_iload_n (n := 40) dX4_indexOf_39 rfl rfl ?_
          refine j_aload_n (n := 41) dX4_indexOf_40 rfl rfl ?_
          refine j_get (n := 44) 0 dX4_indexOf_41 f_X4_34 rfl rfl rfl ?_
          refine j_icmp_ge (n := 47) 72 dX4_indexOf_44 (by decide) rfl (fun c3 => ?_) (fun c3 => ?_)
          · exact absurd c3 (nI_ge hjm (by omega))
          · refine j_aload_n (n := 48) dX4_indexOf_47 rfl rfl ?_
            refine j_get (n := 51) 0 dX4_indexOf_48 f_X4_31 rfl rfl rfl ?_
            refine j_iload_n (n := 52) dX4_indexOf_51 rfl rfl ?_
            refine j_iald (n := 53) 4 j dX4_indexOf_52 rfl rfl rfl (by omega) (by omega) ?_
            refine j_iload_n (n := 54) dX4_indexOf_53 rfl rfl ?_
            refine j_icmp_ne (n := 57) 59 dX4_indexOf_54 (by decide) rfl (fun c4 => ?_) (fun c4 => ?_)
            · refine j_aload_n (n := 60) dX4_indexOf_59 rfl rfl ?_
              refine j_get (n := 63) 0 dX4_indexOf_60 f_X4_40 rfl rfl rfl ?_
              refine j_iload_n (n := 64) dX4_indexOf_63 rfl rfl ?_
              refine j_iald (n := 65) 6 j dX4_indexOf_64 rfl rfl rfl (by omega) (by omega) ?_
              rw [hC.2.2 j hjm, h3]
              refine j_istore_n (n := 66) dX4_indexOf_65 rfl (by decide) ?_
              refine j_iinc (n := 69) (nI ((m - (k + 1)) + 1)) dX4_indexOf_66 rfl rfl (nI_inc (m - (k + 1))) (by decide) ?_
              refine j_goto 26 dX4_indexOf_69 (by decide) ?_
              rw [show m - (k + 1) + 1 = m - k by omega]
              refine ih j (by omega) (by omega) (fun i a1 a2 q => ?_)
              rcases Nat.lt_or_ge i b with z | z
              · rcases Nat.eq_or_lt_of_le a1 with w | w
                · subst w; exact c4 q
                · exact h4 i w z (by rw [q])
              · exact hn i z a2 q
            · have hres : idxF cs x m = nI j := by
                rw [idxF_down (b := j + 1) m (by omega) (fun i a1 a2 q => ?_)]
                · unfold idxF; rw [if_pos c4]
                · rcases Nat.lt_or_ge i b with z | z
                  · exact h4 i (by omega) z (by rw [q])
                  · exact hn i z a2 q
              refine j_iload_n (n := 58) dX4_indexOf_57 rfl rfl ?_
              exact j_iret dX4_indexOf_58 rfl rfl (by omega) (by omega) (⟨hres.symm, rfl⟩)
theorem c_indexOf {x : Int32} (hC : CHI cs la be m) (hm : m ≤ 120) : JE G Y_X4_indexOf 1 0 0 [.ref (A 0), .int x] (ptL G A C stamp closed m cs la be Ln ll ++ rest) (idxF cs x m) (ptL G A C stamp closed m cs la be Ln ll ++ rest) := by
  refine JM.of [(0, .ref (A 0)), (1, .int x)] rfl rfl (by simp) (Nat.le_of_ble_eq_true rfl) (by decide +kernel) ?_
  refine j_iload_n (n := 1) dX4_indexOf_0 rfl rfl ?_
  refine j_callSe (n := 4) (Y1 := Y_X4_leadingSign) dX4_indexOf_1 m_X4_69 cy_X4_leadingSign cs_X4_leadingSign (c_leadingSign) rfl rfl rfl (by omega) (by omega) (by omega) (Nat.le_of_ble_eq_true rfl) ?_
  refine j_istore_n (n := 5) dX4_indexOf_4 rfl (by decide) ?_
  refine j_iload_n (n := 6) dX4_indexOf_5 rfl rfl ?_
  refine j_callSNe (n := 9) (Y1 := Y_X10_isSign) dX4_indexOf_6 m_X4_73 cy_X10_isSign cs_X10_isSign (c_isSign) rfl rfl rfl (by omega) (by omega) (by omega) (Nat.le_of_ble_eq_true rfl) ?_
  refine j_if_eq (n := 12) 21 dX4_indexOf_9 (by decide) rfl (fun c => ?_) (fun c => ?_)
  · have hs := b01_0 c
    refine j_iconst (n := 22) (-1) dX4_indexOf_21 rfl (by decide) ?_
    refine j_istore_n (n := 23) dX4_indexOf_22 rfl (by decide) ?_
    refine j_iconst (n := 24) (0) dX4_indexOf_23 rfl (by decide) ?_
    refine j_istore (n := 26) dX4_indexOf_24 rfl (by decide) ?_
    refine j_keep [0, 1, 3, 4] rfl ?_
    have e : idxF cs x m = -1 := idxF_none m (fun i hi q => by
      have := hC.1 i hi
      rw [q, hs] at this
      cases this)
    have e2 : prvF cs (ldF x) m = -1 := by
      rcases prvF_cases cs (ldF x) m with ⟨e, -⟩ | ⟨j, h1, -, h3, -⟩
      · exact e
      · have := hC.1 j h1
        rw [h3, hs] at this
        cases this
    have := index_loop (G := G) (rest := rest) (A := A) (C := C) (stamp := stamp) (closed := closed) (Ln := Ln) (ll := ll) (x := x) hC hm m m (Nat.le_refl _) (Nat.le_refl _) (fun i a1 a2 => by omega)
    rw [e2, Nat.sub_self] at this
    exact this
  · have hs := b01_n0 c
    obtain ⟨j, hj, hj1, hj2⟩ := sg_nat hs
    refine j_aload_n (n := 13) dX4_indexOf_12 rfl rfl ?_
    refine j_get (n := 16) 0 dX4_indexOf_13 f_X4_37 rfl rfl rfl ?_
    refine j_iload_n (n := 17) dX4_indexOf_16 rfl rfl ?_
    refine j_iald (n := 18) 5 j dX4_indexOf_17 rfl rfl hj (by omega) (by omega) ?_
    rw [hC.2.1 j hj1 hj2, ← hj]
    refine j_goto 22 dX4_indexOf_18 (by decide) ?_
    refine j_istore_n (n := 23) dX4_indexOf_22 rfl (by decide) ?_
    refine j_iconst (n := 24) (0) dX4_indexOf_23 rfl (by decide) ?_
    refine j_istore (n := 26) dX4_indexOf_24 rfl (by decide) ?_
    refine j_keep [0, 1, 3, 4] rfl ?_
    have := index_loop (G := G) (rest := rest) (A := A) (C := C) (stamp := stamp) (closed := closed) (Ln := Ln) (ll := ll) (x := x) hC hm m m (Nat.le_refl _) (Nat.le_refl _) (fun i a1 a2 => by omega)
    rw [Nat.sub_self] at this
    exact this
end PT1
end
section
/-! chains, as numbers: the matrix of least costs, closed step by step; no cost that is there passes 20 * (nodes + 1) -/
abbrev OM : Type := Nat → Nat → Option Nat
def oAdd (x y : Option Nat) : Option Nat := match x, y with
  | some a, some b => some (a + b)
  | _, _ => none
def oMin (x y : Option Nat) : Option Nat := match x, y with
  | none, y => y
  | some a, none => some a
  | some a, some b => some (min a b)
def fwS (D : OM) (m : Nat) : OM := fun a b => oMin (D a b) (oAdd (D a m) (D m b))
def fwN (D : OM) : Nat → OM
  | 0 => D
  | k + 1 => fwS (fwN D k) k
def up2 (D : OM) (a b : Nat) (v : Option Nat) : OM := fun i j => if i = a ∧ j = b then v else D i j
theorem oMin_self0 (x : Option Nat) : oMin x (oAdd (some 0) x) = x := by
  cases x with
  | none => rfl
  | some v => simp [oAdd, oMin]
theorem oMin_self1 (x : Option Nat) : oMin x (oAdd x (some 0)) = x := by
  cases x with
  | none => rfl
  | some v => simp [oAdd, oMin]
theorem oMin_none (x : Option Nat) : oMin x none = x := by cases x <;> rfl
theorem fwS_row {D : OM} {m j : Nat} (h : D m m = some 0) : fwS D m m j = D m j := by unfold fwS; rw [h, oMin_self0]
theorem fwS_col {D : OM} {m i : Nat} (h : D m m = some 0) : fwS D m i m = D i m := by unfold fwS; rw [h, oMin_self1]
theorem fwS_skip {D : OM} {m i j : Nat} (h : D i m = none) : fwS D m i j = D i j := by
  unfold fwS; rw [h]
  show oMin (D i j) (oAdd none (D m j)) = _
  exact oMin_none _
theorem fwS_diag {D : OM} {m i : Nat} (h : D i i = some 0) : fwS D m i i = some 0 := by
  unfold fwS; rw [h]
  cases oAdd (D i m) (D m i) with
  | none => rfl
  | some v => simp [oMin]
theorem fwN_diag {D : OM} {i : Nat} (h : D i i = some 0) : ∀ k, fwN D k i i = some 0 := by
  intro k
  induction k with
  | zero => exact h
  | succ k ih => exact fwS_diag ih
/-- a walk from a to b over the nodes of l -/
def wk (D : OM) : Nat → List Nat → Nat → Prop
  | a, [], b => D a b ≠ none
  | a, x :: l, b => D a x ≠ none ∧ wk D x l b
theorem wk_app {D : OM} {v b : Nat} : ∀ (p s : List Nat) (a : Nat), wk D a (p ++ v :: s) b ↔ wk D a p v ∧ wk D v s b := by
  intro p
  induction p with
  | nil => intro s a; exact Iff.rfl
  | cons x p ih =>
    intro s a
    show (D a x ≠ none ∧ wk D x (p ++ v :: s) b) ↔ (D a x ≠ none ∧ wk D x p v) ∧ wk D v s b
    rw [ih s x]
    exact ⟨fun h => ⟨⟨h.1, h.2.1⟩, h.2.2⟩, fun h => ⟨h.1.1, h.1.2, h.2⟩⟩
theorem oMin_ne {x y : Option Nat} (h : x ≠ none ∨ y ≠ none) : oMin x y ≠ none := by
  cases x <;> cases y <;> simp_all [oMin]
theorem fw_reach {D : OM} (hd : ∀ i, D i i = some 0) : ∀ (k n : Nat) (l : List Nat) (a b : Nat), l.length ≤ n → (∀ x ∈ l, x < k) → wk D a l b → fwN D k a b ≠ none := by
  intro k
  induction k with
  | zero =>
    intro n l a b _ hl hw
    cases l with
    | nil => exact hw
    | cons x l => exact absurd (hl x List.mem_cons_self) (by omega)
  | succ k ihk =>
    intro n
    induction n with
    | zero =>
      intro l a b hn hl hw
      have : l = [] := List.length_eq_zero_iff.mp (by omega)
      subst this
      have h0 : fwN D k a b ≠ none := ihk 0 [] a b (Nat.le_refl _) (fun x h => by cases h) hw
      exact oMin_ne (Or.inl h0)
    | succ n ihn =>
      intro l a b hn hl hw
      by_cases hk : k ∈ l
      · obtain ⟨p, s, rfl, hp⟩ := List.mem_iff_append.mp hk |>.elim (fun p h => h.elim (fun s h => (List.eq_append_cons_of_mem hk)))
        obtain ⟨w1, w2⟩ := (wk_app p s a).mp hw
        have h1 : fwN D k a k ≠ none := ihk p.length p a k (Nat.le_refl _) (fun x hx => by
          have := hl x (List.mem_append_left _ hx)
          have hne : x ≠ k := fun e => hp (e ▸ hx)
          omega) w1
        have h2 : fwN D (k + 1) k b ≠ none := ihn s k b (by simp at hn; omega) (fun x hx => hl x (List.mem_append_right _ (List.mem_cons_of_mem _ hx))) w2
        have h3 : fwN D k k b ≠ none := by
          intro e
          apply h2
          show fwS (fwN D k) k k b = none
          rw [fwS_row (fwN_diag (hd k) k), e]
        refine oMin_ne (Or.inr ?_)
        cases e1 : fwN D k a k with
        | none => exact absurd e1 h1
        | some u =>
          cases e2 : fwN D k k b with
          | none => exact absurd e2 h3
          | some w => simp [oAdd]
      · have h0 : fwN D k a b ≠ none := ihk l.length l a b (Nat.le_refl _) (fun x hx => by
          have := hl x hx
          have hne : x ≠ k := fun e => hk (e ▸ hx)
          omega) hw
        exact oMin_ne (Or.inl h0)
theorem nodup_len : ∀ (k : Nat) (l : List Nat), l.Nodup → (∀ x ∈ l, x < k) → l.length ≤ k := by
  intro k
  induction k with
  | zero =>
    intro l _ h
    cases l with
    | nil => exact Nat.le_refl _
    | cons x l => exact absurd (h x List.mem_cons_self) (by omega)
  | succ k ih =>
    intro l hn h
    have h1 : (l.erase k).length ≤ k := ih (l.erase k) (hn.erase k) (fun x hx => by
      have h2 := h x (List.mem_of_mem_erase hx)
      have h3 : x ≠ k := fun e => by subst e; exact (List.Nodup.not_mem_erase hn) hx
      omega)
    by_cases hk : k ∈ l
    · have := List.length_erase_of_mem hk
      omega
    · rw [List.erase_of_not_mem hk] at h1
      omega
theorem fw_bound {D : OM} (hd : ∀ i, D i i = some 0) {B : Nat} (hB : ∀ i j v, D i j = some v → v ≤ B) : ∀ (k a b v : Nat), fwN D k a b = some v → ∃ l : List Nat, l.Nodup ∧ (∀ x ∈ l, x < k) ∧ wk D a l b ∧ v ≤ B * (l.length + 1) := by
  intro k
  induction k with
  | zero =>
    intro a b v h
    exact ⟨[], List.nodup_nil, fun x hx => (by cases hx), (by show D a b ≠ none; rw [show D a b = some v from h]; exact fun e => (by cases e)), by simpa using hB a b v h⟩
  | succ k ih =>
    intro a b v h
    have hs : oMin (fwN D k a b) (oAdd (fwN D k a k) (fwN D k k b)) = some v := h
    cases e0 : fwN D k a b with
    | some u =>
      obtain ⟨l, h1, h2, h3, h4⟩ := ih a b u e0
      refine ⟨l, h1, fun x hx => by have := h2 x hx; omega, h3, ?_⟩
      rw [e0] at hs
      have : v ≤ u := by
        cases e1 : oAdd (fwN D k a k) (fwN D k k b) with
        | none => rw [e1] at hs; cases hs; exact Nat.le_refl _
        | some w => rw [e1] at hs; cases hs; exact Nat.min_le_left _ _
      omega
    | none =>
      rw [e0] at hs
      cases e1 : fwN D k a k with
      | none => rw [e1] at hs; cases hs
      | some u =>
        cases e2 : fwN D k k b with
        | none => rw [e1, e2] at hs; cases hs
        | some w =>
          rw [e1, e2] at hs
          have hv : v = u + w := by cases hs; rfl
          obtain ⟨l1, p1, p2, p3, p4⟩ := ih a k u e1
          obtain ⟨l2, q1, q2, q3, q4⟩ := ih k b w e2
          have hdis : ∀ x ∈ l1, x ∉ l2 := by
            intro x hx1 hx2
            obtain ⟨s1, t1, rfl⟩ := List.append_of_mem hx1
            obtain ⟨s2, t2, rfl⟩ := List.append_of_mem hx2
            have w1 := ((wk_app s1 t1 a).mp p3).1
            have w2 := ((wk_app s2 t2 k).mp q3).2
            have w3 : wk D a (s1 ++ x :: t2) b := (wk_app s1 t2 a).mpr ⟨w1, w2⟩
            refine fw_reach hd k _ (s1 ++ x :: t2) a b (Nat.le_refl _) (fun y hy => ?_) w3 e0
            rcases List.mem_append.mp hy with hy | hy
            · exact p2 y (List.mem_append_left _ hy)
            · exact q2 y (List.mem_append_right _ hy)
          refine ⟨l1 ++ k :: l2, ?_, ?_, (wk_app l1 l2 a).mpr ⟨p3, q3⟩, ?_⟩
          · refine List.nodup_append.mpr ⟨p1, List.nodup_cons.mpr ⟨fun hk => by have := q2 k hk; omega, q1⟩, fun x hx y hy e => ?_⟩
            subst e
            rcases List.mem_cons.mp hy with e | hy
            · subst e; have := p2 _ hx; omega
            · exact hdis x hx hy
          · intro x hx
            rcases List.mem_append.mp hx with hx | hx
            · have := p2 x hx; omega
            · rcases List.mem_cons.mp hx with e | hx
              · omega
              · have := q2 x hx; omega
          · rw [hv, List.length_append, List.length_cons]
            have : B * (l1.length + (l2.length + 1) + 1) = B * (l1.length + 1) + B * (l2.length + 1) := by
              rw [← Nat.mul_add]; congr 1; omega
            omega
theorem fw_le {D : OM} (hd : ∀ i, D i i = some 0) (hB : ∀ i j v, D i j = some v → v ≤ 20) {k a b v : Nat} (hk : k ≤ 120) (h : fwN D k a b = some v) : v ≤ 2420 := by
  obtain ⟨l, h1, h2, -, h4⟩ := fw_bound hd hB k a b v h
  have h5 := nodup_len k l h1 h2
  omega
/-- a matrix in a row of ints: F stands for 'no chain' -/
def ec (F : Nat) (o : Option Nat) : Int32 := match o with
  | none => nI F
  | some v => nI v
def MX (F S m : Nat) (ll : Nat → Int32) (M : OM) : Prop := ∀ i j, i < m → j < m → ll (S * i + j) = ec F (M i j)
theorem mx_inj {S i j a b : Nat} (h1 : j < S) (h2 : b < S) (h : S * i + j = S * a + b) : i = a ∧ j = b := by
  have hS : 0 < S := by omega
  have e1 : (S * i + j) / S = i := by rw [Nat.mul_add_div hS, Nat.div_eq_of_lt h1, Nat.add_zero]
  have e2 : (S * a + b) / S = a := by rw [Nat.mul_add_div hS, Nat.div_eq_of_lt h2, Nat.add_zero]
  have e3 : i = a := by rw [← e1, ← e2, h]
  subst e3
  exact ⟨rfl, by omega⟩
theorem MX.put {F S m a b : Nat} {ll : Nat → Int32} {M : OM} {x : Int32} {v : Option Nat} (h : MX F S m ll M) (hS : m ≤ S) (hb : b < m) (hv : x = ec F v) : MX F S m (upd ll (S * a + b) x) (up2 M a b v) := by
  intro i j hi hj
  unfold up2
  by_cases e : i = a ∧ j = b
  · rw [if_pos e, e.1, e.2, pk_us, hv]
  · rw [if_neg e, pk_un (fun q => e (mx_inj (by omega) (by omega) q)), h i j hi hj]
theorem MX.congr {F S m : Nat} {ll : Nat → Int32} {M M' : OM} (h : MX F S m ll M) (he : ∀ i j, i < m → j < m → M i j = M' i j) : MX F S m ll M' := fun i j hi hj => by rw [h i j hi hj, he i j hi hj]
/-- rows below f, and of row f the places below t, are done -/
def mixM (D : OM) (o f t : Nat) : OM := fun i j => if i < f ∨ (i = f ∧ j < t) then fwS D o i j else D i j
theorem mixM_0 (D : OM) (o : Nat) : mixM D o 0 0 = D := by
  funext i j; unfold mixM; rw [if_neg (by omega)]
theorem mixM_row {D : OM} {o f t j : Nat} (h : D o o = some 0) : mixM D o f t o j = D o j := by
  unfold mixM; split
  · exact fwS_row h
  · rfl
theorem mixM_col {D : OM} {o f t i : Nat} (h : D o o = some 0) : mixM D o f t i o = D i o := by
  unfold mixM; split
  · exact fwS_col h
  · rfl
theorem mixM_at {D : OM} {o f t : Nat} : mixM D o f t f t = D f t := by
  unfold mixM; rw [if_neg (by omega)]
theorem mixM_s {D : OM} {o f t i j : Nat} : mixM D o f (t + 1) i j = up2 (mixM D o f t) f t (fwS D o f t) i j := by
  unfold up2
  by_cases e : i = f ∧ j = t
  · rw [if_pos e, e.1, e.2]; unfold mixM; rw [if_pos (by omega)]
  · rw [if_neg e]; unfold mixM
    by_cases h : i < f ∨ (i = f ∧ j < t)
    · rw [if_pos h, if_pos (by omega)]
    · rw [if_neg h, if_neg (by omega)]
theorem mixM_same {D : OM} {o f t i j : Nat} (h : fwS D o f t = D f t) : mixM D o f (t + 1) i j = mixM D o f t i j := by
  rw [mixM_s]; unfold up2
  by_cases e : i = f ∧ j = t
  · rw [if_pos e, e.1, e.2, h, mixM_at]
  · rw [if_neg e]
theorem mixM_next {D : OM} {o f m i j : Nat} (hj : j < m) : mixM D o f m i j = mixM D o (f + 1) 0 i j := by
  unfold mixM
  by_cases h : i < f ∨ (i = f ∧ j < m)
  · rw [if_pos h, if_pos (by omega)]
  · rw [if_neg h, if_neg (by omega)]
theorem mixM_skip {D : OM} {o f i j : Nat} (h : ∀ t, fwS D o f t = D f t) : mixM D o f 0 i j = mixM D o (f + 1) 0 i j := by
  unfold mixM
  by_cases e : i = f
  · subst e; rw [if_neg (by omega), if_pos (by omega), h]
  · by_cases h2 : i < f
    · rw [if_pos (Or.inl h2), if_pos (by omega)]
    · rw [if_neg (by omega), if_neg (by omega)]
theorem mixM_end {D : OM} {o m i j : Nat} (hi : i < m) : mixM D o m 0 i j = fwS D o i j := by
  unfold mixM; rw [if_pos (by omega)]
end
section
/-! PieceTable: addPiece, leastBetween, goOver -/
theorem ixm (f m o : Nat) : nI f * nI m + nI o = nI (m * f + o) := by rw [pk_mul, nI_add, Nat.mul_comm]
theorem mx_lt {m f o : Nat} (hf : f < m) (ho : o < m) : m * f + o < m * m := by
  have h1 : m * (f + 1) ≤ m * m := Nat.mul_le_mul_left m hf
  rw [Nat.mul_succ] at h1
  omega
theorem CHI_add {cs la be : Nat → Int32} {m : Nat} {x : Int32} {s : Nat} (h : CHI cs la be m) (hs : sgB (ldF x) = true) (hx : ldF x = nI s) (h1 : 33 ≤ s) (h2 : s ≤ 126) : CHI (upd cs m x) (upd la s (nI m)) (upd be m (la s)) (m + 1) := by
  obtain ⟨c1, c2, c3⟩ := h
  refine ⟨fun i hi => ?_, fun j j1 j2 => ?_, fun i hi => ?_⟩
  · by_cases e : i = m
    · subst e; rw [pk_us]; exact hs
    · rw [pk_un e]; exact c1 i (by omega)
  · show _ = if ldF (upd cs m x m) = nI j then nI m else prvF (upd cs m x) (nI j) m
    rw [pk_us, prvF_upd cs (nI j) x m m (Nat.le_refl _), hx]
    by_cases e : j = s
    · subst e; rw [pk_us, if_pos rfl]
    · rw [pk_un e, if_neg (fun q => e ((nI_eq (by omega) (by omega)).mp q).symm)]
      exact c2 j j1 j2
  · by_cases e : i = m
    · subst e; rw [pk_us, pk_us, prvF_upd cs _ x i i (Nat.le_refl _), hx]
      exact c2 s h1 h2
    · rw [pk_un e, pk_un e, prvF_upd cs _ x m i (by omega)]
      exact c3 i (by omega)
section PT2
variable {G : GT} {rest : va_W} {A : Nat → Nat} {C : CT} {stamp closed : Int32} {m Ln : Nat} {cs la be ll : Nat → Int32}
theorem c_addPiece {x : Int32} {s : Nat} (hC : CHI cs la be m) (hm : m < 120) (hs : sgB (ldF x) = true) (hx : ldF x = nI s) (h1 : 33 ≤ s) (h2 : s ≤ 126) : JV G Y_X4_addPiece 2 0 0 [.ref (A 0), .int x] (ptL G A C stamp closed m cs la be Ln ll ++ rest) (if idxF cs x m = -1 then ptL G A C stamp closed (m + 1) (upd cs m x) (upd la s (nI m)) (upd be m (la s)) Ln ll ++ rest else ptL G A C stamp closed m cs la be Ln ll ++ rest) := by
  refine JM.of [(0, .ref (A 0)), (1, .int x)] rfl rfl (by simp) (Nat.le_of_ble_eq_true rfl) (by decide +kernel) ?_
  refine j_iload_n (n := 1) dX4_addPiece_0 rfl rfl ?_
  refine j_callSe (n := 4) (Y1 := Y_X4_leadingSign) dX4_addPiece_1 m_X4_69 cy_X4_leadingSign cs_X4_leadingSign (c_leadingSign) rfl rfl rfl (by omega) (by omega) (by omega) (Nat.le_of_ble_eq_true rfl) ?_
  refine j_istore_n (n := 5) dX4_addPiece_4 rfl (by decide) ?_
  refine j_iload_n (n := 6) dX4_addPiece_5 rfl rfl ?_
  refine j_callSNe (n := 9) (Y1 := Y_X10_isSign) dX4_addPiece_6 m_X4_73 cy_X10_isSign cs_X10_isSign (c_isSign) rfl rfl rfl (by omega) (by omega) (by omega) (Nat.le_of_ble_eq_true rfl) ?_
  refine j_if_eq (n := 12) 30 dX4_addPiece_9 (by decide) rfl (fun c => ?_) (fun c => ?_)
  · rw [hs] at c; cases c
  · refine j_aload_n (n := 13) dX4_addPiece_12 rfl rfl ?_
    refine j_get (n := 16) 0 dX4_addPiece_13 f_X4_34 rfl rfl rfl ?_
    refine j_bipush (n := 18) (120) dX4_addPiece_16 rfl (by decide) ?_
    refine j_icmp_ge (n := 21) 30 dX4_addPiece_18 (by decide) rfl (fun c2 => ?_) (fun c2 => ?_)
    · exact absurd c2 (nI_ge (b := 120) hm (by omega))
    · refine j_aload_n (n := 22) dX4_addPiece_21 rfl rfl ?_
      refine j_iload_n (n := 23) dX4_addPiece_22 rfl rfl ?_
      refine j_callVe (n := 26) (Y1 := Y_X4_indexOf) 0 dX4_addPiece_23 m_X4_77 cy_X4_indexOf ci_X4_indexOf (c_indexOf hC (by omega)) rfl rfl rfl rfl rfl (by omega) (by omega) (by omega) (Nat.le_of_ble_eq_true rfl) ?_
      refine j_iconst (n := 27) (-1) dX4_addPiece_26 rfl (by decide) ?_
      refine j_icmp_eq (n := 30) 31 dX4_addPiece_27 (by decide) rfl (fun c3 => ?_) (fun c3 => ?_)
      · rw [if_pos c3]
        refine j_aload_n (n := 32) dX4_addPiece_31 rfl rfl ?_
        refine j_get (n := 35) 0 dX4_addPiece_32 f_X4_31 rfl rfl rfl ?_
        refine j_aload_n (n := 36) dX4_addPiece_35 rfl rfl ?_
        refine j_get (n := 39) 0 dX4_addPiece_36 f_X4_34 rfl rfl rfl ?_
        refine j_iload_n (n := 40) dX4_addPiece_39 rfl rfl ?_
        refine j_iast (n := 41) 4 m dX4_addPiece_40 rfl rfl rfl (by omega) (by omega) ?_
        refine j_aload_n (n := 42) dX4_addPiece_41 rfl rfl ?_
        refine j_get (n := 45) 0 dX4_addPiece_42 f_X4_40 rfl rfl rfl ?_
        refine j_aload_n (n := 46) dX4_addPiece_45 rfl rfl ?_
        refine j_get (n := 49) 0 dX4_addPiece_46 f_X4_34 rfl rfl rfl ?_
        refine j_aload_n (n := 50) dX4_addPiece_49 rfl rfl ?_
        refine j_get (n := 53) 0 dX4_addPiece_50 f_X4_37 rfl rfl rfl ?_
        refine j_iload_n (n := 54) dX4_addPiece_53 rfl rfl ?_
        refine j_iald (n := 55) 5 s dX4_addPiece_54 rfl rfl hx (by omega) (by omega) ?_
        refine j_iast (n := 56) 6 m dX4_addPiece_55 rfl rfl rfl (by omega) (by omega) ?_
        refine j_aload_n (n := 57) dX4_addPiece_56 rfl rfl ?_
        refine j_get (n := 60) 0 dX4_addPiece_57 f_X4_37 rfl rfl rfl ?_
        refine j_iload_n (n := 61) dX4_addPiece_60 rfl rfl ?_
        refine j_aload_n (n := 62) dX4_addPiece_61 rfl rfl ?_
        refine j_get (n := 65) 0 dX4_addPiece_62 f_X4_34 rfl rfl rfl ?_
        refine j_iast (n := 66) 5 s dX4_addPiece_65 rfl rfl hx (by omega) (by omega) ?_
        refine j_aload_n (n := 67) dX4_addPiece_66 rfl rfl ?_
        refine j_dup (n := 68) dX4_addPiece_67 rfl rfl ?_
        refine j_get (n := 71) 0 dX4_addPiece_68 f_X4_34 rfl rfl rfl ?_
        refine j_iconst (n := 72) (1) dX4_addPiece_71 rfl (by decide) ?_
        refine j_iadd (n := 73) dX4_addPiece_72 rfl ?_
        refine j_top (nI (m + 1)) (nI_1 m) ?_
        refine j_put (n := 76) 0 dX4_addPiece_73 f_X4_34 rfl rfl rfl (Nat.le_of_ble_eq_true rfl) rfl rfl ?_
        exact j_vret dX4_addPiece_76 rfl (by omega) (by omega) (rfl)
      · rw [if_neg c3]
        exact j_vret dX4_addPiece_30 rfl (by omega) (by omega) (rfl)
def lbF (m : Nat) (ll : Nat → Int32) (a b : Int32) : Int32 := if a < 0 ∨ b < 0 ∨ nI m ≤ a ∨ nI m ≤ b then 536870912 else ll (m * a.toNatClampNeg + b.toNatClampNeg)
theorem c_leastBetween {a b : Int32} (hm : m ≤ 120) (hLn : m * m ≤ Ln) (hL : Ln ≤ 14400) : JE G Y_X4_leastBetween 0 0 0 [.ref (A 0), .int a, .int b] (ptL G A C stamp closed m cs la be Ln ll ++ rest) (lbF m ll a b) (ptL G A C stamp closed m cs la be Ln ll ++ rest) := by
  refine JM.of [(0, .ref (A 0)), (1, .int a), (2, .int b)] rfl rfl (by simp) (Nat.le_of_ble_eq_true rfl) (by decide +kernel) ?_
  refine j_iload_n (n := 1) dX4_leastBetween_0 rfl rfl ?_
  refine j_if_lt (n := 4) 24 dX4_leastBetween_1 (by decide) rfl (fun c => ?_) (fun c => ?_)
  · refine j_ldc (n := 26) dX4_leastBetween_24 rfl k_X4_80 ?_
    exact j_iret dX4_leastBetween_26 rfl rfl (by omega) (by omega) (⟨by simp [lbF, c], rfl⟩)
  · refine j_iload_n (n := 5) dX4_leastBetween_4 rfl rfl ?_
    refine j_if_lt (n := 8) 24 dX4_leastBetween_5 (by decide) rfl (fun c2 => ?_) (fun c2 => ?_)
    · refine j_ldc (n := 26) dX4_leastBetween_24 rfl k_X4_80 ?_
      exact j_iret dX4_leastBetween_26 rfl rfl (by omega) (by omega) (⟨by simp [lbF, c2], rfl⟩)
    · refine j_iload_n (n := 9) dX4_leastBetween_8 rfl rfl ?_
      refine j_aload_n (n := 10) dX4_leastBetween_9 rfl rfl ?_
      refine j_get (n := 13) 0 dX4_leastBetween_10 f_X4_34 rfl rfl rfl ?_
      refine j_icmp_ge (n := 16) 24 dX4_leastBetween_13 (by decide) rfl (fun c3 => ?_) (fun c3 => ?_)
      · refine j_ldc (n := 26) dX4_leastBetween_24 rfl k_X4_80 ?_
        exact j_iret dX4_leastBetween_26 rfl rfl (by omega) (by omega) (⟨by simp [lbF, c3], rfl⟩)
      · refine j_iload_n (n := 17) dX4_leastBetween_16 rfl rfl ?_
        refine j_aload_n (n := 18) dX4_leastBetween_17 rfl rfl ?_
        refine j_get (n := 21) 0 dX4_leastBetween_18 f_X4_34 rfl rfl rfl ?_
        refine j_icmp_lt (n := 24) 27 dX4_leastBetween_21 (by decide) rfl (fun c4 => ?_) (fun c4 => ?_)
        · rcases ix3 a (show m < 2147483648 by omega) with h | h | ⟨i, hi, rfl⟩
          · exact absurd h c
          · exact absurd h c3
          · rcases ix3 b (show m < 2147483648 by omega) with h | h | ⟨j, hj, rfl⟩
            · exact absurd h c2
            · exact absurd c4 (Int32.not_lt.mpr h)
            · have hlt := mx_lt hi hj
              have hnn : ¬ (nI i < 0 ∨ nI j < 0 ∨ nI m ≤ nI i ∨ nI m ≤ nI j) := by
                rintro (q | q | q | q)
                · exact c q
                · exact c2 q
                · exact c3 q
                · exact Int32.not_lt.mpr q c4
              refine j_aload_n (n := 28) dX4_leastBetween_27 rfl rfl ?_
              refine j_get (n := 31) 0 dX4_leastBetween_28 f_X4_43 rfl rfl rfl ?_
              refine j_iload_n (n := 32) dX4_leastBetween_31 rfl rfl ?_
              refine j_aload_n (n := 33) dX4_leastBetween_32 rfl rfl ?_
              refine j_get (n := 36) 0 dX4_leastBetween_33 f_X4_34 rfl rfl rfl ?_
              refine j_imul (n := 37) dX4_leastBetween_36 rfl ?_
              refine j_iload_n (n := 38) dX4_leastBetween_37 rfl rfl ?_
              refine j_iadd (n := 39) dX4_leastBetween_38 rfl ?_
              refine j_iald (n := 40) 7 (m * i + j) dX4_leastBetween_39 rfl rfl (ixm i m j) (by omega) (by omega) ?_
              exact j_iret dX4_leastBetween_40 rfl rfl (by omega) (by omega) (⟨by unfold lbF; rw [if_neg hnn, nI_clamp (by omega), nI_clamp (by omega)], rfl⟩)
        · refine j_ldc (n := 26) dX4_leastBetween_24 rfl k_X4_80 ?_
          exact j_iret dX4_leastBetween_26 rfl rfl (by omega) (by omega) (⟨by simp [lbF, Int32.not_lt.mp c4], rfl⟩)
theorem go_in {o f v : Nat} {D : OM} {post : OT} (hm : m ≤ 120) (ho : o < m) (hf : f < m) (hLn : m * m ≤ Ln) (hL : Ln ≤ 14400) (hd : ∀ i, D i i = some 0) (hb : ∀ i j v, D i j = some v → v ≤ 100000) (hv : D f o = some v)
    (kout : ∀ ll' : Nat → Int32, MX 536870912 m m ll' (mixM D o (f + 1) 0) → JJ G Y_X4_goOver 0 0 0 post 7 [(0, .ref (A 0)), (1, .int (nI o)), (2, .int (nI m)), (3, .int (nI (f + 1)))] [] (ptL G A C stamp closed m cs la be Ln ll' ++ rest) 0 0) :
    ∀ (k t : Nat), t + k = m → ∀ ll : Nat → Int32, MX 536870912 m m ll (mixM D o f t) → JJ G Y_X4_goOver 0 0 0 post 39 [(0, .ref (A 0)), (1, .int (nI o)), (2, .int (nI m)), (3, .int (nI f)), (4, .int (nI v)), (5, .int (nI t))] [] (ptL G A C stamp closed m cs la be Ln ll ++ rest) 0 0 := by
  intro k
  induction k with
  | zero =>
    intro t ht ll hX
    obtain rfl : t = m := by omega
    refine j_iload (n := 41) dX4_goOver_39 rfl rfl ?_
    refine j_iload_n (n := 42) dX4_goOver_41 rfl rfl ?_
    refine j_icmp_ge (n := 45) 96 dX4_goOver_42 (by decide) rfl (fun c => ?_) (fun c => ?_)
    · refine j_iinc (n := 99) (nI (f + 1)) dX4_goOver_96 rfl rfl (nI_inc f) (by decide) ?_
      refine j_goto 7 dX4_goOver_99 (by decide) ?_
      refine j_keep [0, 1, 2, 3] rfl ?_
      exact kout ll (hX.congr (fun i j hi hj => mixM_next hj))
    · exact absurd (nI_le (Nat.le_refl t) (by omega)) c
  | succ k ih =>
    intro t ht ll hX
    have htm : t < m := by omega
    have l1 := mx_lt ho htm
    have l2 := mx_lt hf htm
    have e1 : ll (m * o + t) = ec 536870912 (D o t) := by rw [hX o t ho htm, mixM_row (hd o)]
    have e2 : ll (m * f + t) = ec 536870912 (D f t) := by rw [hX f t hf htm, mixM_at]
    have hvb := hb f o v hv
    refine j_iload (n := 41) dX4_goOver_39 rfl rfl ?_
    refine j_iload_n (n := 42) dX4_goOver_41 rfl rfl ?_
    refine j_icmp_ge (n := 45) 96 dX4_goOver_42 (by decide) rfl (fun c => ?_) (fun c => ?_)
    · exact absurd c (nI_ge htm (by omega))
    · refine j_iload (n := 47) dX4_goOver_45 rfl rfl ?_
      refine j_aload_n (n := 48) dX4_goOver_47 rfl rfl ?_
      refine j_get (n := 51) 0 dX4_goOver_48 f_X4_43 rfl rfl rfl ?_
      refine j_iload_n (n := 52) dX4_goOver_51 rfl rfl ?_
      refine j_iload_n (n := 53) dX4_goOver_52 rfl rfl ?_
      refine j_imul (n := 54) dX4_goOver_53 rfl ?_
      refine j_iload (n := 56) dX4_goOver_54 rfl rfl ?_
      refine j_iadd (n := 57) dX4_goOver_56 rfl ?_
      refine j_iald (n := 58) 7 (m * o + t) dX4_goOver_57 rfl rfl (ixm o m t) (by omega) (by omega) ?_
      refine j_iadd (n := 59) dX4_goOver_58 rfl ?_
      refine j_istore (n := 61) dX4_goOver_59 rfl (by decide) ?_
      refine j_iload (n := 63) dX4_goOver_61 rfl rfl ?_
      refine j_aload_n (n := 64) dX4_goOver_63 rfl rfl ?_
      refine j_get (n := 67) 0 dX4_goOver_64 f_X4_43 rfl rfl rfl ?_
      refine j_iload_n (n := 68) dX4_goOver_67 rfl rfl ?_
      refine j_iload_n (n := 69) dX4_goOver_68 rfl rfl ?_
      refine j_imul (n := 70) dX4_goOver_69 rfl ?_
      refine j_iload (n := 72) dX4_goOver_70 rfl rfl ?_
      refine j_iadd (n := 73) dX4_goOver_72 rfl ?_
      refine j_iald (n := 74) 7 (m * f + t) dX4_goOver_73 rfl rfl (ixm f m t) (by omega) (by omega) ?_
      rw [e1, e2]
      cases d1 : D o t with
      | none =>
        have hfw : fwS D o f t = D f t := by unfold fwS; rw [hv, d1]; exact oMin_none _
        have hx : nI v + ec 536870912 none = nI (v + 536870912) := nI_add v 536870912
        rw [hx]
        refine j_icmp_ge (n := 77) 90 dX4_goOver_74 (by decide) rfl (fun c2 => ?_) (fun c2 => ?_)
        · refine j_iinc (n := 93) (nI (t + 1)) dX4_goOver_90 rfl rfl (nI_inc t) (by decide) ?_
          refine j_goto 39 dX4_goOver_93 (by decide) ?_
          refine j_keep [0, 1, 2, 3, 4, 5] rfl ?_
          exact ih (t + 1) (by omega) ll (hX.congr (fun i j _ _ => (mixM_same hfw).symm))
        · refine absurd ?_ c2
          cases d2 : D f t with
          | none => exact nI_le (by omega) (by omega)
          | some w => have := hb f t w d2; exact nI_le (by omega) (by omega)
      | some u =>
        have hub := hb o t u d1
        have hx : nI v + ec 536870912 (some u) = nI (v + u) := nI_add v u
        rw [hx]
        refine j_icmp_ge (n := 77) 90 dX4_goOver_74 (by decide) rfl (fun c2 => ?_) (fun c2 => ?_)
        · have hfw : fwS D o f t = D f t := by
            unfold fwS; rw [hv, d1]
            cases d2 : D f t with
            | none =>
              rw [d2] at c2
              exact absurd c2 (nI_ge (show v + u < 536870912 by omega) (by omega))
            | some w =>
              rw [d2] at c2
              have hwb := hb f t w d2
              have : w ≤ v + u := (nI_leI (by omega) (by omega)).mp c2
              show some (min w (v + u)) = some w
              rw [Nat.min_eq_left this]
          refine j_iinc (n := 93) (nI (t + 1)) dX4_goOver_90 rfl rfl (nI_inc t) (by decide) ?_
          refine j_goto 39 dX4_goOver_93 (by decide) ?_
          refine j_keep [0, 1, 2, 3, 4, 5] rfl ?_
          exact ih (t + 1) (by omega) ll (hX.congr (fun i j _ _ => (mixM_same hfw).symm))
        · have hfw : fwS D o f t = some (v + u) := by
            unfold fwS; rw [hv, d1]
            cases d2 : D f t with
            | none => rfl
            | some w =>
              rw [d2] at c2
              have hwb := hb f t w d2
              have : v + u < w := Nat.lt_of_not_le (fun q => c2 (nI_le q (by omega)))
              show some (min w (v + u)) = some (v + u)
              rw [Nat.min_eq_right (by omega)]
          refine j_aload_n (n := 78) dX4_goOver_77 rfl rfl ?_
          refine j_get (n := 81) 0 dX4_goOver_78 f_X4_43 rfl rfl rfl ?_
          refine j_iload_n (n := 82) dX4_goOver_81 rfl rfl ?_
          refine j_iload_n (n := 83) dX4_goOver_82 rfl rfl ?_
          refine j_imul (n := 84) dX4_goOver_83 rfl ?_
          refine j_iload (n := 86) dX4_goOver_84 rfl rfl ?_
          refine j_iadd (n := 87) dX4_goOver_86 rfl ?_
          refine j_iload (n := 89) dX4_goOver_87 rfl rfl ?_
          refine j_iast (n := 90) 7 (m * f + t) dX4_goOver_89 rfl rfl (ixm f m t) (by omega) (by omega) ?_
          refine j_iinc (n := 93) (nI (t + 1)) dX4_goOver_90 rfl rfl (nI_inc t) (by decide) ?_
          refine j_goto 39 dX4_goOver_93 (by decide) ?_
          refine j_keep [0, 1, 2, 3, 4, 5] rfl ?_
          refine j_ws (ws' := ptL G A C stamp closed m cs la be Ln (upd ll (m * f + t) (nI (v + u))) ++ rest) rfl ?_
          refine ih (t + 1) (by omega) _ ((hX.put (v := some (v + u)) (Nat.le_refl _) htm rfl).congr (fun i j _ _ => ?_))
          rw [mixM_s, hfw]
theorem go_out {o : Nat} {D : OM} (hm : m ≤ 120) (ho : o < m) (hLn : m * m ≤ Ln) (hL : Ln ≤ 14400) (hd : ∀ i, D i i = some 0) (hb : ∀ i j v, D i j = some v → v ≤ 100000) :
    ∀ (k f : Nat), f + k = m → ∀ ll : Nat → Int32, MX 536870912 m m ll (mixM D o f 0) → JJ G Y_X4_goOver 0 0 0 (Qv (fun w => ∃ ll' : Nat → Int32, w = ptL G A C stamp closed m cs la be Ln ll' ++ rest ∧ MX 536870912 m m ll' (fwS D o))) 7 [(0, .ref (A 0)), (1, .int (nI o)), (2, .int (nI m)), (3, .int (nI f))] [] (ptL G A C stamp closed m cs la be Ln ll ++ rest) 0 0 := by
  intro k
  induction k with
  | zero =>
    intro f hf ll hX
    obtain rfl : f = m := by omega
    refine j_iload_n (n := 8) dX4_goOver_7 rfl rfl ?_
    refine j_iload_n (n := 9) dX4_goOver_8 rfl rfl ?_
    refine j_icmp_ge (n := 12) 102 dX4_goOver_9 (by decide) rfl (fun c => ?_) (fun c => ?_)
    · exact j_vret dX4_goOver_102 rfl (by omega) (by omega) (⟨ll, rfl, hX.congr (fun i j hi _ => mixM_end hi)⟩)
    · exact absurd (nI_le (Nat.le_refl f) (by omega)) c
  | succ k ih =>
    intro f hf ll hX
    have hfm : f < m := by omega
    have l1 := mx_lt hfm ho
    have e1 : ll (m * f + o) = ec 536870912 (D f o) := by rw [hX f o hfm ho, mixM_col (hd o)]
    have knext : ∀ ll' : Nat → Int32, MX 536870912 m m ll' (mixM D o (f + 1) 0) → JJ G Y_X4_goOver 0 0 0 (Qv (fun w => ∃ ll' : Nat → Int32, w = ptL G A C stamp closed m cs la be Ln ll' ++ rest ∧ MX 536870912 m m ll' (fwS D o))) 7 [(0, .ref (A 0)), (1, .int (nI o)), (2, .int (nI m)), (3, .int (nI (f + 1)))] [] (ptL G A C stamp closed m cs la be Ln ll' ++ rest) 0 0 := fun ll' h => ih (f + 1) (by omega) ll' h
    refine j_iload_n (n := 8) dX4_goOver_7 rfl rfl ?_
    refine j_iload_n (n := 9) dX4_goOver_8 rfl rfl ?_
    refine j_icmp_ge (n := 12) 102 dX4_goOver_9 (by decide) rfl (fun c => ?_) (fun c => ?_)
    · exact absurd c (nI_ge hfm (by omega))
    · refine j_aload_n (n := 13) dX4_goOver_12 rfl rfl ?_
      refine j_get (n := 16) 0 dX4_goOver_13 f_X4_43 rfl rfl rfl ?_
      refine j_iload_n (n := 17) dX4_goOver_16 rfl rfl ?_
      refine j_iload_n (n := 18) dX4_goOver_17 rfl rfl ?_
      refine j_imul (n := 19) dX4_goOver_18 rfl ?_
      refine j_iload_n (n := 20) dX4_goOver_19 rfl rfl ?_
      refine j_iadd (n := 21) dX4_goOver_20 rfl ?_
      refine j_iald (n := 22) 7 (m * f + o) dX4_goOver_21 rfl rfl (ixm f m o) (by omega) (by omega) ?_
      rw [e1]
      refine j_istore (n := 24) dX4_goOver_22 rfl (by decide) ?_
      refine j_iload (n := 26) dX4_goOver_24 rfl rfl ?_
      refine j_ldc (n := 28) dX4_goOver_26 rfl k_X4_80 ?_
      refine j_icmp_ge (n := 31) 96 dX4_goOver_28 (by decide) rfl (fun c2 => ?_) (fun c2 => ?_)
      · have hn : D f o = none := by
          cases d1 : D f o with
          | none => rfl
          | some v =>
            rw [d1] at c2
            have := hb f o v d1
            exact absurd c2 (nI_ge (b := 536870912) (show v < 536870912 by omega) (by omega))
        refine j_iinc (n := 99) (nI (f + 1)) dX4_goOver_96 rfl rfl (nI_inc f) (by decide) ?_
        refine j_goto 7 dX4_goOver_99 (by decide) ?_
        refine j_keep [0, 1, 2, 3] rfl ?_
        exact knext ll (hX.congr (fun i j _ _ => mixM_skip (fun t => fwS_skip hn)))
      · obtain ⟨v, hv⟩ : ∃ v, D f o = some v := by
          cases d1 : D f o with
          | none => rw [d1] at c2; exact absurd (Int32.le_refl _) c2
          | some v => exact ⟨v, rfl⟩
        rw [hv]
        refine j_iload_n (n := 32) dX4_goOver_31 rfl rfl ?_
        refine j_iload_n (n := 33) dX4_goOver_32 rfl rfl ?_
        refine j_icmp_eq (n := 36) 96 dX4_goOver_33 (by decide) rfl (fun c3 => ?_) (fun c3 => ?_)
        · have hfo : f = o := (nI_eq (by omega) (by omega)).mp c3
          subst hfo
          refine j_iinc (n := 99) (nI (f + 1)) dX4_goOver_96 rfl rfl (nI_inc f) (by decide) ?_
          refine j_goto 7 dX4_goOver_99 (by decide) ?_
          refine j_keep [0, 1, 2, 3] rfl ?_
          exact knext ll (hX.congr (fun i j _ _ => mixM_skip (fun t => fwS_row (hd f))))
        · refine j_iconst (n := 37) (0) dX4_goOver_36 rfl (by decide) ?_
          refine j_istore (n := 39) dX4_goOver_37 rfl (by decide) ?_
          exact go_in hm ho hfm hLn hL hd hb hv knext m 0 (by omega) ll hX
theorem c_goOver {o : Nat} {D : OM} (hm : m ≤ 120) (ho : o < m) (hLn : m * m ≤ Ln) (hL : Ln ≤ 14400) (hd : ∀ i, D i i = some 0) (hb : ∀ i j v, D i j = some v → v ≤ 100000) (hX : MX 536870912 m m ll D) : JM G Y_X4_goOver 0 0 0 [.ref (A 0), .int (nI o)] (ptL G A C stamp closed m cs la be Ln ll ++ rest) (Qv (fun w => ∃ ll' : Nat → Int32, w = ptL G A C stamp closed m cs la be Ln ll' ++ rest ∧ MX 536870912 m m ll' (fwS D o))) := by
  refine JM.of [(0, .ref (A 0)), (1, .int (nI o))] rfl rfl (by simp) (Nat.le_of_ble_eq_true rfl) (by decide +kernel) ?_
  refine j_aload_n (n := 1) dX4_goOver_0 rfl rfl ?_
  refine j_get (n := 4) 0 dX4_goOver_1 f_X4_34 rfl rfl rfl ?_
  refine j_istore_n (n := 5) dX4_goOver_4 rfl (by decide) ?_
  refine j_iconst (n := 6) (0) dX4_goOver_5 rfl (by decide) ?_
  refine j_istore_n (n := 7) dX4_goOver_6 rfl (by decide) ?_
  exact go_out hm ho hLn hL hd hb m 0 (by omega) ll (hX.congr (fun i j _ _ => by rw [mixM_0]))
end PT2
end
section
/-! nodes and first matrix of the confusions; PieceTable: writeSteps, closeChains, countPieces, the constructor -/
abbrev NQ : Type := (Nat → Int32) × Nat
def ndAdd (x : Int32) (q : NQ) : NQ := if idxF q.1 x q.2 = -1 then (upd q.1 q.2 x, q.2 + 1) else q
def ndS (C : CT) : Nat → NQ
  | 0 => (fun _ => 0, 0)
  | k + 1 => ndAdd (C.2.2.1 k) (ndAdd (C.2.1 k) (ndS C k))
def nd (C : CT) : NQ := ndS C C.1
def iN (q : NQ) (x : Int32) : Nat := (idxF q.1 x q.2).toNatClampNeg
def d0 : OM := fun i j => if i = j then some 0 else none
def dS (C : CT) (q : NQ) : Nat → OM
  | 0 => d0
  | k + 1 => up2 (up2 (dS C q k) (iN q (C.2.1 k)) (iN q (C.2.2.1 k)) (some (C.2.2.2 k).toNatClampNeg)) (iN q (C.2.2.1 k)) (iN q (C.2.1 k)) (some (C.2.2.2 k).toNatClampNeg)
def DD (C : CT) : OM := fwN (dS C (nd C) C.1) (nd C).2
def CTok (C : CT) : Prop := C.1 ≤ 60 ∧ ∀ k, k < C.1 → pcB (C.2.1 k) = true ∧ pcB (C.2.2.1 k) = true ∧ ¬ C.2.1 k = C.2.2.1 k ∧ ∃ c : Nat, c ≤ 20 ∧ C.2.2.2 k = nI c
theorem idxF_congr {cs cs' : Nat → Int32} {x : Int32} : ∀ m : Nat, (∀ i, i < m → cs i = cs' i) → idxF cs x m = idxF cs' x m := by
  intro m
  induction m with
  | zero => intro _; rfl
  | succ m ih =>
    intro h
    unfold idxF
    rw [h m (by omega), ih (fun i hi => h i (by omega))]
def ndIn (x : Int32) (q : NQ) : Prop := ∃ i, i < q.2 ∧ q.1 i = x
theorem ndIn_idx {x : Int32} {q : NQ} (h : ndIn x q) : ∃ j, j < q.2 ∧ idxF q.1 x q.2 = nI j ∧ q.1 j = x := by
  rcases idxF_cases q.1 x q.2 with ⟨-, h2⟩ | h2
  · obtain ⟨i, hi, e⟩ := h; exact absurd e (h2 i hi)
  · exact h2
theorem ndAdd_in (x : Int32) (q : NQ) (hq : q.2 < 2147483648) : ndIn x (ndAdd x q) := by
  unfold ndAdd
  split
  · exact ⟨q.2, by dsimp only; omega, pk_us⟩
  · next h =>
    rcases idxF_cases q.1 x q.2 with ⟨h1, -⟩ | ⟨j, hj, -, e⟩
    · exact absurd h1 h
    · exact ⟨j, hj, e⟩
theorem ndAdd_keep {x y : Int32} {q : NQ} (h : ndIn y q) : ndIn y (ndAdd x q) := by
  unfold ndAdd
  split
  · obtain ⟨i, hi, e⟩ := h
    exact ⟨i, by dsimp only; omega, by dsimp only; rw [pk_un (by omega)]; exact e⟩
  · exact h
theorem ndAdd_le (x : Int32) (q : NQ) : q.2 ≤ (ndAdd x q).2 ∧ (ndAdd x q).2 ≤ q.2 + 1 := by
  unfold ndAdd; split
  · exact ⟨by dsimp only; omega, by dsimp only; omega⟩
  · omega
theorem ndS_le (C : CT) (k : Nat) : (ndS C k).2 ≤ 2 * k := by
  induction k with
  | zero => exact Nat.le_refl _
  | succ k ih =>
    have h1 := ndAdd_le (C.2.1 k) (ndS C k)
    have h2 := ndAdd_le (C.2.2.1 k) (ndAdd (C.2.1 k) (ndS C k))
    show (ndAdd (C.2.2.1 k) (ndAdd (C.2.1 k) (ndS C k))).2 ≤ _
    omega
theorem ndS_in (C : CT) (k : Nat) (hk : k ≤ 60) : ∀ j, j < k → ndIn (C.2.1 j) (ndS C k) ∧ ndIn (C.2.2.1 j) (ndS C k) := by
  induction k with
  | zero => intro j h; omega
  | succ k ih =>
    intro j hj
    have hl := ndS_le C k
    have h1 := ndAdd_le (C.2.1 k) (ndS C k)
    show ndIn _ (ndAdd (C.2.2.1 k) (ndAdd (C.2.1 k) (ndS C k))) ∧ ndIn _ (ndAdd (C.2.2.1 k) (ndAdd (C.2.1 k) (ndS C k)))
    rcases Nat.lt_or_ge j k with q | q
    · have := ih (by omega) j q
      exact ⟨ndAdd_keep (ndAdd_keep this.1), ndAdd_keep (ndAdd_keep this.2)⟩
    · obtain rfl : j = k := by omega
      exact ⟨ndAdd_keep (ndAdd_in _ _ (by omega)), ndAdd_in _ _ (by omega)⟩
theorem nd_le {C : CT} (h : CTok C) : (nd C).2 ≤ 120 := by
  have := ndS_le C C.1
  have h1 := h.1
  unfold nd
  omega
theorem iN_lt {q : NQ} {x : Int32} (hq : q.2 ≤ 120) (h : ndIn x q) : iN q x < q.2 ∧ q.1 (iN q x) = x ∧ idxF q.1 x q.2 = nI (iN q x) := by
  obtain ⟨j, hj, e, e2⟩ := ndIn_idx h
  have : iN q x = j := by unfold iN; rw [e, nI_clamp (by omega)]
  rw [this]
  exact ⟨hj, e2, e⟩
theorem dS_diag {C : CT} (h : CTok C) : ∀ k, k ≤ C.1 → ∀ i, dS C (nd C) k i i = some 0 := by
  intro k
  induction k with
  | zero => intro _ i; show (if i = i then some 0 else none) = _; rw [if_pos rfl]
  | succ k ih =>
    intro hk i
    have h0 := h.1
    have hl := nd_le h
    obtain ⟨g1, g2⟩ := ndS_in C C.1 h.1 k (by omega)
    have i1 := (iN_lt (q := nd C) hl g1).2.1
    have i2 := (iN_lt (q := nd C) hl g2).2.1
    have hne : ¬ iN (nd C) (C.2.1 k) = iN (nd C) (C.2.2.1 k) := by
      intro e
      rw [e, i2] at i1
      exact (h.2 k (by omega)).2.2.1 i1.symm
    show up2 (up2 (dS C (nd C) k) _ _ _) _ _ _ i i = _
    unfold up2
    rw [if_neg (by intro q; exact hne (q.2.symm.trans q.1)), if_neg (by intro q; exact hne (q.1.symm.trans q.2))]
    exact ih (by omega) i
theorem dS_le {C : CT} (h : CTok C) : ∀ k, k ≤ C.1 → ∀ i j v, dS C (nd C) k i j = some v → v ≤ 20 := by
  intro k
  induction k with
  | zero =>
    intro _ i j v e
    have e : (if i = j then some 0 else none) = some v := e
    split at e
    · cases e; omega
    · cases e
  | succ k ih =>
    intro hk i j v e
    obtain ⟨-, -, -, c, hc, ec⟩ := h.2 k (by omega)
    have hcc : (C.2.2.2 k).toNatClampNeg = c := by rw [ec, nI_clamp (by omega)]
    have e : up2 (up2 (dS C (nd C) k) _ _ (some (C.2.2.2 k).toNatClampNeg)) _ _ (some (C.2.2.2 k).toNatClampNeg) i j = some v := e
    unfold up2 at e
    rw [hcc] at e
    split at e
    · cases e; exact hc
    · split at e
      · cases e; exact hc
      · exact ih (by omega) i j v e
theorem fw_ok {C : CT} (h : CTok C) {k : Nat} (hk : k ≤ (nd C).2) : (∀ i, fwN (dS C (nd C) C.1) k i i = some 0) ∧ ∀ i j v, fwN (dS C (nd C) C.1) k i j = some v → v ≤ 2420 :=
  ⟨fun i => fwN_diag (dS_diag h C.1 (Nat.le_refl _) i) k, fun _ _ _ e => fw_le (dS_diag h C.1 (Nat.le_refl _)) (dS_le h C.1 (Nat.le_refl _)) (Nat.le_trans hk (nd_le h)) e⟩
def newLn (m Ln : Nat) : Nat := if Ln < m * m then max (m * m) (min (2 * Ln) 14400) else Ln
/-- what is true of a closed table -/
def CLO (C : CT) (m : Nat) (cs la be : Nat → Int32) (Ln : Nat) (ll : Nat → Int32) : Prop := m = (nd C).2 ∧ (∀ i, i < m → cs i = (nd C).1 i) ∧ CHI cs la be m ∧ m * m ≤ Ln ∧ MX 536870912 m m ll (DD C)
theorem pc_lead {x : Int32} (h : pcB x = true) : ∃ s : Nat, ldF x = nI s ∧ 33 ≤ s ∧ s ≤ 126 := by
  unfold pcB at h
  unfold ldF
  by_cases hx : 255 < x
  · rw [if_pos hx]
    have h1 : sgB x = false := sgB_f2 (Int32.lt_trans (by decide) hx)
    rw [h1] at h
    simp at h
    obtain ⟨j, e, a, b⟩ := sg_nat h.1
    exact ⟨j, e, a, b⟩
  · rw [if_neg hx]
    by_cases hs : sgB x = true
    · exact sg_nat hs
    · have hs' : sgB x = false := by simpa using hs
      rw [hs'] at h
      simp at h
      obtain ⟨j, e, a, b⟩ := sg_nat h.1
      exfalso
      apply hx
      have e1 : (x >>> ((8 : Int32) &&& 31)).toInt = x.toInt >>> 8 := pk_shr x (8 &&& 31) 8 (by decide)
      have e0 : x >>> (8 : Int32) = x >>> ((8 : Int32) &&& 31) := by rfl
      rw [show x >>> ((8 : Int32) &&& 31) = nI j from e, nI_toInt (by omega)] at e1
      have e2 : x.toInt >>> 8 = x.toInt / 256 := by rw [Int.shiftRight_eq_div_pow]; rfl
      rw [e2] at e1
      apply Int32.lt_iff_toInt_lt.mpr
      show (255 : Int) < x.toInt
      omega
theorem jw_move {G : GT} {ws : va_W} {H : Heap} {y : Nat × va_E} (k : Nat) (h : JW G (ws ++ [y]) H) : JW G (ws.set k y) H := by
  have key : ∀ (i : Nat) (q : Nat × va_E), (ws.set k y)[i]? = some q → (i ≠ k ∧ ws[i]? = some q ∧ (ws ++ [y])[i]? = some q) ∨ (i = k ∧ q = y ∧ (ws ++ [y])[ws.length]? = some q ∧ i < ws.length) := by
    intro i q hq
    by_cases e : i = k
    · subst e
      have hl : i < ws.length := by
        have := (List.getElem?_eq_some_iff.mp hq).1
        simpa using this
      rw [List.getElem?_set_self hl] at hq
      cases hq
      exact Or.inr ⟨rfl, rfl, gs_last, hl⟩
    · rw [List.getElem?_set_ne (Ne.symm e)] at hq
      exact Or.inl ⟨e, hq, gs_app hq⟩
  refine ⟨fun i q hq => ?_, fun i j p q hp hq e => ?_, fun i q hq => ?_⟩
  · rcases key i q hq with ⟨-, -, h2⟩ | ⟨-, -, h2, -⟩
    · exact h.1 i q h2
    · exact h.1 _ q h2
  · rcases key i p hp with ⟨a1, a2, a3⟩ | ⟨a1, a2, a3, a4⟩ <;> rcases key j q hq with ⟨b1, b2, b3⟩ | ⟨b1, b2, b3, b4⟩
    · exact h.2.1 i j p q a3 b3 e
    · have := h.2.1 i ws.length p q a3 b3 e
      have := gs_lt a2
      omega
    · have := h.2.1 ws.length j p q a3 b3 e
      have := gs_lt b2
      omega
    · omega
  · rcases key i q hq with ⟨-, -, h2⟩ | ⟨-, -, h2, -⟩
    · exact h.2.2 i q h2
    · exact h.2.2 _ q h2
section PT3
variable {G : GT} {rest : va_W} {A : Nat → Nat} {C : CT} {stamp closed : Int32} {m Ln : Nat} {cs la be ll : Nat → Int32}
theorem ws_loop2 {A' : Nat → Nat} {Ln' : Nat} (hok : CTok C) (hm : m = (nd C).2) (hcs : ∀ i, i < m → cs i = (nd C).1 i) (hC : CHI cs la be m) (hLn : m * m ≤ Ln') (hL : Ln' ≤ 14400) {mc ms kc ks : Nat} {post : OT} (hkc : kc ≤ mc) (hks : ks ≤ ms) (hp : ∀ ll' : Nat → Int32, MX 536870912 m m ll' (dS C (nd C) C.1) → post none (ptL G A' C stamp closed m cs la be Ln' ll' ++ rest)) :
    ∀ (k i : Nat), i + k = C.1 → ∀ ll : Nat → Int32, MX 536870912 m m ll (dS C (nd C) i) → JJ G Y_X4_writeSteps 2 mc ms post 80 [(0, .ref (A' 0)), (1, .int (nI m)), (2, .int (nI i))] [] (ptL G A' C stamp closed m cs la be Ln' ll ++ rest) kc ks := by
  have hm120 : m ≤ 120 := by rw [hm]; exact nd_le hok
  have hn60 := hok.1
  intro k
  induction k with
  | zero =>
    intro i hi ll hX
    obtain rfl : i = C.1 := by omega
    refine j_iload_n (n := 81) dX4_writeSteps_80 rfl rfl ?_
    refine j_aload_n (n := 82) dX4_writeSteps_81 rfl rfl ?_
    refine j_get (n := 85) 0 dX4_writeSteps_82 f_X4_21 rfl rfl rfl ?_
    refine j_icmp_ge (n := 88) 162 dX4_writeSteps_85 (by decide) rfl (fun c => ?_) (fun c => ?_)
    · intro p e s m1 args below meth c1 H locs ls CC hS hW hl
      refine W.widen hkc hks ?_
      exact W.vret (hlocks := CC.2.2.2.2.1) CC.1 CC.2.1 (CC.2.2.2.1.trans rfl) (fun t ht hw => ⟨⟨_, _, rfl, hp ll hX, by rw [ht]; exact hW⟩, hS.F ht⟩) hS.2.2 dX4_writeSteps_162
    · exact absurd (nI_le (Nat.le_refl C.1) (by omega)) c
  | succ k ih =>
    intro i hi ll hX
    obtain ⟨-, -, hne, c0, hc0, ec0⟩ := hok.2 i (by omega)
    obtain ⟨g1, g2⟩ := ndS_in C C.1 hok.1 i (by omega)
    obtain ⟨p1, p2, p3⟩ := iN_lt (q := nd C) (nd_le hok) g1
    obtain ⟨q1, q2, q3⟩ := iN_lt (q := nd C) (nd_le hok) g2
    have ex : idxF cs (C.2.1 i) m = nI (iN (nd C) (C.2.1 i)) := by rw [idxF_congr m hcs, hm]; exact p3
    have ey : idxF cs (C.2.2.1 i) m = nI (iN (nd C) (C.2.2.1 i)) := by rw [idxF_congr m hcs, hm]; exact q3
    have hst : dS C (nd C) (i + 1) = up2 (up2 (dS C (nd C) i) (iN (nd C) (C.2.1 i)) (iN (nd C) (C.2.2.1 i)) (some (C.2.2.2 i).toNatClampNeg)) (iN (nd C) (C.2.2.1 i)) (iN (nd C) (C.2.1 i)) (some (C.2.2.2 i).toNatClampNeg) := rfl
    have ih := ih (i + 1) (by omega)
    rw [hst] at ih
    generalize iN (nd C) (C.2.1 i) = a at p1 p2 p3 ex ih
    generalize iN (nd C) (C.2.2.1 i) = b at q1 q2 q3 ey ih
    rw [← hm] at p1 q1
    have lab := mx_lt p1 q1
    have lba := mx_lt q1 p1
    have hcv : C.2.2.2 i = ec 536870912 (some (C.2.2.2 i).toNatClampNeg) := by
      rw [ec0, nI_clamp (by omega)]; rfl
    refine j_iload_n (n := 81) dX4_writeSteps_80 rfl rfl ?_
    refine j_aload_n (n := 82) dX4_writeSteps_81 rfl rfl ?_
    refine j_get (n := 85) 0 dX4_writeSteps_82 f_X4_21 rfl rfl rfl ?_
    refine j_icmp_ge (n := 88) 162 dX4_writeSteps_85 (by decide) rfl (fun c => ?_) (fun c => ?_)
    · exact absurd c (nI_ge (show i < C.1 by omega) (by omega))
    · refine j_aload_n (n := 89) dX4_writeSteps_88 rfl rfl ?_
      refine j_aload_n (n := 90) dX4_writeSteps_89 rfl rfl ?_
      refine j_get (n := 93) 0 dX4_writeSteps_90 f_X4_9 rfl rfl rfl ?_
      refine j_iload_n (n := 94) dX4_writeSteps_93 rfl rfl ?_
      refine j_iald (n := 95) 1 i dX4_writeSteps_94 rfl rfl rfl (by omega) (by omega) ?_
      refine j_callVe (n := 98) (Y1 := Y_X4_indexOf) 0 dX4_writeSteps_95 m_X4_77 cy_X4_indexOf ci_X4_indexOf (c_indexOf hC hm120) rfl rfl rfl rfl rfl (by omega) (by omega) (by omega) (Nat.le_of_ble_eq_true rfl) ?_
      rw [ex]
      refine j_istore_n (n := 99) dX4_writeSteps_98 rfl (by decide) ?_
      refine j_aload_n (n := 100) dX4_writeSteps_99 rfl rfl ?_
      refine j_aload_n (n := 101) dX4_writeSteps_100 rfl rfl ?_
      refine j_get (n := 104) 0 dX4_writeSteps_101 f_X4_15 rfl rfl rfl ?_
      refine j_iload_n (n := 105) dX4_writeSteps_104 rfl rfl ?_
      refine j_iald (n := 106) 2 i dX4_writeSteps_105 rfl rfl rfl (by omega) (by omega) ?_
      refine j_callVe (n := 109) (Y1 := Y_X4_indexOf) 0 dX4_writeSteps_106 m_X4_77 cy_X4_indexOf ci_X4_indexOf (c_indexOf hC hm120) rfl rfl rfl rfl rfl (by omega) (by omega) (by omega) (Nat.le_of_ble_eq_true rfl) ?_
      rw [ey]
      refine j_istore (n := 111) dX4_writeSteps_109 rfl (by decide) ?_
      refine j_iload_n (n := 112) dX4_writeSteps_111 rfl rfl ?_
      refine j_iconst (n := 113) (-1) dX4_writeSteps_112 rfl (by decide) ?_
      refine j_icmp_eq (n := 116) 156 dX4_writeSteps_113 (by decide) rfl (fun c2 => ?_) (fun c2 => ?_)
      · exact absurd c2 (nI_nm1 (by omega))
      · refine j_iload (n := 118) dX4_writeSteps_116 rfl rfl ?_
        refine j_iconst (n := 119) (-1) dX4_writeSteps_118 rfl (by decide) ?_
        refine j_icmp_eq (n := 122) 156 dX4_writeSteps_119 (by decide) rfl (fun c3 => ?_) (fun c3 => ?_)
        · exact absurd c3 (nI_nm1 (by omega))
        · refine j_aload_n (n := 123) dX4_writeSteps_122 rfl rfl ?_
          refine j_get (n := 126) 0 dX4_writeSteps_123 f_X4_43 rfl rfl rfl ?_
          refine j_iload_n (n := 127) dX4_writeSteps_126 rfl rfl ?_
          refine j_iload_n (n := 128) dX4_writeSteps_127 rfl rfl ?_
          refine j_imul (n := 129) dX4_writeSteps_128 rfl ?_
          refine j_iload (n := 131) dX4_writeSteps_129 rfl rfl ?_
          refine j_iadd (n := 132) dX4_writeSteps_131 rfl ?_
          refine j_aload_n (n := 133) dX4_writeSteps_132 rfl rfl ?_
          refine j_get (n := 136) 0 dX4_writeSteps_133 f_X4_18 rfl rfl rfl ?_
          refine j_iload_n (n := 137) dX4_writeSteps_136 rfl rfl ?_
          refine j_iald (n := 138) 3 i dX4_writeSteps_137 rfl rfl rfl (by omega) (by omega) ?_
          refine j_iast (n := 139) 7 (m * a + b) dX4_writeSteps_138 rfl rfl (ixm a m b) (by omega) (by omega) ?_
          refine j_aload_n (n := 140) dX4_writeSteps_139 rfl rfl ?_
          refine j_get (n := 143) 0 dX4_writeSteps_140 f_X4_43 rfl rfl rfl ?_
          refine j_iload (n := 145) dX4_writeSteps_143 rfl rfl ?_
          refine j_iload_n (n := 146) dX4_writeSteps_145 rfl rfl ?_
          refine j_imul (n := 147) dX4_writeSteps_146 rfl ?_
          refine j_iload_n (n := 148) dX4_writeSteps_147 rfl rfl ?_
          refine j_iadd (n := 149) dX4_writeSteps_148 rfl ?_
          refine j_aload_n (n := 150) dX4_writeSteps_149 rfl rfl ?_
          refine j_get (n := 153) 0 dX4_writeSteps_150 f_X4_18 rfl rfl rfl ?_
          refine j_iload_n (n := 154) dX4_writeSteps_153 rfl rfl ?_
          refine j_iald (n := 155) 3 i dX4_writeSteps_154 rfl rfl rfl (by omega) (by omega) ?_
          refine j_iast (n := 156) 7 (m * b + a) dX4_writeSteps_155 rfl rfl (ixm b m a) (by omega) (by omega) ?_
          refine j_iinc (n := 159) (nI (i + 1)) dX4_writeSteps_156 rfl rfl (nI_inc i) (by decide) ?_
          refine j_goto 80 dX4_writeSteps_159 (by decide) ?_
          refine j_keep [0, 1, 2] rfl ?_
          refine j_ws (ws' := ptL G A' C stamp closed m cs la be Ln' (upd (upd ll (m * a + b) (C.2.2.2 i)) (m * b + a) (C.2.2.2 i)) ++ rest) rfl ?_
          exact ih _ ((hX.put (Nat.le_refl _) q1 hcv).put (Nat.le_refl _) p1 hcv)
def dgM (i : Nat) : OM := fun a b => if a = b ∧ a < i then some 0 else none
theorem ws_loop1 {A' : Nat → Nat} {Ln' : Nat} (hok : CTok C) (hm : m = (nd C).2) (hcs : ∀ i, i < m → cs i = (nd C).1 i) (hC : CHI cs la be m) (hLn : m * m ≤ Ln') (hL : Ln' ≤ 14400) {mc ms kc ks : Nat} {post : OT} (hkc : kc ≤ mc) (hks : ks ≤ ms) (hp : ∀ ll' : Nat → Int32, MX 536870912 m m ll' (dS C (nd C) C.1) → post none (ptL G A' C stamp closed m cs la be Ln' ll' ++ rest)) :
    ∀ (k i : Nat), i + k = m → ∀ ll : Nat → Int32, MX 536870912 m m ll (dgM i) → JJ G Y_X4_writeSteps 2 mc ms post 56 [(0, .ref (A' 0)), (1, .int (nI m)), (2, .int (nI i))] [] (ptL G A' C stamp closed m cs la be Ln' ll ++ rest) kc ks := by
  have hm120 : m ≤ 120 := by rw [hm]; exact nd_le hok
  intro k
  induction k with
  | zero =>
    intro i hi ll hX
    obtain rfl : i = m := by omega
    refine j_iload_n (n := 57) dX4_writeSteps_56 rfl rfl ?_
    refine j_iload_n (n := 58) dX4_writeSteps_57 rfl rfl ?_
    refine j_icmp_ge (n := 61) 78 dX4_writeSteps_58 (by decide) rfl (fun c => ?_) (fun c => ?_)
    · refine j_iconst (n := 79) (0) dX4_writeSteps_78 rfl (by decide) ?_
      refine j_istore_n (n := 80) dX4_writeSteps_79 rfl (by decide) ?_
      refine ws_loop2 hok hm hcs hC hLn hL hkc hks hp C.1 0 (by omega) ll (hX.congr (fun a b ha hb => ?_))
      show (if a = b ∧ a < i then some 0 else none) = if a = b then some 0 else none
      by_cases e : a = b
      · rw [if_pos ⟨e, ha⟩, if_pos e]
      · rw [if_neg (fun q => e q.1), if_neg e]
    · exact absurd (nI_le (Nat.le_refl i) (by omega)) c
  | succ k ih =>
    intro i hi ll hX
    have hl := mx_lt (show i < m by omega) (show i < m by omega)
    refine j_iload_n (n := 57) dX4_writeSteps_56 rfl rfl ?_
    refine j_iload_n (n := 58) dX4_writeSteps_57 rfl rfl ?_
    refine j_icmp_ge (n := 61) 78 dX4_writeSteps_58 (by decide) rfl (fun c => ?_) (fun c => ?_)
    · exact absurd c (nI_ge (show i < m by omega) (by omega))
    · refine j_aload_n (n := 62) dX4_writeSteps_61 rfl rfl ?_
      refine j_get (n := 65) 0 dX4_writeSteps_62 f_X4_43 rfl rfl rfl ?_
      refine j_iload_n (n := 66) dX4_writeSteps_65 rfl rfl ?_
      refine j_iload_n (n := 67) dX4_writeSteps_66 rfl rfl ?_
      refine j_imul (n := 68) dX4_writeSteps_67 rfl ?_
      refine j_iload_n (n := 69) dX4_writeSteps_68 rfl rfl ?_
      refine j_iadd (n := 70) dX4_writeSteps_69 rfl ?_
      refine j_iconst (n := 71) (0) dX4_writeSteps_70 rfl (by decide) ?_
      refine j_iast (n := 72) 7 (m * i + i) dX4_writeSteps_71 rfl rfl (ixm i m i) (by omega) (by omega) ?_
      refine j_iinc (n := 75) (nI (i + 1)) dX4_writeSteps_72 rfl rfl (nI_inc i) (by decide) ?_
      refine j_goto 56 dX4_writeSteps_75 (by decide) ?_
      refine j_ws (ws' := ptL G A' C stamp closed m cs la be Ln' (upd ll (m * i + i) 0) ++ rest) rfl ?_
      refine ih (i + 1) (by omega) _ ((hX.put (v := some 0) (Nat.le_refl _) (show i < m by omega) rfl).congr (fun a b _ _ => ?_))
      unfold up2 dgM
      by_cases e : a = i ∧ b = i
      · rw [if_pos e, if_pos ⟨e.1.trans e.2.symm, by omega⟩]
      · rw [if_neg e]
        by_cases e2 : a = b ∧ a < i
        · rw [if_pos e2, if_pos ⟨e2.1, by omega⟩]
        · rw [if_neg e2, if_neg (fun q => by omega)]
theorem ws_tail {A' : Nat → Nat} {Ln' : Nat} (hok : CTok C) (hm : m = (nd C).2) (hcs : ∀ i, i < m → cs i = (nd C).1 i) (hC : CHI cs la be m) (hLn : m * m ≤ Ln') (hL : Ln' ≤ 14400) {mc ms kc ks : Nat} {post : OT} (hkc : kc ≤ mc) (hks : ks ≤ ms) (hp : ∀ ll' : Nat → Int32, MX 536870912 m m ll' (dS C (nd C) C.1) → post none (ptL G A' C stamp closed m cs la be Ln' ll' ++ rest)) (ll : Nat → Int32) :
    JJ G Y_X4_writeSteps 2 mc ms post 41 [(0, .ref (A' 0)), (1, .int (nI m))] [] (ptL G A' C stamp closed m cs la be Ln' ll ++ rest) kc ks := by
  have hm120 : m ≤ 120 := by rw [hm]; exact nd_le hok
  refine j_aload_n (n := 42) dX4_writeSteps_41 rfl rfl ?_
  refine j_get (n := 45) 0 dX4_writeSteps_42 f_X4_43 rfl rfl rfl ?_
  refine j_iconst (n := 46) (0) dX4_writeSteps_45 rfl (by decide) ?_
  refine j_iload_n (n := 47) dX4_writeSteps_46 rfl rfl ?_
  refine j_iload_n (n := 48) dX4_writeSteps_47 rfl rfl ?_
  refine j_imul (n := 49) dX4_writeSteps_48 rfl ?_
  refine j_top (nI (m * m)) (pk_mul m m) ?_
  refine j_ldc (n := 51) dX4_writeSteps_49 rfl k_X4_80 ?_
  refine j_callSv (n := 54) (Y1 := Y_J7_fill_fda19) dX4_writeSteps_51 m_X4_89 cy_J7_fill_fda19 cs_J7_fill_fda19 (c_fill4 (lo := 0) (hi := m * m) (k := 7) rfl (Nat.zero_le _) hLn (by omega)) rfl rfl rfl (by omega) (by omega) (by omega) (Nat.le_of_ble_eq_true rfl) (fun w h => ?_)
  subst h
  refine j_iconst (n := 55) (0) dX4_writeSteps_54 rfl (by decide) ?_
  refine j_istore_n (n := 56) dX4_writeSteps_55 rfl (by decide) ?_
  refine j_ws (ws' := ptL G A' C stamp closed m cs la be Ln' (fillF ll 0 (m * m) 536870912) ++ rest) rfl ?_
  refine ws_loop1 hok hm hcs hC hLn hL (by omega) (by omega) hp m 0 (by omega) _ (fun a b ha hb => ?_)
  have := mx_lt ha hb
  unfold fillF dgM
  rw [if_pos (by omega), if_neg (by omega)]
  rfl
theorem c_writeSteps (hok : CTok C) (hm : m = (nd C).2) (hcs : ∀ i, i < m → cs i = (nd C).1 i) (hC : CHI cs la be m) (hL : Ln ≤ 14400) : JM G Y_X4_writeSteps 2 (if Ln < m * m then 1 else 0) (if Ln < m * m then newLn m Ln else 0) [.ref (A 0)] (ptL G A C stamp closed m cs la be Ln ll ++ rest) (Qv (fun w => ∃ (A' : Nat → Nat) (ll' : Nat → Int32), w = ptL G A' C stamp closed m cs la be (newLn m Ln) ll' ++ rest ∧ A' 0 = A 0 ∧ MX 536870912 m m ll' (dS C (nd C) C.1))) := by
  have hm120 : m ≤ 120 := by rw [hm]; exact nd_le hok
  have hmm : m * m ≤ 14400 := Nat.mul_le_mul hm120 hm120
  refine JM.of [(0, .ref (A 0))] rfl rfl (by simp) (Nat.le_of_ble_eq_true rfl) (by decide +kernel) ?_
  refine j_aload_n (n := 1) dX4_writeSteps_0 rfl rfl ?_
  refine j_get (n := 4) 0 dX4_writeSteps_1 f_X4_34 rfl rfl rfl ?_
  refine j_istore_n (n := 5) dX4_writeSteps_4 rfl (by decide) ?_
  refine j_aload_n (n := 6) dX4_writeSteps_5 rfl rfl ?_
  refine j_get (n := 9) 0 dX4_writeSteps_6 f_X4_43 rfl rfl rfl ?_
  refine j_alen (n := 10) 7 dX4_writeSteps_9 rfl rfl ?_
  refine j_iload_n (n := 11) dX4_writeSteps_10 rfl rfl ?_
  refine j_iload_n (n := 12) dX4_writeSteps_11 rfl rfl ?_
  refine j_imul (n := 13) dX4_writeSteps_12 rfl ?_
  refine j_top (nI (m * m)) (pk_mul m m) ?_
  refine j_icmp_ge (n := 16) 41 dX4_writeSteps_13 (by decide) rfl (fun c => ?_) (fun c => ?_)
  · have hlt : ¬ Ln < m * m := Nat.not_lt.mpr ((nI_leI (by omega) (by omega)).mp c)
    have hnl : newLn m Ln = Ln := by unfold newLn; rw [if_neg hlt]
    rw [if_neg hlt, if_neg hlt, hnl]
    exact ws_tail hok hm hcs hC (by omega) hL (Nat.le_refl _) (Nat.le_refl _) (fun ll' h => ⟨rfl, A, ll', rfl, rfl, h⟩) ll
  · have hlt : Ln < m * m := Nat.lt_of_not_le (fun q => c (nI_le q (by omega)))
    have hnl : newLn m Ln = max (m * m) (min (2 * Ln) 14400) := by unfold newLn; rw [if_pos hlt]
    have hb : newLn m Ln ≤ 14400 ∧ m * m ≤ newLn m Ln := by rw [hnl]; omega
    rw [if_pos hlt, if_pos hlt]
    refine j_aload_n (n := 17) dX4_writeSteps_16 rfl rfl ?_
    refine j_iload_n (n := 18) dX4_writeSteps_17 rfl rfl ?_
    refine j_iload_n (n := 19) dX4_writeSteps_18 rfl rfl ?_
    refine j_imul (n := 20) dX4_writeSteps_19 rfl ?_
    refine j_iconst (n := 21) (2) dX4_writeSteps_20 rfl (by decide) ?_
    refine j_aload_n (n := 22) dX4_writeSteps_21 rfl rfl ?_
    refine j_get (n := 25) 0 dX4_writeSteps_22 f_X4_43 rfl rfl rfl ?_
    refine j_alen (n := 26) 7 dX4_writeSteps_25 rfl rfl ?_
    refine j_imul (n := 27) dX4_writeSteps_26 rfl ?_
    refine j_sipush (n := 30) (14400) dX4_writeSteps_27 rfl (by decide) ?_
    have e1 : (if (14400 : Int32) < 2 * nI Ln then (14400 : Int32) else 2 * nI Ln) = nI (min (2 * Ln) 14400) := by
      have e0 : (2 : Int32) * nI Ln = nI (2 * Ln) := pk_mul 2 Ln
      rw [e0]
      by_cases h : 14400 < 2 * Ln
      · rw [if_pos (show (14400 : Int32) < nI (2 * Ln) from nI_lt (a := 14400) h (by omega)), Nat.min_eq_right (by omega)]; rfl
      · rw [if_neg (fun q : (14400 : Int32) < nI (2 * Ln) => h ((nI_ltI (a := 14400) (by omega) (by omega)).mp q)), Nat.min_eq_left (by omega)]
    refine j_min (n := 33) dX4_writeSteps_30 m_X4_81 rfl (by omega) (by omega) (by omega) (Nat.le_of_ble_eq_true rfl) ?_
    refine j_top (nI (min (2 * Ln) 14400)) e1 ?_
    have e2 : (if nI m * nI m < nI (min (2 * Ln) 14400) then nI (min (2 * Ln) 14400) else nI m * nI m) = nI (newLn m Ln) := by
      rw [pk_mul m m, hnl]
      by_cases h : m * m < min (2 * Ln) 14400
      · rw [if_pos (nI_lt h (by omega)), Nat.max_eq_right (by omega)]
      · rw [if_neg (fun q => h ((nI_ltI (by omega) (by omega)).mp q)), Nat.max_eq_left (by omega)]
    refine j_max (n := 36) dX4_writeSteps_33 m_X4_86 rfl (by omega) (by omega) (by omega) (Nat.le_of_ble_eq_true rfl) ?_
    refine j_top (nI (newLn m Ln)) e2 ?_
    refine j_newi (n := 38) (newLn m Ln) dX4_writeSteps_36 rfl rfl (by omega) (by omega) (by omega) (fun a => ?_)
    refine j_put (n := 41) 0 dX4_writeSteps_38 f_X4_43 rfl rfl rfl (Nat.le_of_ble_eq_true rfl) rfl rfl ?_
    refine j_world (ws' := ptL G (va_up A 7 a) C stamp closed m cs la be (newLn m Ln) (fun _ => 0) ++ rest) (fun G1 H1 hW => ?_) ?_
    · exact jw_move (G := G1) (H := H1) (ws := [(A 0, ptO (va_up A 7 a) C.1 stamp closed m), (A 1, arI G 60 C.2.1), (A 2, arI G 60 C.2.2.1), (A 3, arI G 60 C.2.2.2), (A 4, arI G 120 cs), (A 5, arI G 127 la), (A 6, arI G 120 be), (A 7, arI G Ln ll)] ++ rest) (y := (a, .inl (gI G, newLn m Ln, .inl (fun _ => 0)))) 7 hW
    · exact ws_tail hok hm hcs hC hb.2 hb.1 (by omega) (by omega) (fun ll' h => ⟨rfl, va_up A 7 a, ll', rfl, rfl, h⟩) (fun _ => 0)
theorem cl_loop2 {A' : Nat → Nat} {Ln' : Nat} (hok : CTok C) (hm : m = (nd C).2) (hLn : m * m ≤ Ln') (hL : Ln' ≤ 14400) {mc ms kc ks : Nat} (hkc : kc ≤ mc) (hks : ks ≤ ms) {f : va_W → Prop} (hp : ∀ ll' : Nat → Int32, MX 536870912 m m ll' (DD C) → f (ptL G A' C stamp closed m cs la be Ln' ll' ++ rest)) :
    ∀ (k i : Nat), i + k = m → ∀ ll : Nat → Int32, MX 536870912 m m ll (fwN (dS C (nd C) C.1) i) → JJ G Y_X4_closeChains 3 mc ms (Qv f) 75 [(0, .ref (A' 0)), (1, .int (nI i))] [] (ptL G A' C stamp closed m cs la be Ln' ll ++ rest) kc ks := by
  have hm120 : m ≤ 120 := by rw [hm]; exact nd_le hok
  intro k
  induction k with
  | zero =>
    intro i hi ll hX
    obtain rfl : i = m := by omega
    refine j_iload_n (n := 76) dX4_closeChains_75 rfl rfl ?_
    refine j_aload_n (n := 77) dX4_closeChains_76 rfl rfl ?_
    refine j_get (n := 80) 0 dX4_closeChains_77 f_X4_34 rfl rfl rfl ?_
    refine j_icmp_ge (n := 83) 94 dX4_closeChains_80 (by decide) rfl (fun c => ?_) (fun c => ?_)
    · have hD : fwN (dS C (nd C) C.1) i = DD C := by rw [hm]; rfl
      rw [hD] at hX
      exact j_vret dX4_closeChains_94 rfl (by omega) (by omega) (hp ll hX)
    · exact absurd (nI_le (Nat.le_refl i) (by omega)) c
  | succ k ih =>
    intro i hi ll hX
    obtain ⟨w1, w2⟩ := fw_ok hok (k := i) (by omega)
    refine j_iload_n (n := 76) dX4_closeChains_75 rfl rfl ?_
    refine j_aload_n (n := 77) dX4_closeChains_76 rfl rfl ?_
    refine j_get (n := 80) 0 dX4_closeChains_77 f_X4_34 rfl rfl rfl ?_
    refine j_icmp_ge (n := 83) 94 dX4_closeChains_80 (by decide) rfl (fun c => ?_) (fun c => ?_)
    · exact absurd c (nI_ge (show i < m by omega) (by omega))
    · refine j_aload_n (n := 84) dX4_closeChains_83 rfl rfl ?_
      refine j_iload_n (n := 85) dX4_closeChains_84 rfl rfl ?_
      refine j_callVv (n := 88) (Y1 := Y_X4_goOver) 0 dX4_closeChains_85 m_X4_66 cy_X4_goOver ci_X4_goOver (c_goOver hm120 (show i < m by omega) hLn hL w1 (fun a b v e => by have := w2 a b v e; omega) hX) rfl rfl rfl rfl rfl (by omega) (by omega) (by omega) (Nat.le_of_ble_eq_true rfl) (fun w h => ?_)
      obtain ⟨ll', rfl, hX'⟩ := h
      refine j_iinc (n := 91) (nI (i + 1)) dX4_closeChains_88 rfl rfl (nI_inc i) (by decide) ?_
      refine j_goto 75 dX4_closeChains_91 (by decide) ?_
      exact ih (i + 1) (by omega) ll' hX'
end PT3
end

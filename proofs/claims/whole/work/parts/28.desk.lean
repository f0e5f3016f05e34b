/-! NameGuard: the layout of its world; the simple methods -/
abbrev refs (f : Nat → Option Nat) : (Nat → Int32) ⊕ (Nat → Int64) ⊕ (Nat → UInt32) ⊕ (Nat → UInt64) ⊕ (Nat → Option Nat) := .inr (.inr (.inr (.inr f)))
/-- the class's fixed cells behind the PieceTable's eight: Q addresses, N numbers, Z ints, F rows, all by place; nm the name's Text, Ef the entries.
N: 0 confusions, 1 pieces' stamp, 2 codes, 3 length of least, 4 tape, 5 signs' stamp, 6 sets, 7 entries, 8 near, 9 way, 10 pairs. Z: 0 closed stamp, 1, 2 fault, 10 + 3 r .. register r. -/
def cRest (G : GT) (Q N : Nat → Nat) (Z : Nat → Int32) (F : Nat → Nat → Int32) (nm : Option Nat) (Ef : Nat → Option Nat) : va_W :=
  [(Q 8, .inr (10, [.ref (Q 9), .int (nI (N 4)), .ref (Q 10), .ref (Q 13), .ref (Q 0), va_rf nm, .int (Z 1), .int (Z 2), .ref (Q 15), .ref (Q 20), .int (nI (N 7)), .ref (Q 21), .ref (Q 23), .ref (Q 26), .ref (Q 30)])),
   (Q 9, arI G 200 (F 9)), (Q 10, stO (Q 11) (Q 12) (nI (N 5))), (Q 11, arI G 127 (F 11)), (Q 12, arI G 127 (F 12)), (Q 13, .inr (6, [.ref (Q 14), .int (nI (N 6))])), (Q 14, arI G 8 (F 14)),
   (Q 15, .inl (gR G, 4, refs (fun j => some (Q (16 + j))))),
   (Q 16, .inr (5, [.int (Z 10), .int (Z 11), .int (Z 12)])), (Q 17, .inr (5, [.int (Z 13), .int (Z 14), .int (Z 15)])), (Q 18, .inr (5, [.int (Z 16), .int (Z 17), .int (Z 18)])), (Q 19, .inr (5, [.int (Z 19), .int (Z 20), .int (Z 21)])),
   (Q 20, .inl (gE G, 200, refs Ef)), (Q 21, .inr (1, [.ref (Q 0), .ref (Q 22)])), (Q 22, arI G 1681 (F 22)),
   (Q 23, .inr (2, [.ref (Q 24), .ref (Q 25), .int (nI (N 8))])), (Q 24, arI G 200 (F 24)), (Q 25, arI G 200 (F 25)),
   (Q 26, wyO (fun i => Q (26 + i)) (N 9)), (Q 27, arI G 40 (F 27)), (Q 28, arI G 40 (F 28)), (Q 29, arI G 40 (F 29)),
   (Q 30, .inr (3, [.ref (Q 31), .int (nI (N 10))])), (Q 31, arI G 1000 (F 31))]
abbrev cCT (N : Nat → Nat) (F : Nat → Nat → Int32) : CT := (N 0, F 1, F 2, F 3)
abbrev cPT (G : GT) (Q N : Nat → Nat) (Z : Nat → Int32) (F : Nat → Nat → Int32) : va_W := ptL G Q (cCT N F) (nI (N 1)) (Z 0) (N 2) (F 4) (F 5) (F 6) (N 3) (F 7)
/-- the whole world: the PieceTable, the other fixed cells, what comes behind -/
abbrev cW (G : GT) (Q N : Nat → Nat) (Z : Nat → Int32) (F : Nat → Nat → Int32) (nm : Option Nat) (Ef : Nat → Option Nat) (P : va_W) : va_W := cPT G Q N Z F ++ (cRest G Q N Z F nm Ef ++ P)
section NG1
variable {G : GT} {Q N : Nat → Nat} {Z : Nat → Int32} {F : Nat → Nat → Int32} {nm : Option Nat} {Ef : Nat → Option Nat} {P : va_W}
def endS (tl : Nat) (n : Int32) : Int32 := if n < 0 ∨ nI tl < n then -1 else n
theorem c_end {n : Int32} (ht : N 4 ≤ 200) : JE G Y_X10_end 0 0 0 [.ref (Q 8), .int n] (cW G Q N Z F nm Ef P) (endS (N 4) n) (cW G Q (if n < 0 ∨ nI (N 4) < n then N else va_up N 4 n.toNatClampNeg) Z F nm Ef P) := by
  unfold endS
  refine JM.of [(0, .ref (Q 8)), (1, .int n)] rfl rfl (by simp) (Nat.le_of_ble_eq_true rfl) (by decide +kernel) ?_
  refine j_iload_n (n := 1) dX10_end_0 rfl rfl ?_
  refine j_if_lt (n := 4) 12 dX10_end_1 (by decide) rfl (fun c => ?_) (fun c => ?_)
  · rw [if_pos (Or.inl c), if_pos (Or.inl c)]
    refine j_iconst (n := 13) (-1) dX10_end_12 rfl (by decide) ?_
    exact j_iret dX10_end_13 rfl rfl (by omega) (by omega) (⟨rfl, rfl⟩)
  · refine j_iload_n (n := 5) dX10_end_4 rfl rfl ?_
    refine j_aload_n (n := 6) dX10_end_5 rfl rfl ?_
    refine j_get (n := 9) 8 dX10_end_6 f_X10_13 rfl rfl rfl ?_
    refine j_icmp_le (n := 12) 14 dX10_end_9 (by decide) rfl (fun c2 => ?_) (fun c2 => ?_)
    · have hn : ¬ (n < 0 ∨ nI (N 4) < n) := fun q => q.elim c (fun q => Int32.not_lt.mpr c2 q)
      rw [if_neg hn, if_neg hn]
      obtain ⟨j, hj, rfl⟩ := nI_of c
      have hcl : (nI j).toNatClampNeg = j := nI_clamp hj
      rw [hcl]
      refine j_aload_n (n := 15) dX10_end_14 rfl rfl ?_
      refine j_iload_n (n := 16) dX10_end_15 rfl rfl ?_
      refine j_put (n := 19) 8 dX10_end_16 f_X10_13 rfl rfl rfl (Nat.le_of_ble_eq_true rfl) rfl rfl ?_
      refine j_iload_n (n := 20) dX10_end_19 rfl rfl ?_
      exact j_iret dX10_end_20 rfl rfl (by omega) (by omega) (⟨rfl, rfl⟩)
    · have hn : n < 0 ∨ nI (N 4) < n := Or.inr (Int32.not_le.mp c2)
      rw [if_pos hn, if_pos hn]
      refine j_iconst (n := 13) (-1) dX10_end_12 rfl (by decide) ?_
      exact j_iret dX10_end_13 rfl rfl (by omega) (by omega) (⟨rfl, rfl⟩)
def okScr (x s : Int32) : Bool := sgB x && decide (0 ≤ s ∧ s ≤ 7)
theorem c_script {x s : Int32} : JE G Y_X10_script 3 0 0 [.ref (Q 8), .int x, .int s] (cW G Q N Z F nm Ef P) (if okScr x s = true then F 11 x.toNatClampNeg else -2) (cW G Q N Z (if okScr x s = true then va_up F 11 (upd (F 11) x.toNatClampNeg s) else F) nm Ef P) := by
  refine JM.of [(0, .ref (Q 8)), (1, .int x), (2, .int s)] rfl rfl (by simp) (Nat.le_of_ble_eq_true rfl) (by decide +kernel) ?_
  refine j_iload_n (n := 1) dX10_script_0 rfl rfl ?_
  refine j_callSe (n := 4) (Y1 := Y_X10_isSign) dX10_script_1 m_X10_98 cy_X10_isSign cs_X10_isSign (c_isSign) rfl rfl rfl (by omega) (by omega) (by omega) (Nat.le_of_ble_eq_true rfl) ?_
  refine j_if_eq (n := 7) 17 dX10_script_4 (by decide) rfl (fun c => ?_) (fun c => ?_)
  · have hn : ¬ okScr x s = true := by unfold okScr; rw [b01_0 c]; exact Bool.false_ne_true
    rw [if_neg hn, if_neg hn]
    refine j_bipush (n := 19) (-2) dX10_script_17 rfl (by decide) ?_
    exact j_iret dX10_script_19 rfl rfl (by omega) (by omega) (⟨rfl, rfl⟩)
  · have hs := b01_n0 c
    refine j_iload_n (n := 8) dX10_script_7 rfl rfl ?_
    refine j_if_lt (n := 11) 17 dX10_script_8 (by decide) rfl (fun c2 => ?_) (fun c2 => ?_)
    · have hn : ¬ okScr x s = true := by
        unfold okScr
        rw [decide_eq_false (fun q => Int32.not_lt.mpr q.1 c2), Bool.and_false]; exact Bool.false_ne_true
      rw [if_neg hn, if_neg hn]
      refine j_bipush (n := 19) (-2) dX10_script_17 rfl (by decide) ?_
      exact j_iret dX10_script_19 rfl rfl (by omega) (by omega) (⟨rfl, rfl⟩)
    · refine j_iload_n (n := 12) dX10_script_11 rfl rfl ?_
      refine j_bipush (n := 14) (7) dX10_script_12 rfl (by decide) ?_
      refine j_icmp_le (n := 17) 20 dX10_script_14 (by decide) rfl (fun c3 => ?_) (fun c3 => ?_)
      · have hy : okScr x s = true := by unfold okScr; rw [hs, decide_eq_true ⟨Int32.not_lt.mp c2, c3⟩]; rfl
        rw [if_pos hy, if_pos hy]
        obtain ⟨j, rfl, j1, j2⟩ := sg_nat hs
        rw [nI_clamp (show j < 2 ^ 31 by omega)]
        refine j_aload_n (n := 21) dX10_script_20 rfl rfl ?_
        refine j_get (n := 24) 8 dX10_script_21 f_X10_20 rfl rfl rfl ?_
        refine j_iload_n (n := 25) dX10_script_24 rfl rfl ?_
        refine j_iload_n (n := 26) dX10_script_25 rfl rfl ?_
        refine j_callVe (n := 29) (Y1 := Y_X7_changeScript) 10 dX10_script_26 m_X10_102 cy_X7_changeScript ci_X7_changeScript (c_changeScript 10 rfl 11 rfl j1 j2) rfl rfl rfl rfl rfl (by omega) (by omega) (by omega) (Nat.le_of_ble_eq_true rfl) ?_
        exact j_iret dX10_script_29 rfl rfl (by omega) (by omega) (⟨rfl, rfl⟩)
      · have hn : ¬ okScr x s = true := by
          unfold okScr
          rw [decide_eq_false (fun q => c3 q.2), Bool.and_false]; exact Bool.false_ne_true
        rw [if_neg hn, if_neg hn]
        refine j_bipush (n := 19) (-2) dX10_script_17 rfl (by decide) ?_
        exact j_iret dX10_script_19 rfl rfl (by omega) (by omega) (⟨rfl, rfl⟩)
def okHow (x s : Int32) : Bool := sgB x && decide (0 ≤ s ∧ s ≤ 2)
theorem c_seen {x s : Int32} : JE G Y_X10_seen 3 0 0 [.ref (Q 8), .int x, .int s] (cW G Q N Z F nm Ef P) (if okHow x s = true then F 12 x.toNatClampNeg else -2) (if okHow x s = true ∧ ¬ F 12 x.toNatClampNeg = s then cW G Q (va_up N 5 (N 5 + 1)) Z (va_up F 12 (upd (F 12) x.toNatClampNeg s)) nm Ef P else cW G Q N Z F nm Ef P) := by
  refine JM.of [(0, .ref (Q 8)), (1, .int x), (2, .int s)] rfl rfl (by simp) (Nat.le_of_ble_eq_true rfl) (by decide +kernel) ?_
  refine j_iload_n (n := 1) dX10_seen_0 rfl rfl ?_
  refine j_callSe (n := 4) (Y1 := Y_X10_isSign) dX10_seen_1 m_X10_98 cy_X10_isSign cs_X10_isSign (c_isSign) rfl rfl rfl (by omega) (by omega) (by omega) (Nat.le_of_ble_eq_true rfl) ?_
  refine j_if_eq (n := 7) 16 dX10_seen_4 (by decide) rfl (fun c => ?_) (fun c => ?_)
  · have hn : ¬ okHow x s = true := by unfold okHow; rw [b01_0 c]; exact Bool.false_ne_true
    rw [if_neg hn, if_neg (fun q => hn q.1)]
    refine j_bipush (n := 18) (-2) dX10_seen_16 rfl (by decide) ?_
    exact j_iret dX10_seen_18 rfl rfl (by omega) (by omega) (⟨rfl, rfl⟩)
  · have hs := b01_n0 c
    refine j_iload_n (n := 8) dX10_seen_7 rfl rfl ?_
    refine j_if_lt (n := 11) 16 dX10_seen_8 (by decide) rfl (fun c2 => ?_) (fun c2 => ?_)
    · have hn : ¬ okHow x s = true := by
        unfold okHow
        rw [decide_eq_false (fun q => Int32.not_lt.mpr q.1 c2), Bool.and_false]; exact Bool.false_ne_true
      rw [if_neg hn, if_neg (fun q => hn q.1)]
      refine j_bipush (n := 18) (-2) dX10_seen_16 rfl (by decide) ?_
      exact j_iret dX10_seen_18 rfl rfl (by omega) (by omega) (⟨rfl, rfl⟩)
    · refine j_iload_n (n := 12) dX10_seen_11 rfl rfl ?_
      refine j_iconst (n := 13) (2) dX10_seen_12 rfl (by decide) ?_
      refine j_icmp_le (n := 16) 19 dX10_seen_13 (by decide) rfl (fun c3 => ?_) (fun c3 => ?_)
      · have hy : okHow x s = true := by unfold okHow; rw [hs, decide_eq_true ⟨Int32.not_lt.mp c2, c3⟩]; rfl
        obtain ⟨j, rfl, j1, j2⟩ := sg_nat hs
        rw [if_pos hy, nI_clamp (show j < 2 ^ 31 by omega)]
        refine j_aload_n (n := 20) dX10_seen_19 rfl rfl ?_
        refine j_get (n := 23) 8 dX10_seen_20 f_X10_20 rfl rfl rfl ?_
        refine j_iload_n (n := 24) dX10_seen_23 rfl rfl ?_
        refine j_iload_n (n := 25) dX10_seen_24 rfl rfl ?_
        refine j_callVe (n := 28) (Y1 := Y_X7_changeHow) 10 dX10_seen_25 m_X10_106 cy_X7_changeHow ci_X7_changeHow (c_changeHow (k0 := 10) rfl (k2 := 12) rfl (by decide) j1 j2) rfl rfl rfl rfl rfl (by omega) (by omega) (by omega) (Nat.le_of_ble_eq_true rfl) ?_
        by_cases he : F 12 j = s
        · rw [if_pos he, if_neg (fun q => q.2 he)]
          exact j_iret dX10_seen_28 rfl rfl (by omega) (by omega) (⟨rfl, rfl⟩)
        · rw [if_neg he, if_pos ⟨hy, he⟩]
          exact j_iret dX10_seen_28 rfl rfl (by omega) (by omega) (⟨rfl, rfl⟩)
      · have hn : ¬ okHow x s = true := by
          unfold okHow
          rw [decide_eq_false (fun q => c3 q.2), Bool.and_false]; exact Bool.false_ne_true
        rw [if_neg hn, if_neg (fun q => hn q.1)]
        refine j_bipush (n := 18) (-2) dX10_seen_16 rfl (by decide) ?_
        exact j_iret dX10_seen_18 rfl rfl (by omega) (by omega) (⟨rfl, rfl⟩)
theorem c_allow {s : Int32} (hs : N 6 ≤ 8) : JE G Y_X10_allow 1 0 0 [.ref (Q 8), .int s] (cW G Q N Z F nm Ef P) (if setB s = true then addS (N 6) (F 14) s else -2) (if setB s = true ∧ ¬ (inB (N 6) (F 14) s = true ∨ 8 ≤ N 6) then cW G Q (va_up N 6 (N 6 + 1)) Z (va_up F 14 (upd (F 14) (N 6) s)) nm Ef P else cW G Q N Z F nm Ef P) := by
  refine JM.of [(0, .ref (Q 8)), (1, .int s)] rfl rfl (by simp) (Nat.le_of_ble_eq_true rfl) (by decide +kernel) ?_
  refine j_iload_n (n := 1) dX10_allow_0 rfl rfl ?_
  refine j_callSe (n := 4) (Y1 := Y_X10_isSet) dX10_allow_1 m_X10_130 cy_X10_isSet cs_X10_isSet (c_isSet) rfl rfl rfl (by omega) (by omega) (by omega) (Nat.le_of_ble_eq_true rfl) ?_
  refine j_if_eq (n := 7) 18 dX10_allow_4 (by decide) rfl (fun c => ?_) (fun c => ?_)
  · have hn : ¬ setB s = true := by rw [b01_0 c]; exact Bool.false_ne_true
    rw [if_neg hn, if_neg (fun q => hn q.1)]
    refine j_bipush (n := 20) (-2) dX10_allow_18 rfl (by decide) ?_
    exact j_iret dX10_allow_20 rfl rfl (by omega) (by omega) (⟨rfl, rfl⟩)
  · have hy := b01_n0 c
    rw [if_pos hy]
    refine j_aload_n (n := 8) dX10_allow_7 rfl rfl ?_
    refine j_get (n := 11) 8 dX10_allow_8 f_X10_27 rfl rfl rfl ?_
    refine j_iload_n (n := 12) dX10_allow_11 rfl rfl ?_
    refine j_callVe (n := 15) (Y1 := Y_X6_add) 13 dX10_allow_12 m_X10_133 cy_X6_add ci_X6_add (c_setAdd (k0 := 13) rfl (k1 := 14) rfl (by decide) hs) rfl rfl rfl rfl rfl (by omega) (by omega) (by omega) (Nat.le_of_ble_eq_true rfl) ?_
    refine j_goto 20 dX10_allow_15 (by decide) ?_
    by_cases he : inB (N 6) (F 14) s = true ∨ 8 ≤ N 6
    · rw [if_pos he, if_neg (fun q => q.2 he)]
      exact j_iret dX10_allow_20 rfl rfl (by omega) (by omega) (⟨rfl, rfl⟩)
    · rw [if_neg he, if_pos ⟨hy, he⟩]
      exact j_iret dX10_allow_20 rfl rfl (by omega) (by omega) (⟨rfl, rfl⟩)
theorem c_fault {w : Int32} : JE G Y_X10_fault 0 0 0 [.ref (Q 8), .int w] (cW G Q N Z F nm Ef P) (if w = 0 then Z 1 else if w = 1 then Z 2 else -1) (cW G Q N Z F nm Ef P) := by
  refine JM.of [(0, .ref (Q 8)), (1, .int w)] rfl rfl (by simp) (Nat.le_of_ble_eq_true rfl) (by decide +kernel) ?_
  refine j_iload_n (n := 1) dX10_fault_0 rfl rfl ?_
  by_cases e0 : w = 0
  · subst e0
    refine j_lookup (off := 27) 28 dX10_fault_1 (by decide) (by decide) (by decide) ?_
    refine j_aload_n (n := 29) dX10_fault_28 rfl rfl ?_
    refine j_get (n := 32) 8 dX10_fault_29 f_X10_42 rfl rfl rfl ?_
    exact j_iret dX10_fault_32 rfl rfl (by omega) (by omega) (⟨rfl, rfl⟩)
  · rw [if_neg e0]
    by_cases e1 : w = 1
    · subst e1
      refine j_lookup (off := 32) 33 dX10_fault_1 (by decide) (by decide) (by decide) ?_
      refine j_aload_n (n := 34) dX10_fault_33 rfl rfl ?_
      refine j_get (n := 37) 8 dX10_fault_34 f_X10_45 rfl rfl rfl ?_
      exact j_iret dX10_fault_37 rfl rfl (by omega) (by omega) (⟨rfl, rfl⟩)
    · rw [if_neg e1]
      refine j_lookup (off := 37) 38 dX10_fault_1 (by decide) ((lv_osw e0 rfl).trans ((lv_osw e1 rfl).trans rfl)) (by decide) ?_
      refine j_iconst (n := 39) (-1) dX10_fault_38 rfl (by decide) ?_
      exact j_iret dX10_fault_39 rfl rfl (by omega) (by omega) (⟨rfl, rfl⟩)
theorem c_nearest {i w : Int32} (h : N 8 ≤ 200) : JE G Y_X10_nearest 1 0 0 [.ref (Q 8), .int i, .int w] (cW G Q N Z F nm Ef P) (tl2 (N 8) (F 24) (F 25) i w) (cW G Q N Z F nm Ef P) := by
  refine JM.of [(0, .ref (Q 8)), (1, .int i), (2, .int w)] rfl rfl (by simp) (Nat.le_of_ble_eq_true rfl) (by decide +kernel) ?_
  refine j_aload_n (n := 1) dX10_nearest_0 rfl rfl ?_
  refine j_get (n := 4) 8 dX10_nearest_1 f_X10_76 rfl rfl rfl ?_
  refine j_iload_n (n := 5) dX10_nearest_4 rfl rfl ?_
  refine j_iload_n (n := 6) dX10_nearest_5 rfl rfl ?_
  refine j_callVe (n := 9) (Y1 := Y_X2_tell) 23 dX10_nearest_6 m_X10_261 cy_X2_tell ci_X2_tell (c_nearTell (k0 := 23) rfl (k1 := 24) rfl (k2 := 25) rfl h) rfl rfl rfl rfl rfl (by omega) (by omega) (by omega) (Nat.le_of_ble_eq_true rfl) ?_
  exact j_iret dX10_nearest_9 rfl rfl (by omega) (by omega) (⟨rfl, rfl⟩)
theorem c_way {i w : Int32} (h : N 9 ≤ 40) : JE G Y_X10_way 1 0 0 [.ref (Q 8), .int i, .int w] (cW G Q N Z F nm Ef P) (tl3 (N 9) (F 27) (F 28) (F 29) i w) (cW G Q N Z F nm Ef P) := by
  refine JM.of [(0, .ref (Q 8)), (1, .int i), (2, .int w)] rfl rfl (by simp) (Nat.le_of_ble_eq_true rfl) (by decide +kernel) ?_
  refine j_aload_n (n := 1) dX10_way_0 rfl rfl ?_
  refine j_get (n := 4) 8 dX10_way_1 f_X10_83 rfl rfl rfl ?_
  refine j_iload_n (n := 5) dX10_way_4 rfl rfl ?_
  refine j_iload_n (n := 6) dX10_way_5 rfl rfl ?_
  refine j_callVe (n := 9) (Y1 := Y_X9_tell) 26 dX10_way_6 m_X10_268 cy_X9_tell ci_X9_tell (c_wayTell (k0 := 26) rfl (k1 := 27) rfl (k2 := 28) rfl (k3 := 29) rfl h) rfl rfl rfl rfl rfl (by omega) (by omega) (by omega) (Nat.le_of_ble_eq_true rfl) ?_
  exact j_iret dX10_way_9 rfl rfl (by omega) (by omega) (⟨rfl, rfl⟩)
theorem c_like {i w : Int32} {E' F' C' : Nat → Nat} (hn : N 10 < 1000000) (hp : ∀ j, j < N 10 → j < 1000 → F 31 j = nI (65536 * E' j + 256 * F' j + C' j) ∧ E' j < 256 ∧ F' j < 256 ∧ C' j < 256) : JE G Y_X10_like 1 0 0 [.ref (Q 8), .int i, .int w] (cW G Q N Z F nm Ef P) (tl3 (min (N 10) 1000) (fun j => nI (E' j)) (fun j => nI (F' j)) (fun j => nI (C' j)) i w) (cW G Q N Z F nm Ef P) := by
  refine JM.of [(0, .ref (Q 8)), (1, .int i), (2, .int w)] rfl rfl (by simp) (Nat.le_of_ble_eq_true rfl) (by decide +kernel) ?_
  refine j_aload_n (n := 1) dX10_like_0 rfl rfl ?_
  refine j_get (n := 4) 8 dX10_like_1 f_X10_90 rfl rfl rfl ?_
  refine j_iload_n (n := 5) dX10_like_4 rfl rfl ?_
  refine j_iload_n (n := 6) dX10_like_5 rfl rfl ?_
  refine j_callVe (n := 9) (Y1 := Y_X3_tell) 30 dX10_like_6 m_X10_279 cy_X3_tell ci_X3_tell (c_pairTell (k0 := 30) rfl (k1 := 31) rfl hn hp) rfl rfl rfl rfl rfl (by omega) (by omega) (by omega) (Nat.le_of_ble_eq_true rfl) ?_
  exact j_iret dX10_like_9 rfl rfl (by omega) (by omega) (⟨rfl, rfl⟩)
def okCon (p q c : Int32) : Bool := pcB p && pcB q && decide (¬ p = q) && decide ((-1 : Int32) ≤ c ∧ c ≤ 20)
def conS (C : CT) (p q c : Int32) : Int32 × CT × Bool := if okCon p q c = true then (if c = -1 then forgetS C p q else tellS C p q c) else (-2, C, false)
theorem c_confuse {p q c : Int32} (hn : N 0 ≤ 60) : JE G Y_X10_confuse 2 0 0 [.ref (Q 8), .int p, .int q, .int c] (cW G Q N Z F nm Ef P) (conS (cCT N F) p q c).1 (ptL G Q (conS (cCT N F) p q c).2.1 (nI (if (conS (cCT N F) p q c).2.2 = true then N 1 + 1 else N 1)) (Z 0) (N 2) (F 4) (F 5) (F 6) (N 3) (F 7) ++ (cRest G Q N Z F nm Ef ++ P)) := by
  refine JM.of [(0, .ref (Q 8)), (1, .int p), (2, .int q), (3, .int c)] rfl rfl (by simp) (Nat.le_of_ble_eq_true rfl) (by decide +kernel) ?_
  have kbad : okCon p q c = false → JJ G Y_X10_confuse 2 0 0 (Qi (fun r w => r = (conS (cCT N F) p q c).1 ∧ w = (ptL G Q (conS (cCT N F) p q c).2.1 (nI (if (conS (cCT N F) p q c).2.2 = true then N 1 + 1 else N 1)) (Z 0) (N 2) (F 4) (F 5) (F 6) (N 3) (F 7) ++ (cRest G Q N Z F nm Ef ++ P)))) 30 [(0, .ref (Q 8)), (1, .int p), (2, .int q), (3, .int c)] [] (cW G Q N Z F nm Ef P) 0 0 := by
    intro hb
    have e : conS (cCT N F) p q c = (-2, cCT N F, false) := by unfold conS; rw [if_neg (by rw [hb]; exact Bool.false_ne_true)]
    rw [e]
    refine j_bipush (n := 32) (-2) dX10_confuse_30 rfl (by decide) ?_
    exact j_iret dX10_confuse_32 rfl rfl (by omega) (by omega) (⟨rfl, rfl⟩)
  refine j_iload_n (n := 1) dX10_confuse_0 rfl rfl ?_
  refine j_callSe (n := 4) (Y1 := Y_X10_isPiece) dX10_confuse_1 m_X10_109 cy_X10_isPiece cs_X10_isPiece (c_isPiece) rfl rfl rfl (by omega) (by omega) (by omega) (Nat.le_of_ble_eq_true rfl) ?_
  refine j_if_eq (n := 7) 30 dX10_confuse_4 (by decide) rfl (fun c1 => ?_) (fun c1 => ?_)
  · exact kbad (by unfold okCon; rw [b01_0 c1]; rfl)
  · refine j_iload_n (n := 8) dX10_confuse_7 rfl rfl ?_
    refine j_callSe (n := 11) (Y1 := Y_X10_isPiece) dX10_confuse_8 m_X10_109 cy_X10_isPiece cs_X10_isPiece (c_isPiece) rfl rfl rfl (by omega) (by omega) (by omega) (Nat.le_of_ble_eq_true rfl) ?_
    refine j_if_eq (n := 14) 30 dX10_confuse_11 (by decide) rfl (fun c2 => ?_) (fun c2 => ?_)
    · exact kbad (by unfold okCon; rw [b01_0 c2, Bool.and_false]; rfl)
    · refine j_iload_n (n := 15) dX10_confuse_14 rfl rfl ?_
      refine j_iload_n (n := 16) dX10_confuse_15 rfl rfl ?_
      refine j_icmp_eq (n := 19) 30 dX10_confuse_16 (by decide) rfl (fun c3 => ?_) (fun c3 => ?_)
      · exact kbad (by unfold okCon; rw [decide_eq_false (fun z => z c3), Bool.and_false]; rfl)
      · refine j_iload_n (n := 20) dX10_confuse_19 rfl rfl ?_
        refine j_iconst (n := 21) (-1) dX10_confuse_20 rfl (by decide) ?_
        refine j_icmp_lt (n := 24) 30 dX10_confuse_21 (by decide) rfl (fun c4 => ?_) (fun c4 => ?_)
        · exact kbad (by unfold okCon; rw [decide_eq_false (p := (-1 : Int32) ≤ c ∧ c ≤ 20) (fun z => Int32.not_lt.mpr z.1 c4), Bool.and_false])
        · refine j_iload_n (n := 25) dX10_confuse_24 rfl rfl ?_
          refine j_bipush (n := 27) (20) dX10_confuse_25 rfl (by decide) ?_
          refine j_icmp_le (n := 30) 33 dX10_confuse_27 (by decide) rfl (fun c5 => ?_) (fun c5 => ?_)
          · have hy : okCon p q c = true := by
              unfold okCon
              rw [b01_n0 c1, b01_n0 c2, decide_eq_true c3, decide_eq_true (p := (-1 : Int32) ≤ c ∧ c ≤ 20) ⟨Int32.not_lt.mp c4, c5⟩]; rfl
            refine j_iload_n (n := 34) dX10_confuse_33 rfl rfl ?_
            refine j_iconst (n := 35) (-1) dX10_confuse_34 rfl (by decide) ?_
            refine j_icmp_ne (n := 38) 50 dX10_confuse_35 (by decide) rfl (fun c6 => ?_) (fun c6 => ?_)
            · have e : conS (cCT N F) p q c = tellS (cCT N F) p q c := by unfold conS; rw [if_pos hy, if_neg c6]
              rw [e]
              refine j_aload_n (n := 51) dX10_confuse_50 rfl rfl ?_
              refine j_get (n := 54) 8 dX10_confuse_51 f_X10_34 rfl rfl rfl ?_
              refine j_iload_n (n := 55) dX10_confuse_54 rfl rfl ?_
              refine j_iload_n (n := 56) dX10_confuse_55 rfl rfl ?_
              refine j_iload_n (n := 57) dX10_confuse_56 rfl rfl ?_
              refine j_callVe (n := 60) (Y1 := Y_X4_tell) 0 dX10_confuse_57 m_X10_115 cy_X4_tell ci_X4_tell (c_ptTell hn) rfl rfl rfl rfl rfl (by omega) (by omega) (by omega) (Nat.le_of_ble_eq_true rfl) ?_
              exact j_iret dX10_confuse_60 rfl rfl (by omega) (by omega) (⟨rfl, rfl⟩)
            · have e : conS (cCT N F) p q c = forgetS (cCT N F) p q := by unfold conS; rw [if_pos hy, if_pos c6]
              rw [e]
              refine j_aload_n (n := 39) dX10_confuse_38 rfl rfl ?_
              refine j_get (n := 42) 8 dX10_confuse_39 f_X10_34 rfl rfl rfl ?_
              refine j_iload_n (n := 43) dX10_confuse_42 rfl rfl ?_
              refine j_iload_n (n := 44) dX10_confuse_43 rfl rfl ?_
              refine j_callVe (n := 47) (Y1 := Y_X4_forget) 0 dX10_confuse_44 m_X10_112 cy_X4_forget ci_X4_forget (c_ptForget hn) rfl rfl rfl rfl rfl (by omega) (by omega) (by omega) (Nat.le_of_ble_eq_true rfl) ?_
              refine j_goto 60 dX10_confuse_47 (by decide) ?_
              exact j_iret dX10_confuse_60 rfl rfl (by omega) (by omega) (⟨rfl, rfl⟩)
          · exact kbad (by unfold okCon; rw [decide_eq_false (p := (-1 : Int32) ≤ c ∧ c ≤ 20) (fun z => c5 z.2), Bool.and_false])
end NG1

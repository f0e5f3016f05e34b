/-! small methods of the class: signs, pieces, sets; SignTable; ScriptSets; the lists' tell -/
def b01 (b : Bool) : Int32 := if b then 1 else 0
def sgB (x : Int32) : Bool := decide (33 ≤ x ∧ x ≤ 126)
def pcB (x : Int32) : Bool := sgB x || (sgB (x >>> (8 &&& 31)) && sgB (x &&& 255))
theorem b01_t : b01 true = 1 := rfl
theorem b01_f : b01 false = 0 := rfl
theorem sgB_f1 {x : Int32} (h : x < 33) : sgB x = false := by
  unfold sgB
  have : ¬ (33 ≤ x) := Int32.not_le.mpr h
  simp [this]
theorem sgB_f2 {x : Int32} (h : 126 < x) : sgB x = false := by
  unfold sgB
  have : ¬ (x ≤ 126) := Int32.not_le.mpr h
  simp [this]
theorem sgB_t {x : Int32} (h : ¬ x < 33) (h2 : ¬ 126 < x) : sgB x = true := by
  unfold sgB
  simp [Int32.not_lt.mp h, Int32.not_lt.mp h2]
section LF
variable {G : GT} {ws : va_W}
theorem c_isSign {x : Int32} : JE G Y_X10_isSign 0 0 0 [.int x] ws (b01 (sgB x)) ws := by
  refine JM.of [(0, .int x)] rfl rfl (by simp) (Nat.le_of_ble_eq_true rfl) (by decide +kernel) ?_
  refine j_iload_n (n := 1) dX10_isSign_0 rfl rfl ?_
  refine j_bipush (n := 3) (33) dX10_isSign_1 rfl (by decide) ?_
  refine j_icmp_lt (n := 6) 16 dX10_isSign_3 (by decide) rfl (fun c_3 => ?_) (fun c_3 => ?_)
  · refine j_iconst (n := 17) (0) dX10_isSign_16 rfl (by decide) ?_
    exact j_iret dX10_isSign_17 rfl (by first | rfl | decide) (by omega) (by omega) ⟨by first | (rw [sgB_f1 c_3]; rfl) | (rw [sgB_f2 c_9]; rfl) | (rw [sgB_t c_3 c_9]; rfl), rfl⟩
  · refine j_iload_n (n := 7) dX10_isSign_6 rfl rfl ?_
    refine j_bipush (n := 9) (126) dX10_isSign_7 rfl (by decide) ?_
    refine j_icmp_gt (n := 12) 16 dX10_isSign_9 (by decide) rfl (fun c_9 => ?_) (fun c_9 => ?_)
    · refine j_iconst (n := 17) (0) dX10_isSign_16 rfl (by decide) ?_
      exact j_iret dX10_isSign_17 rfl (by first | rfl | decide) (by omega) (by omega) ⟨by first | (rw [sgB_f1 c_3]; rfl) | (rw [sgB_f2 c_9]; rfl) | (rw [sgB_t c_3 c_9]; rfl), rfl⟩
    · refine j_iconst (n := 13) (1) dX10_isSign_12 rfl (by decide) ?_
      refine j_goto 17 dX10_isSign_13 (by decide) ?_
      exact j_iret dX10_isSign_17 rfl (by first | rfl | decide) (by omega) (by omega) ⟨by first | (rw [sgB_f1 c_3]; rfl) | (rw [sgB_f2 c_9]; rfl) | (rw [sgB_t c_3 c_9]; rfl), rfl⟩
theorem b01_0 {b : Bool} (h : b01 b = 0) : b = false := by cases b <;> first | rfl | cases h
theorem b01_n0 {b : Bool} (h : ¬ b01 b = 0) : b = true := by cases b <;> first | rfl | exact absurd rfl h
theorem c_isPiece {x : Int32} : JE G Y_X10_isPiece 1 0 0 [.int x] ws (b01 (pcB x)) ws := by
  refine JM.of [(0, .int x)] rfl rfl (by simp) (Nat.le_of_ble_eq_true rfl) (by decide +kernel) ?_
  refine j_iload_n (n := 1) dX10_isPiece_0 rfl rfl ?_
  refine j_callSe (n := 4) (Y1 := Y_X10_isSign) dX10_isPiece_1 m_X10_98 cy_X10_isSign cs_X10_isSign (c_isSign) rfl rfl rfl (by omega) (by omega) (by omega) (Nat.le_of_ble_eq_true rfl) ?_
  refine j_if_ne (n := 7) 28 dX10_isPiece_4 (by decide) rfl (fun c_4 => ?_) (fun c_4 => ?_)
  · refine j_iconst (n := 29) (1) dX10_isPiece_28 rfl (by decide) ?_
    refine j_goto 33 dX10_isPiece_29 (by decide) ?_
    exact j_iret dX10_isPiece_33 rfl (by first | rfl | decide) (by omega) (by omega) ⟨by (unfold pcB; first | (rw [b01_n0 c_4]; rfl) | (rw [b01_0 c_4, b01_0 c_14]; rfl) | (rw [b01_0 c_4, b01_n0 c_14, b01_0 c_25]; rfl) | (rw [b01_0 c_4, b01_n0 c_14, b01_n0 c_25]; rfl)), rfl⟩
  · refine j_iload_n (n := 8) dX10_isPiece_7 rfl rfl ?_
    refine j_bipush (n := 10) (8) dX10_isPiece_8 rfl (by decide) ?_
    refine j_ishr (n := 11) dX10_isPiece_10 rfl ?_
    refine j_callSe (n := 14) (Y1 := Y_X10_isSign) dX10_isPiece_11 m_X10_98 cy_X10_isSign cs_X10_isSign (c_isSign) rfl rfl rfl (by omega) (by omega) (by omega) (Nat.le_of_ble_eq_true rfl) ?_
    refine j_if_eq (n := 17) 32 dX10_isPiece_14 (by decide) rfl (fun c_14 => ?_) (fun c_14 => ?_)
    · refine j_iconst (n := 33) (0) dX10_isPiece_32 rfl (by decide) ?_
      exact j_iret dX10_isPiece_33 rfl (by first | rfl | decide) (by omega) (by omega) ⟨by (unfold pcB; first | (rw [b01_n0 c_4]; rfl) | (rw [b01_0 c_4, b01_0 c_14]; rfl) | (rw [b01_0 c_4, b01_n0 c_14, b01_0 c_25]; rfl) | (rw [b01_0 c_4, b01_n0 c_14, b01_n0 c_25]; rfl)), rfl⟩
    · refine j_iload_n (n := 18) dX10_isPiece_17 rfl rfl ?_
      refine j_sipush (n := 21) (255) dX10_isPiece_18 rfl (by decide) ?_
      refine j_iand (n := 22) dX10_isPiece_21 rfl ?_
      refine j_callSe (n := 25) (Y1 := Y_X10_isSign) dX10_isPiece_22 m_X10_98 cy_X10_isSign cs_X10_isSign (c_isSign) rfl rfl rfl (by omega) (by omega) (by omega) (Nat.le_of_ble_eq_true rfl) ?_
      refine j_if_eq (n := 28) 32 dX10_isPiece_25 (by decide) rfl (fun c_25 => ?_) (fun c_25 => ?_)
      · refine j_iconst (n := 33) (0) dX10_isPiece_32 rfl (by decide) ?_
        exact j_iret dX10_isPiece_33 rfl (by first | rfl | decide) (by omega) (by omega) ⟨by (unfold pcB; first | (rw [b01_n0 c_4]; rfl) | (rw [b01_0 c_4, b01_0 c_14]; rfl) | (rw [b01_0 c_4, b01_n0 c_14, b01_0 c_25]; rfl) | (rw [b01_0 c_4, b01_n0 c_14, b01_n0 c_25]; rfl)), rfl⟩
      · refine j_iconst (n := 29) (1) dX10_isPiece_28 rfl (by decide) ?_
        refine j_goto 33 dX10_isPiece_29 (by decide) ?_
        exact j_iret dX10_isPiece_33 rfl (by first | rfl | decide) (by omega) (by omega) ⟨by (unfold pcB; first | (rw [b01_n0 c_4]; rfl) | (rw [b01_0 c_4, b01_0 c_14]; rfl) | (rw [b01_0 c_4, b01_n0 c_14, b01_0 c_25]; rfl) | (rw [b01_0 c_4, b01_n0 c_14, b01_n0 c_25]; rfl)), rfl⟩
def setB (x : Int32) : Bool := decide (x ≠ 0) && decide (x &&& (-255) = 0)
theorem c_isSet {x : Int32} : JE G Y_X10_isSet 0 0 0 [.int x] ws (b01 (setB x)) ws := by
  refine JM.of [(0, .int x)] rfl rfl (by simp) (Nat.le_of_ble_eq_true rfl) (by decide +kernel) ?_
  refine j_iload_n (n := 1) dX10_isSet_0 rfl rfl ?_
  refine j_if_eq (n := 4) 16 dX10_isSet_1 (by decide) rfl (fun c_1 => ?_) (fun c_1 => ?_)
  · refine j_iconst (n := 17) (0) dX10_isSet_16 rfl (by decide) ?_
    exact j_iret dX10_isSet_17 rfl (by first | rfl | decide) (by omega) (by omega) ⟨by first | (simp [setB, c_1, c_9, b01]; done) | (simp [setB, c_1, b01]; done), rfl⟩
  · refine j_iload_n (n := 5) dX10_isSet_4 rfl rfl ?_
    refine j_sipush (n := 8) (-255) dX10_isSet_5 rfl (by decide) ?_
    refine j_iand (n := 9) dX10_isSet_8 rfl ?_
    refine j_if_ne (n := 12) 16 dX10_isSet_9 (by decide) rfl (fun c_9 => ?_) (fun c_9 => ?_)
    · refine j_iconst (n := 17) (0) dX10_isSet_16 rfl (by decide) ?_
      exact j_iret dX10_isSet_17 rfl (by first | rfl | decide) (by omega) (by omega) ⟨by first | (simp [setB, c_1, c_9, b01]; done) | (simp [setB, c_1, b01]; done), rfl⟩
    · refine j_iconst (n := 13) (1) dX10_isSet_12 rfl (by decide) ?_
      refine j_goto 17 dX10_isSet_13 (by decide) ?_
      exact j_iret dX10_isSet_17 rfl (by first | rfl | decide) (by omega) (by omega) ⟨by first | (simp [setB, c_1, c_9, b01]; done) | (simp [setB, c_1, b01]; done), rfl⟩
theorem c_bit {x : Int32} : JE G Y_X10_bit 0 0 0 [.int x] ws (if x = 0 then 0 else 1) ws := by
  refine JM.of [(0, .int x)] rfl rfl (by simp) (Nat.le_of_ble_eq_true rfl) (by decide +kernel) ?_
  refine j_iload_n (n := 1) dX10_bit_0 rfl rfl ?_
  refine j_if_eq (n := 4) 8 dX10_bit_1 (by decide) rfl (fun c_1 => ?_) (fun c_1 => ?_)
  · refine j_iconst (n := 9) (0) dX10_bit_8 rfl (by decide) ?_
    exact j_iret dX10_bit_9 rfl rfl (by omega) (by omega) ⟨by simp [c_1], rfl⟩
  · refine j_iconst (n := 5) (1) dX10_bit_4 rfl (by decide) ?_
    refine j_goto 9 dX10_bit_5 (by decide) ?_
    exact j_iret dX10_bit_9 rfl rfl (by omega) (by omega) ⟨by simp [c_1], rfl⟩
-- SignTable: its cell k0, scripts k1, hows k2
def howF (hw : Nat → Int32) (x : Int32) : Int32 := if sgB x = true then hw x.toNatClampNeg else 1
def scrF (sc : Nat → Int32) (x : Int32) : Int32 := if sgB x = true then sc x.toNatClampNeg else 0
theorem sg_nat {x : Int32} (h : sgB x = true) : ∃ j : Nat, x = nI j ∧ 33 ≤ j ∧ j ≤ 126 := by
  have h' : 33 ≤ x ∧ x ≤ 126 := by simpa [sgB] using h
  obtain ⟨j, hj, rfl⟩ := nI_of2 (x := x) (M := 126) (n := 126) rfl (fun q => by
    have := Int32.lt_iff_toInt_lt.mp q
    have h2 := Int32.le_iff_toInt_le.mp h'.1
    simp at this h2
    omega) h'.2
  refine ⟨j, rfl, ?_, hj⟩
  have h2 := Int32.le_iff_toInt_le.mp h'.1
  rw [nI_toInt (by omega)] at h2
  simp at h2
  omega
theorem sg_of {j : Nat} (h1 : 33 ≤ j) (h2 : j ≤ 126) : sgB (nI j) = true := by
  have e1 : (33 : Int32) ≤ nI j := (nI_leI (a := 33) (b := j) (by omega) (by omega)).mpr h1
  have e2 : nI j ≤ (126 : Int32) := (nI_leI (a := j) (b := 126) (by omega) (by omega)).mpr h2
  simp [sgB, e1, e2]
theorem c_howOf {a0 a1 a2 : Nat} {stamp : Int32} {hw : Nat → Int32} {x : Int32} (k0 : Nat) (h0 : ws[k0]? = some (a0, .inr (7, [.ref a1, .ref a2, .int stamp]))) (k2 : Nat) (h2 : ws[k2]? = some (a2, .inl (gI G, 127, .inl hw))) : JE G Y_X7_howOf 1 0 0 [.ref a0, .int x] ws (howF hw x) ws := by
  refine JM.of [(0, .ref a0), (1, .int x)] rfl rfl (by simp) (Nat.le_of_ble_eq_true rfl) (by decide +kernel) ?_
  refine j_iload_n (n := 1) dX7_howOf_0 rfl rfl ?_
  refine j_callSNe (n := 4) (Y1 := Y_X10_isSign) dX7_howOf_1 m_X7_28 cy_X10_isSign cs_X10_isSign (c_isSign) rfl rfl rfl (by omega) (by omega) (by omega) (Nat.le_of_ble_eq_true rfl) ?_
  refine j_if_eq (n := 7) 16 dX7_howOf_4 (by decide) rfl (fun c => ?_) (fun c => ?_)
  · refine j_iconst (n := 17) (1) dX7_howOf_16 rfl (by decide) ?_
    exact j_iret dX7_howOf_17 rfl rfl (by omega) (by omega) (⟨by simp [howF, b01_0 c], rfl⟩)
  · have hs := b01_n0 c
    obtain ⟨j, rfl, hj1, hj2⟩ := sg_nat hs
    refine j_aload_n (n := 8) dX7_howOf_7 rfl rfl ?_
    refine j_get (n := 11) _ dX7_howOf_8 f_X7_15 rfl h0 rfl ?_
    refine j_iload_n (n := 12) dX7_howOf_11 rfl rfl ?_
    refine j_iald (n := 13) _ j dX7_howOf_12 rfl h2 rfl (by omega) (by omega) ?_
    refine j_goto 17 dX7_howOf_13 (by decide) ?_
    exact j_iret dX7_howOf_17 rfl rfl (by omega) (by omega) (⟨by simp [howF, hs, nI_clamp (show j < 2 ^ 31 by omega)], rfl⟩)
theorem c_scriptOf {a0 a1 a2 : Nat} {stamp : Int32} {sc : Nat → Int32} {x : Int32} (k0 : Nat) (h0 : ws[k0]? = some (a0, .inr (7, [.ref a1, .ref a2, .int stamp]))) (k1 : Nat) (h1 : ws[k1]? = some (a1, .inl (gI G, 127, .inl sc))) : JE G Y_X7_scriptOf 1 0 0 [.ref a0, .int x] ws (scrF sc x) ws := by
  refine JM.of [(0, .ref a0), (1, .int x)] rfl rfl (by simp) (Nat.le_of_ble_eq_true rfl) (by decide +kernel) ?_
  refine j_iload_n (n := 1) dX7_scriptOf_0 rfl rfl ?_
  refine j_callSNe (n := 4) (Y1 := Y_X10_isSign) dX7_scriptOf_1 m_X7_28 cy_X10_isSign cs_X10_isSign (c_isSign) rfl rfl rfl (by omega) (by omega) (by omega) (Nat.le_of_ble_eq_true rfl) ?_
  refine j_if_eq (n := 7) 16 dX7_scriptOf_4 (by decide) rfl (fun c => ?_) (fun c => ?_)
  · refine j_iconst (n := 17) (0) dX7_scriptOf_16 rfl (by decide) ?_
    exact j_iret dX7_scriptOf_17 rfl rfl (by omega) (by omega) (⟨by simp [scrF, b01_0 c], rfl⟩)
  · have hs := b01_n0 c
    obtain ⟨j, rfl, hj1, hj2⟩ := sg_nat hs
    refine j_aload_n (n := 8) dX7_scriptOf_7 rfl rfl ?_
    refine j_get (n := 11) _ dX7_scriptOf_8 f_X7_9 rfl h0 rfl ?_
    refine j_iload_n (n := 12) dX7_scriptOf_11 rfl rfl ?_
    refine j_iald (n := 13) _ j dX7_scriptOf_12 rfl h1 rfl (by omega) (by omega) ?_
    refine j_goto 17 dX7_scriptOf_13 (by decide) ?_
    exact j_iret dX7_scriptOf_17 rfl rfl (by omega) (by omega) (⟨by simp [scrF, hs, nI_clamp (show j < 2 ^ 31 by omega)], rfl⟩)
end LF

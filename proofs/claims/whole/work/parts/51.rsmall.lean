/-! the reference: small methods -/
theorem btw_lo {i y : Int32} (h : i < 0) : btw i 0 y = false := by unfold btw; rw [decide_eq_false (fun q => q h)]; rfl
theorem btw_hi {i : Int32} {n : Nat} (hn : n < 2 ^ 30) (h : nI n ≤ i) : btw i 0 (nI n - 1) = false := by
  have h1 : nI n - 1 < i := by
    have a1 := Int32.le_iff_toInt_le.mp h
    have a2 : (nI n - nI 1).toInt = (n : Int) - (1 : Nat) := pk_sub_toInt hn (by omega)
    rw [nI_toInt (by omega)] at a1
    refine Int32.lt_iff_toInt_lt.mpr ?_
    rw [show (nI n - 1).toInt = (n : Int) - (1 : Nat) from a2]
    omega
  unfold btw
  rw [decide_eq_false (p := ¬ nI n - 1 < i) (fun q => q h1), Bool.and_false]
theorem btw_in {j n : Nat} (hn : n < 2 ^ 30) (h : j < n) : btw (nI j) 0 (nI n - 1) = true := by
  have h1 : ¬ nI n - 1 < nI j := by
    intro q
    have a1 := Int32.lt_iff_toInt_lt.mp q
    have a2 : (nI n - nI 1).toInt = (n : Int) - (1 : Nat) := pk_sub_toInt hn (by omega)
    rw [nI_toInt (show j < 2 ^ 31 by omega), show (nI n - 1).toInt = (n : Int) - (1 : Nat) from a2] at a1
    omega
  unfold btw
  rw [decide_eq_true (p := ¬ nI j < 0) (nI_pos (by omega)), decide_eq_true h1]; rfl
theorem btw_and (x lo hi : Int32) : btw x lo hi = decide (lo ≤ x ∧ x ≤ hi) := by
  unfold btw
  simp only [Int32.not_lt]
  rw [Bool.decide_and]
theorem btw_03 (x : Int32) : btw x 0 3 = decide (¬ (x < 0 ∨ 4 ≤ x)) := by
  rcases ix3 x (n := 4) (by omega) with h | h | ⟨j, hj, rfl⟩
  · rw [btw_lo h, decide_eq_false (fun q => q (Or.inl h))]
  · rw [show btw x 0 3 = false from btw_hi (n := 4) (by omega) h, decide_eq_false (fun q => q (Or.inr (show 4 ≤ x from h)))]
  · rw [show btw (nI j) 0 3 = true from btw_in (n := 4) (by omega) hj, decide_eq_true (p := ¬ (nI j < 0 ∨ 4 ≤ nI j)) (fun q => q.elim (nI_pos (by omega)) (nI_ge (b := 4) hj (by omega)))]
section R2
variable {G : GT} {A M : Nat → Nat} {Z : Nat → Int32} {R : Nat → Nat → Int32} {P : va_W}
theorem r_end {n : Int32} (ht : M 3 ≤ 200) : JE G Y_X11_end 0 0 0 [.ref (A 0), .int n] (rW G A M Z R P) (endS (M 3) n) (rW G A (if n < 0 ∨ nI (M 3) < n then M else va_up M 3 n.toNatClampNeg) Z R P) := by
  unfold endS
  refine JM.of [(0, .ref (A 0)), (1, .int n)] rfl rfl (by simp) (Nat.le_of_ble_eq_true rfl) (by decide +kernel) ?_
  refine j_iload_n (n := 1) dX11_end_0 rfl rfl ?_
  refine j_if_lt (n := 4) 12 dX11_end_1 (by decide) rfl (fun c => ?_) (fun c => ?_)
  · rw [if_pos (Or.inl c), if_pos (Or.inl c)]
    refine j_iconst (n := 13) (-1) dX11_end_12 rfl (by decide) ?_
    exact j_iret dX11_end_13 rfl rfl (by omega) (by omega) (⟨rfl, rfl⟩)
  · refine j_iload_n (n := 5) dX11_end_4 rfl rfl ?_
    refine j_aload_n (n := 6) dX11_end_5 rfl rfl ?_
    refine j_get (n := 9) 0 dX11_end_6 f_X11_110 rfl rfl rfl ?_
    refine j_icmp_le (n := 12) 14 dX11_end_9 (by decide) rfl (fun c2 => ?_) (fun c2 => ?_)
    · have hn : ¬ (n < 0 ∨ nI (M 3) < n) := fun q => q.elim c (fun q => Int32.not_lt.mpr c2 q)
      rw [if_neg hn, if_neg hn]
      obtain ⟨j, hj, rfl⟩ := nI_of c
      rw [nI_clamp hj]
      refine j_aload_n (n := 15) dX11_end_14 rfl rfl ?_
      refine j_iload_n (n := 16) dX11_end_15 rfl rfl ?_
      refine j_put (n := 19) 0 dX11_end_16 f_X11_110 rfl rfl rfl (Nat.le_of_ble_eq_true rfl) rfl rfl ?_
      refine j_iload_n (n := 20) dX11_end_19 rfl rfl ?_
      exact j_iret dX11_end_20 rfl rfl (by omega) (by omega) (⟨rfl, rfl⟩)
    · have hn : n < 0 ∨ nI (M 3) < n := Or.inr (Int32.not_le.mp c2)
      rw [if_pos hn, if_pos hn]
      refine j_iconst (n := 13) (-1) dX11_end_12 rfl (by decide) ?_
      exact j_iret dX11_end_13 rfl rfl (by omega) (by omega) (⟨rfl, rfl⟩)
theorem r_script {x s : Int32} : JE G Y_X11_script 2 0 0 [.ref (A 0), .int x, .int s] (rW G A M Z R P) (if okScr x s = true then R 1 x.toNatClampNeg else -2) (rW G A M Z (if okScr x s = true then va_up R 1 (upd (R 1) x.toNatClampNeg s) else R) P) := by
  unfold okScr
  rw [← btw_and s 0 7]
  refine JM.of [(0, .ref (A 0)), (1, .int x), (2, .int s)] rfl rfl (by simp) (Nat.le_of_ble_eq_true rfl) (by decide +kernel) ?_
  refine j_iload_n (n := 1) dX11_script_0 rfl rfl ?_
  refine j_callSe (n := 4) (Y1 := Y_X11_isSign) dX11_script_1 m_X11_113 cy_X11_isSign cs_X11_isSign (r_isSign) rfl rfl rfl (by omega) (by omega) (by omega) (Nat.le_of_ble_eq_true rfl) ?_
  refine j_if_eq (n := 7) 17 dX11_script_4 (by decide) rfl (fun c => ?_) (fun c => ?_)
  · rw [b01_0 c]
    refine j_bipush (n := 19) (-2) dX11_script_17 rfl (by decide) ?_
    exact j_iret dX11_script_19 rfl rfl (by omega) (by omega) (⟨rfl, rfl⟩)
  · refine j_iload_n (n := 8) dX11_script_7 rfl rfl ?_
    refine j_iconst (n := 9) (0) dX11_script_8 rfl (by decide) ?_
    refine j_bipush (n := 11) (7) dX11_script_9 rfl (by decide) ?_
    refine j_callSe (n := 14) (Y1 := Y_X11_in) dX11_script_11 m_X11_106 cy_X11_in cs_X11_in (r_in) rfl rfl rfl (by omega) (by omega) (by omega) (Nat.le_of_ble_eq_true rfl) ?_
    refine j_if_ne (n := 17) 20 dX11_script_14 (by decide) rfl (fun c2 => ?_) (fun c2 => ?_)
    · rw [b01_n0 c, b01_n0 c2]
      obtain ⟨j, rfl, j1, j2⟩ := sg_nat (b01_n0 c)
      rw [nI_clamp (show j < 2 ^ 31 by omega)]
      refine j_aload_n (n := 21) dX11_script_20 rfl rfl ?_
      refine j_get (n := 24) 0 dX11_script_21 f_X11_7 rfl rfl rfl ?_
      refine j_iload_n (n := 25) dX11_script_24 rfl rfl ?_
      refine j_iald (n := 26) 1 j dX11_script_25 rfl rfl rfl (by omega) (by omega) ?_
      refine j_istore_n (n := 27) dX11_script_26 rfl (by decide) ?_
      refine j_aload_n (n := 28) dX11_script_27 rfl rfl ?_
      refine j_get (n := 31) 0 dX11_script_28 f_X11_7 rfl rfl rfl ?_
      refine j_iload_n (n := 32) dX11_script_31 rfl rfl ?_
      refine j_iload_n (n := 33) dX11_script_32 rfl rfl ?_
      refine j_iast (n := 34) 1 j dX11_script_33 rfl rfl rfl (by omega) (by omega) ?_
      refine j_iload_n (n := 35) dX11_script_34 rfl rfl ?_
      exact j_iret dX11_script_35 rfl rfl (by omega) (by omega) (⟨rfl, rfl⟩)
    · rw [b01_n0 c, b01_0 c2]
      refine j_bipush (n := 19) (-2) dX11_script_17 rfl (by decide) ?_
      exact j_iret dX11_script_19 rfl rfl (by omega) (by omega) (⟨rfl, rfl⟩)
theorem r_seen {x s : Int32} : JE G Y_X11_seen 2 0 0 [.ref (A 0), .int x, .int s] (rW G A M Z R P) (if okHow x s = true then R 2 x.toNatClampNeg else -2) (rW G A M Z (if okHow x s = true then va_up R 2 (upd (R 2) x.toNatClampNeg s) else R) P) := by
  unfold okHow
  rw [← btw_and s 0 2]
  refine JM.of [(0, .ref (A 0)), (1, .int x), (2, .int s)] rfl rfl (by simp) (Nat.le_of_ble_eq_true rfl) (by decide +kernel) ?_
  refine j_iload_n (n := 1) dX11_seen_0 rfl rfl ?_
  refine j_callSe (n := 4) (Y1 := Y_X11_isSign) dX11_seen_1 m_X11_113 cy_X11_isSign cs_X11_isSign (r_isSign) rfl rfl rfl (by omega) (by omega) (by omega) (Nat.le_of_ble_eq_true rfl) ?_
  refine j_if_eq (n := 7) 16 dX11_seen_4 (by decide) rfl (fun c => ?_) (fun c => ?_)
  · rw [b01_0 c]
    refine j_bipush (n := 18) (-2) dX11_seen_16 rfl (by decide) ?_
    exact j_iret dX11_seen_18 rfl rfl (by omega) (by omega) (⟨rfl, rfl⟩)
  · refine j_iload_n (n := 8) dX11_seen_7 rfl rfl ?_
    refine j_iconst (n := 9) (0) dX11_seen_8 rfl (by decide) ?_
    refine j_iconst (n := 10) (2) dX11_seen_9 rfl (by decide) ?_
    refine j_callSe (n := 13) (Y1 := Y_X11_in) dX11_seen_10 m_X11_106 cy_X11_in cs_X11_in (r_in) rfl rfl rfl (by omega) (by omega) (by omega) (Nat.le_of_ble_eq_true rfl) ?_
    refine j_if_ne (n := 16) 19 dX11_seen_13 (by decide) rfl (fun c2 => ?_) (fun c2 => ?_)
    · rw [b01_n0 c, b01_n0 c2]
      obtain ⟨j, rfl, j1, j2⟩ := sg_nat (b01_n0 c)
      rw [nI_clamp (show j < 2 ^ 31 by omega)]
      refine j_aload_n (n := 20) dX11_seen_19 rfl rfl ?_
      refine j_get (n := 23) 0 dX11_seen_20 f_X11_13 rfl rfl rfl ?_
      refine j_iload_n (n := 24) dX11_seen_23 rfl rfl ?_
      refine j_iald (n := 25) 2 j dX11_seen_24 rfl rfl rfl (by omega) (by omega) ?_
      refine j_istore_n (n := 26) dX11_seen_25 rfl (by decide) ?_
      refine j_aload_n (n := 27) dX11_seen_26 rfl rfl ?_
      refine j_get (n := 30) 0 dX11_seen_27 f_X11_13 rfl rfl rfl ?_
      refine j_iload_n (n := 31) dX11_seen_30 rfl rfl ?_
      refine j_iload_n (n := 32) dX11_seen_31 rfl rfl ?_
      refine j_iast (n := 33) 2 j dX11_seen_32 rfl rfl rfl (by omega) (by omega) ?_
      refine j_iload_n (n := 34) dX11_seen_33 rfl rfl ?_
      exact j_iret dX11_seen_34 rfl rfl (by omega) (by omega) (⟨rfl, rfl⟩)
    · rw [b01_n0 c, b01_0 c2]
      refine j_bipush (n := 18) (-2) dX11_seen_16 rfl (by decide) ?_
      exact j_iret dX11_seen_18 rfl rfl (by omega) (by omega) (⟨rfl, rfl⟩)
theorem r_fault {w : Int32} : JE G Y_X11_fault 0 0 0 [.ref (A 0), .int w] (rW G A M Z R P) (if w = 0 then Z 17 else if w = 1 then Z 18 else -1) (rW G A M Z R P) := by
  refine JM.of [(0, .ref (A 0)), (1, .int w)] rfl rfl (by simp) (Nat.le_of_ble_eq_true rfl) (by decide +kernel) ?_
  refine j_iload_n (n := 1) dX11_fault_0 rfl rfl ?_
  refine j_if_ne (n := 4) 11 dX11_fault_1 (by decide) rfl (fun c => ?_) (fun c => ?_)
  · rw [if_neg c]
    refine j_iload_n (n := 12) dX11_fault_11 rfl rfl ?_
    refine j_iconst (n := 13) (1) dX11_fault_12 rfl (by decide) ?_
    refine j_icmp_ne (n := 16) 23 dX11_fault_13 (by decide) rfl (fun c2 => ?_) (fun c2 => ?_)
    · rw [if_neg c2]
      refine j_iconst (n := 24) (-1) dX11_fault_23 rfl (by decide) ?_
      exact j_iret dX11_fault_24 rfl rfl (by omega) (by omega) (⟨rfl, rfl⟩)
    · rw [if_pos c2]
      refine j_aload_n (n := 17) dX11_fault_16 rfl rfl ?_
      refine j_get (n := 20) 0 dX11_fault_17 f_X11_47 rfl rfl rfl ?_
      refine j_goto 24 dX11_fault_20 (by decide) ?_
      exact j_iret dX11_fault_24 rfl rfl (by omega) (by omega) (⟨rfl, rfl⟩)
  · rw [if_pos c]
    refine j_aload_n (n := 5) dX11_fault_4 rfl rfl ?_
    refine j_get (n := 8) 0 dX11_fault_5 f_X11_148 rfl rfl rfl ?_
    refine j_goto 24 dX11_fault_8 (by decide) ?_
    exact j_iret dX11_fault_24 rfl rfl (by omega) (by omega) (⟨rfl, rfl⟩)
theorem r_wrong {a b : Int32} : JE G Y_X11_wrong 0 0 0 [.ref (A 0), .int a, .int b] (rW G A M Z R P) (b01 false) (rW G A M (va_up (va_up Z 17 a) 18 b) R P) := by
  refine JM.of [(0, .ref (A 0)), (1, .int a), (2, .int b)] rfl rfl (by simp) (Nat.le_of_ble_eq_true rfl) (by decide +kernel) ?_
  refine j_aload_n (n := 1) dX11_wrong_0 rfl rfl ?_
  refine j_iload_n (n := 2) dX11_wrong_1 rfl rfl ?_
  refine j_put (n := 5) 0 dX11_wrong_2 f_X11_148 rfl rfl rfl (Nat.le_of_ble_eq_true rfl) rfl rfl ?_
  refine j_aload_n (n := 6) dX11_wrong_5 rfl rfl ?_
  refine j_iload_n (n := 7) dX11_wrong_6 rfl rfl ?_
  refine j_put (n := 10) 0 dX11_wrong_7 f_X11_47 rfl rfl rfl (Nat.le_of_ble_eq_true rfl) rfl rfl ?_
  refine j_iconst (n := 11) (0) dX11_wrong_10 rfl (by decide) ?_
  exact j_iret dX11_wrong_11 rfl rfl (by omega) (by omega) (⟨rfl, rfl⟩)
theorem r_nearest {i w : Int32} (h : M 33 ≤ 200) : JE G Y_X11_nearest 1 0 0 [.ref (A 0), .int i, .int w] (rW G A M Z R P) (tl2 (M 33) (R 22) (R 23) i w) (rW G A M Z R P) := by
  unfold tl2
  refine JM.of [(0, .ref (A 0)), (1, .int i), (2, .int w)] rfl rfl (by simp) (Nat.le_of_ble_eq_true rfl) (by decide +kernel) ?_
  refine j_iload_n (n := 1) dX11_nearest_0 rfl rfl ?_
  refine j_iconst (n := 2) (0) dX11_nearest_1 rfl (by decide) ?_
  refine j_aload_n (n := 3) dX11_nearest_2 rfl rfl ?_
  refine j_get (n := 6) 0 dX11_nearest_3 f_X11_208 rfl rfl rfl ?_
  refine j_iconst (n := 7) (1) dX11_nearest_6 rfl (by decide) ?_
  refine j_isub (n := 8) dX11_nearest_7 rfl ?_
  refine j_callSe (n := 11) (Y1 := Y_X11_in) dX11_nearest_8 m_X11_106 cy_X11_in cs_X11_in (r_in) rfl rfl rfl (by omega) (by omega) (by omega) (Nat.le_of_ble_eq_true rfl) ?_
  rcases ix3 i (n := M 33) (by omega) with hi | hi | ⟨j, hj, rfl⟩
  · rw [btw_lo hi, if_pos (Or.inl hi)]
    refine j_if_ne (n := 14) 16 dX11_nearest_11 (by decide) rfl (fun c => ?_) (fun c => ?_)
    · exact absurd rfl c
    · refine j_iconst (n := 15) (-1) dX11_nearest_14 rfl (by decide) ?_
      exact j_iret dX11_nearest_15 rfl rfl (by omega) (by omega) (⟨rfl, rfl⟩)
  · rw [btw_hi (by omega) hi, if_pos (Or.inr hi)]
    refine j_if_ne (n := 14) 16 dX11_nearest_11 (by decide) rfl (fun c => ?_) (fun c => ?_)
    · exact absurd rfl c
    · refine j_iconst (n := 15) (-1) dX11_nearest_14 rfl (by decide) ?_
      exact j_iret dX11_nearest_15 rfl rfl (by omega) (by omega) (⟨rfl, rfl⟩)
  · rw [btw_in (by omega) hj, if_neg (fun q => q.elim (nI_pos (by omega)) (nI_ge hj (by omega))), nI_clamp (show j < 2 ^ 31 by omega)]
    refine j_if_ne (n := 14) 16 dX11_nearest_11 (by decide) rfl (fun c => ?_) (fun c => ?_)
    · refine j_iload_n (n := 17) dX11_nearest_16 rfl rfl ?_
      refine j_if_ne (n := 20) 29 dX11_nearest_17 (by decide) rfl (fun c1 => ?_) (fun c1 => ?_)
      · rw [if_neg c1]
        refine j_iload_n (n := 30) dX11_nearest_29 rfl rfl ?_
        refine j_iconst (n := 31) (1) dX11_nearest_30 rfl (by decide) ?_
        refine j_icmp_ne (n := 34) 43 dX11_nearest_31 (by decide) rfl (fun c2 => ?_) (fun c2 => ?_)
        · rw [if_neg c2]
          refine j_iconst (n := 44) (-1) dX11_nearest_43 rfl (by decide) ?_
          exact j_iret dX11_nearest_44 rfl rfl (by omega) (by omega) (⟨rfl, rfl⟩)
        · rw [if_pos c2]
          refine j_aload_n (n := 35) dX11_nearest_34 rfl rfl ?_
          refine j_get (n := 38) 0 dX11_nearest_35 f_X11_82 rfl rfl rfl ?_
          refine j_iload_n (n := 39) dX11_nearest_38 rfl rfl ?_
          refine j_iald (n := 40) 23 j dX11_nearest_39 rfl rfl rfl (by omega) (by omega) ?_
          refine j_goto 44 dX11_nearest_40 (by decide) ?_
          exact j_iret dX11_nearest_44 rfl rfl (by omega) (by omega) (⟨rfl, rfl⟩)
      · rw [if_pos c1]
        refine j_aload_n (n := 21) dX11_nearest_20 rfl rfl ?_
        refine j_get (n := 24) 0 dX11_nearest_21 f_X11_79 rfl rfl rfl ?_
        refine j_iload_n (n := 25) dX11_nearest_24 rfl rfl ?_
        refine j_iald (n := 26) 22 j dX11_nearest_25 rfl rfl rfl (by omega) (by omega) ?_
        refine j_goto 44 dX11_nearest_26 (by decide) ?_
        exact j_iret dX11_nearest_44 rfl rfl (by omega) (by omega) (⟨rfl, rfl⟩)
    · exact absurd (show b01 true = 0 from c) (by decide)
theorem r_way {i w : Int32} (h : M 37 ≤ 40) : JE G Y_X11_way 1 0 0 [.ref (A 0), .int i, .int w] (rW G A M Z R P) (tl3 (M 37) (R 24) (R 25) (R 26) i w) (rW G A M Z R P) := by
  unfold tl3
  refine JM.of [(0, .ref (A 0)), (1, .int i), (2, .int w)] rfl rfl (by simp) (Nat.le_of_ble_eq_true rfl) (by decide +kernel) ?_
  refine j_iload_n (n := 1) dX11_way_0 rfl rfl ?_
  refine j_iconst (n := 2) (0) dX11_way_1 rfl (by decide) ?_
  refine j_aload_n (n := 3) dX11_way_2 rfl rfl ?_
  refine j_get (n := 6) 0 dX11_way_3 f_X11_211 rfl rfl rfl ?_
  refine j_iconst (n := 7) (1) dX11_way_6 rfl (by decide) ?_
  refine j_isub (n := 8) dX11_way_7 rfl ?_
  refine j_callSe (n := 11) (Y1 := Y_X11_in) dX11_way_8 m_X11_106 cy_X11_in cs_X11_in (r_in) rfl rfl rfl (by omega) (by omega) (by omega) (Nat.le_of_ble_eq_true rfl) ?_
  rcases ix3 i (n := M 37) (by omega) with hi | hi | ⟨j, hj, rfl⟩
  · rw [btw_lo hi, if_pos (Or.inl hi)]
    refine j_if_ne (n := 14) 16 dX11_way_11 (by decide) rfl (fun c => ?_) (fun c => ?_)
    · exact absurd rfl c
    · refine j_iconst (n := 15) (-1) dX11_way_14 rfl (by decide) ?_
      exact j_iret dX11_way_15 rfl rfl (by omega) (by omega) (⟨rfl, rfl⟩)
  · rw [btw_hi (by omega) hi, if_pos (Or.inr hi)]
    refine j_if_ne (n := 14) 16 dX11_way_11 (by decide) rfl (fun c => ?_) (fun c => ?_)
    · exact absurd rfl c
    · refine j_iconst (n := 15) (-1) dX11_way_14 rfl (by decide) ?_
      exact j_iret dX11_way_15 rfl rfl (by omega) (by omega) (⟨rfl, rfl⟩)
  · rw [btw_in (by omega) hj, if_neg (fun q => q.elim (nI_pos (by omega)) (nI_ge hj (by omega))), nI_clamp (show j < 2 ^ 31 by omega)]
    refine j_if_ne (n := 14) 16 dX11_way_11 (by decide) rfl (fun c => ?_) (fun c => ?_)
    · refine j_iload_n (n := 17) dX11_way_16 rfl rfl ?_
      refine j_if_ne (n := 20) 29 dX11_way_17 (by decide) rfl (fun c1 => ?_) (fun c1 => ?_)
      · rw [if_neg c1]
        refine j_iload_n (n := 30) dX11_way_29 rfl rfl ?_
        refine j_iconst (n := 31) (1) dX11_way_30 rfl (by decide) ?_
        refine j_icmp_ne (n := 34) 43 dX11_way_31 (by decide) rfl (fun c2 => ?_) (fun c2 => ?_)
        · rw [if_neg c2]
          refine j_iload_n (n := 44) dX11_way_43 rfl rfl ?_
          refine j_iconst (n := 45) (2) dX11_way_44 rfl (by decide) ?_
          refine j_icmp_ne (n := 48) 57 dX11_way_45 (by decide) rfl (fun c3 => ?_) (fun c3 => ?_)
          · rw [if_neg c3]
            refine j_iconst (n := 58) (-1) dX11_way_57 rfl (by decide) ?_
            exact j_iret dX11_way_58 rfl rfl (by omega) (by omega) (⟨rfl, rfl⟩)
          · rw [if_pos c3]
            refine j_aload_n (n := 49) dX11_way_48 rfl rfl ?_
            refine j_get (n := 52) 0 dX11_way_49 f_X11_91 rfl rfl rfl ?_
            refine j_iload_n (n := 53) dX11_way_52 rfl rfl ?_
            refine j_iald (n := 54) 26 j dX11_way_53 rfl rfl rfl (by omega) (by omega) ?_
            refine j_goto 58 dX11_way_54 (by decide) ?_
            exact j_iret dX11_way_58 rfl rfl (by omega) (by omega) (⟨rfl, rfl⟩)
        · rw [if_pos c2]
          refine j_aload_n (n := 35) dX11_way_34 rfl rfl ?_
          refine j_get (n := 38) 0 dX11_way_35 f_X11_88 rfl rfl rfl ?_
          refine j_iload_n (n := 39) dX11_way_38 rfl rfl ?_
          refine j_iald (n := 40) 25 j dX11_way_39 rfl rfl rfl (by omega) (by omega) ?_
          refine j_goto 58 dX11_way_40 (by decide) ?_
          exact j_iret dX11_way_58 rfl rfl (by omega) (by omega) (⟨rfl, rfl⟩)
      · rw [if_pos c1]
        refine j_aload_n (n := 21) dX11_way_20 rfl rfl ?_
        refine j_get (n := 24) 0 dX11_way_21 f_X11_85 rfl rfl rfl ?_
        refine j_iload_n (n := 25) dX11_way_24 rfl rfl ?_
        refine j_iald (n := 26) 24 j dX11_way_25 rfl rfl rfl (by omega) (by omega) ?_
        refine j_goto 58 dX11_way_26 (by decide) ?_
        exact j_iret dX11_way_58 rfl rfl (by omega) (by omega) (⟨rfl, rfl⟩)
    · exact absurd (show b01 true = 0 from c) (by decide)
theorem r_like {i w : Int32} (h : M 41 ≤ 1000) : JE G Y_X11_like 1 0 0 [.ref (A 0), .int i, .int w] (rW G A M Z R P) (tl3 (M 41) (R 27) (R 28) (R 29) i w) (rW G A M Z R P) := by
  unfold tl3
  refine JM.of [(0, .ref (A 0)), (1, .int i), (2, .int w)] rfl rfl (by simp) (Nat.le_of_ble_eq_true rfl) (by decide +kernel) ?_
  refine j_iload_n (n := 1) dX11_like_0 rfl rfl ?_
  refine j_iconst (n := 2) (0) dX11_like_1 rfl (by decide) ?_
  refine j_aload_n (n := 3) dX11_like_2 rfl rfl ?_
  refine j_get (n := 6) 0 dX11_like_3 f_X11_214 rfl rfl rfl ?_
  refine j_iconst (n := 7) (1) dX11_like_6 rfl (by decide) ?_
  refine j_isub (n := 8) dX11_like_7 rfl ?_
  refine j_callSe (n := 11) (Y1 := Y_X11_in) dX11_like_8 m_X11_106 cy_X11_in cs_X11_in (r_in) rfl rfl rfl (by omega) (by omega) (by omega) (Nat.le_of_ble_eq_true rfl) ?_
  rcases ix3 i (n := M 41) (by omega) with hi | hi | ⟨j, hj, rfl⟩
  · rw [btw_lo hi, if_pos (Or.inl hi)]
    refine j_if_ne (n := 14) 16 dX11_like_11 (by decide) rfl (fun c => ?_) (fun c => ?_)
    · exact absurd rfl c
    · refine j_iconst (n := 15) (-1) dX11_like_14 rfl (by decide) ?_
      exact j_iret dX11_like_15 rfl rfl (by omega) (by omega) (⟨rfl, rfl⟩)
  · rw [btw_hi (by omega) hi, if_pos (Or.inr hi)]
    refine j_if_ne (n := 14) 16 dX11_like_11 (by decide) rfl (fun c => ?_) (fun c => ?_)
    · exact absurd rfl c
    · refine j_iconst (n := 15) (-1) dX11_like_14 rfl (by decide) ?_
      exact j_iret dX11_like_15 rfl rfl (by omega) (by omega) (⟨rfl, rfl⟩)
  · rw [btw_in (by omega) hj, if_neg (fun q => q.elim (nI_pos (by omega)) (nI_ge hj (by omega))), nI_clamp (show j < 2 ^ 31 by omega)]
    refine j_if_ne (n := 14) 16 dX11_like_11 (by decide) rfl (fun c => ?_) (fun c => ?_)
    · refine j_iload_n (n := 17) dX11_like_16 rfl rfl ?_
      refine j_if_ne (n := 20) 29 dX11_like_17 (by decide) rfl (fun c1 => ?_) (fun c1 => ?_)
      · rw [if_neg c1]
        refine j_iload_n (n := 30) dX11_like_29 rfl rfl ?_
        refine j_iconst (n := 31) (1) dX11_like_30 rfl (by decide) ?_
        refine j_icmp_ne (n := 34) 43 dX11_like_31 (by decide) rfl (fun c2 => ?_) (fun c2 => ?_)
        · rw [if_neg c2]
          refine j_iload_n (n := 44) dX11_like_43 rfl rfl ?_
          refine j_iconst (n := 45) (2) dX11_like_44 rfl (by decide) ?_
          refine j_icmp_ne (n := 48) 57 dX11_like_45 (by decide) rfl (fun c3 => ?_) (fun c3 => ?_)
          · rw [if_neg c3]
            refine j_iconst (n := 58) (-1) dX11_like_57 rfl (by decide) ?_
            exact j_iret dX11_like_58 rfl rfl (by omega) (by omega) (⟨rfl, rfl⟩)
          · rw [if_pos c3]
            refine j_aload_n (n := 49) dX11_like_48 rfl rfl ?_
            refine j_get (n := 52) 0 dX11_like_49 f_X11_100 rfl rfl rfl ?_
            refine j_iload_n (n := 53) dX11_like_52 rfl rfl ?_
            refine j_iald (n := 54) 29 j dX11_like_53 rfl rfl rfl (by omega) (by omega) ?_
            refine j_goto 58 dX11_like_54 (by decide) ?_
            exact j_iret dX11_like_58 rfl rfl (by omega) (by omega) (⟨rfl, rfl⟩)
        · rw [if_pos c2]
          refine j_aload_n (n := 35) dX11_like_34 rfl rfl ?_
          refine j_get (n := 38) 0 dX11_like_35 f_X11_97 rfl rfl rfl ?_
          refine j_iload_n (n := 39) dX11_like_38 rfl rfl ?_
          refine j_iald (n := 40) 28 j dX11_like_39 rfl rfl rfl (by omega) (by omega) ?_
          refine j_goto 58 dX11_like_40 (by decide) ?_
          exact j_iret dX11_like_58 rfl rfl (by omega) (by omega) (⟨rfl, rfl⟩)
      · rw [if_pos c1]
        refine j_aload_n (n := 21) dX11_like_20 rfl rfl ?_
        refine j_get (n := 24) 0 dX11_like_21 f_X11_94 rfl rfl rfl ?_
        refine j_iload_n (n := 25) dX11_like_24 rfl rfl ?_
        refine j_iald (n := 26) 27 j dX11_like_25 rfl rfl rfl (by omega) (by omega) ?_
        refine j_goto 58 dX11_like_26 (by decide) ?_
        exact j_iret dX11_like_58 rfl rfl (by omega) (by omega) (⟨rfl, rfl⟩)
    · exact absurd (show b01 true = 0 from c) (by decide)
end R2

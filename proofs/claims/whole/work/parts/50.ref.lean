/-! the reference: its world, its small methods -/
abbrev arB (G : GT) (n : Nat) (f : Nat → Int32) : va_E := .inl (gB G, n, .inl f)
abbrev arZ (G : GT) (n : Nat) (f : Nat → Int32) : va_E := .inl (gZ G, n, .inl f)
/-- the reference's world: A addresses, M numbers by field (3 taped, 4 confusions, 8 nodes, 12 sets, 22 xs, 23 ys, 27 entries, 33 nears, 37 wayMany, 41 likeMany), Z (16 hasName, 17, 18 fault), R rows by place: 1 script, 2 how, 3 tape, 4-6 confusions, 7 one, 8 two, 9 cost, 10 set, 11 text, 12 size, 13 x, 14 y, 15 left, 16 refuses, 17 warns, 18 strict, 19 register, 20 owner, 21 stands, 22, 23 near, 24-26 way, 27-29 likes -/
def rL (G : GT) (A M : Nat → Nat) (Z : Nat → Int32) (R : Nat → Nat → Int32) : va_W :=
  [(A 0, .inr (11, [.ref (A 1), .ref (A 2), .ref (A 3), .int (nI (M 3)), .int (nI (M 4)), .ref (A 4), .ref (A 5), .ref (A 6), .int (nI (M 8)), .ref (A 7), .ref (A 8), .ref (A 9), .int (nI (M 12)), .ref (A 10), .ref (A 11), .ref (A 12), .int (Z 16), .int (Z 17), .int (Z 18), .ref (A 13), .ref (A 14), .ref (A 15), .int (nI (M 22)), .int (nI (M 23)), .ref (A 16), .ref (A 17), .ref (A 18), .int (nI (M 27)), .ref (A 19), .ref (A 20), .ref (A 21), .ref (A 22), .ref (A 23), .int (nI (M 33)), .ref (A 24), .ref (A 25), .ref (A 26), .int (nI (M 37)), .ref (A 27), .ref (A 28), .ref (A 29), .int (nI (M 41))])),
   (A 1, arI G 127 (R 1)), (A 2, arI G 127 (R 2)), (A 3, arB G 200 (R 3)), (A 4, arI G 60 (R 4)), (A 5, arI G 60 (R 5)), (A 6, arI G 60 (R 6)), (A 7, arI G 94 (R 7)), (A 8, arI G 8836 (R 8)), (A 9, arI G 14400 (R 9)), (A 10, arI G 8 (R 10)), (A 11, arB G 8040 (R 11)), (A 12, arI G 201 (R 12)), (A 13, arI G 40 (R 13)), (A 14, arI G 40 (R 14)), (A 15, arI G 1681 (R 15)), (A 16, arI G 4 (R 16)), (A 17, arI G 4 (R 17)), (A 18, arZ G 4 (R 18)), (A 19, arI G 200 (R 19)), (A 20, arI G 200 (R 20)), (A 21, arZ G 200 (R 21)), (A 22, arI G 200 (R 22)), (A 23, arI G 200 (R 23)), (A 24, arI G 40 (R 24)), (A 25, arI G 40 (R 25)), (A 26, arI G 40 (R 26)), (A 27, arI G 1000 (R 27)), (A 28, arI G 1000 (R 28)), (A 29, arI G 1000 (R 29))]
abbrev rW (G : GT) (A M : Nat → Nat) (Z : Nat → Int32) (R : Nat → Nat → Int32) (P : va_W) : va_W := rL G A M Z R ++ P
theorem b01_nar (b : Bool) : narrow .boolean (.int (b01 b)) = .int (b01 b) := by cases b <;> rfl
def btw (x lo hi : Int32) : Bool := decide (¬ x < lo) && decide (¬ hi < x)
section R1
variable {G : GT} {ws : va_W}
theorem r_in {x lo hi : Int32} : JE G Y_X11_in 0 0 0 [.int x, .int lo, .int hi] ws (b01 (btw x lo hi)) ws := by
  refine JM.of [(0, .int x), (1, .int lo), (2, .int hi)] rfl rfl (by simp) (Nat.le_of_ble_eq_true rfl) (by decide +kernel) ?_
  refine j_iload_n (n := 1) dX11_in_0 rfl rfl ?_
  refine j_iload_n (n := 2) dX11_in_1 rfl rfl ?_
  refine j_icmp_lt (n := 5) 14 dX11_in_2 (by decide) rfl (fun c_2 => ?_) (fun c_2 => ?_)
  · refine j_iconst (n := 15) (0) dX11_in_14 rfl (by decide) ?_
    exact j_iret dX11_in_15 rfl (by first | rfl | exact b01_nar _ | decide) (by omega) (by omega) ⟨by (unfold btw; first | (simp [c_2, b01]; done) | (simp [c_2, c_7, b01]; done)), rfl⟩
  · refine j_iload_n (n := 6) dX11_in_5 rfl rfl ?_
    refine j_iload_n (n := 7) dX11_in_6 rfl rfl ?_
    refine j_icmp_gt (n := 10) 14 dX11_in_7 (by decide) rfl (fun c_7 => ?_) (fun c_7 => ?_)
    · refine j_iconst (n := 15) (0) dX11_in_14 rfl (by decide) ?_
      exact j_iret dX11_in_15 rfl (by first | rfl | exact b01_nar _ | decide) (by omega) (by omega) ⟨by (unfold btw; first | (simp [c_2, b01]; done) | (simp [c_2, c_7, b01]; done)), rfl⟩
    · refine j_iconst (n := 11) (1) dX11_in_10 rfl (by decide) ?_
      refine j_goto 15 dX11_in_11 (by decide) ?_
      exact j_iret dX11_in_15 rfl (by first | rfl | exact b01_nar _ | decide) (by omega) (by omega) ⟨by (unfold btw; first | (simp [c_2, b01]; done) | (simp [c_2, c_7, b01]; done)), rfl⟩
theorem btw_sg (x : Int32) : btw x 33 126 = sgB x := by
  unfold btw sgB
  simp only [Int32.not_lt]
  rw [Bool.decide_and]
theorem r_isSign {x : Int32} : JE G Y_X11_isSign 1 0 0 [.int x] ws (b01 (sgB x)) ws := by
  rw [← btw_sg]
  refine JM.of [(0, .int x)] rfl rfl (by simp) (Nat.le_of_ble_eq_true rfl) (by decide +kernel) ?_
  refine j_iload_n (n := 1) dX11_isSign_0 rfl rfl ?_
  refine j_bipush (n := 3) (33) dX11_isSign_1 rfl (by decide) ?_
  refine j_bipush (n := 5) (126) dX11_isSign_3 rfl (by decide) ?_
  refine j_callSe (n := 8) (Y1 := Y_X11_in) dX11_isSign_5 m_X11_106 cy_X11_in cs_X11_in (r_in) rfl rfl rfl (by omega) (by omega) (by omega) (Nat.le_of_ble_eq_true rfl) ?_
  exact j_iret dX11_isSign_8 rfl (by first | rfl | exact b01_nar _ | decide) (by omega) (by omega) ⟨by first | rfl | simp_all, rfl⟩
theorem r_isRegister {x : Int32} : JE G Y_X11_isRegister 1 0 0 [.int x] ws (b01 (btw x 0 3)) ws := by
  refine JM.of [(0, .int x)] rfl rfl (by simp) (Nat.le_of_ble_eq_true rfl) (by decide +kernel) ?_
  refine j_iload_n (n := 1) dX11_isRegister_0 rfl rfl ?_
  refine j_iconst (n := 2) (0) dX11_isRegister_1 rfl (by decide) ?_
  refine j_iconst (n := 3) (3) dX11_isRegister_2 rfl (by decide) ?_
  refine j_callSe (n := 6) (Y1 := Y_X11_in) dX11_isRegister_3 m_X11_106 cy_X11_in cs_X11_in (r_in) rfl rfl rfl (by omega) (by omega) (by omega) (Nat.le_of_ble_eq_true rfl) ?_
  exact j_iret dX11_isRegister_6 rfl (by first | rfl | exact b01_nar _ | decide) (by omega) (by omega) ⟨by first | rfl | simp_all, rfl⟩
theorem sg_toInt {x : Int32} (h : sgB x = true) : 33 ≤ x.toInt ∧ x.toInt ≤ 126 := by
  obtain ⟨j, rfl, h1, h2⟩ := sg_nat h
  rw [nI_toInt (by omega)]
  omega
theorem neg_toInt {x : Int32} (h : x < 0) : x.toInt < 0 := by
  have := Int32.lt_iff_toInt_lt.mp h
  simpa using this
theorem sg_neg {x : Int32} (h : x < 0) : sgB x = false := by
  cases hb : sgB x with
  | false => rfl
  | true =>
    have := sg_toInt hb
    have := neg_toInt h
    omega
theorem sg_sh_neg {x : Int32} (h : x < 0) : sgB (x >>> (8 &&& 31)) = false := by
  cases hb : sgB (x >>> (8 &&& 31)) with
  | false => rfl
  | true =>
    have a1 := sg_toInt hb
    have a2 : (x >>> ((8 : Int32) &&& 31)).toInt = x.toInt >>> 8 := pk_shr x (8 &&& 31) 8 (by decide)
    have a3 : x.toInt >>> 8 = x.toInt / 256 := by rw [Int.shiftRight_eq_div_pow]; rfl
    have a4 := neg_toInt h
    rw [show x >>> (8 &&& 31) = x >>> ((8 : Int32) &&& 31) from rfl] at a1
    omega
theorem sg_div_neg {x : Int32} (h : x < 0) : sgB (x / nI 256) = false := by
  cases hb : sgB (x / nI 256) with
  | false => rfl
  | true =>
    have a1 := sg_toInt hb
    have a4 := neg_toInt h
    rw [Int32.toInt_div, nI_toInt (show 256 < 2 ^ 31 by omega)] at a1
    have a6 : x.toInt.tdiv 256 = -((-x.toInt).tdiv 256) := by rw [Int.neg_tdiv, Int.neg_neg]
    have a7 : (-x.toInt).tdiv 256 = (-x.toInt) / 256 := Int.tdiv_eq_ediv_of_nonneg (by omega)
    have a8 := Int32.le_toInt x
    have a9 : (-x.toInt) / 256 ≤ 8388608 := by
      have : -2147483648 ≤ x.toInt := by simpa using a8
      omega
    rw [show ((256 : Nat) : Int) = 256 from rfl, a6, a7, Int.bmod_eq_of_le (by omega) (by omega)] at a1
    omega
theorem pr_1 {j : Nat} (hj : j < 2 ^ 31) : nI j >>> ((8 : Int32) &&& 31) = nI (j / 256) := by
  have := pk_shrN hj ((8 : Int32) &&& 31) 8 (by decide)
  rw [show (2 : Nat) ^ 8 = 256 from rfl] at this
  exact this
theorem pr_2 {j : Nat} (hj : j < 2 ^ 31) : nI j &&& (255 : Int32) = nI (j % 256) := by
  have := pk_andN (n := j) (by omega) (m := 255) 8 (by decide)
  rw [show (2 : Nat) ^ 8 = 256 from rfl] at this
  exact this
theorem pr_3 {j : Nat} (hj : j < 2 ^ 31) : nI j / nI 256 = nI (j / 256) := pk_div hj (by omega) (by omega)
theorem pr_4 {j : Nat} (hj : j < 2 ^ 31) : nI j - nI j / nI 256 * nI 256 = nI (j % 256) := pk_rem hj (by omega) (by omega)
theorem pc_ref1 {x y z u v : Int32} (h1 : y = u) (h2 : z = v) : (sgB x || (sgB y && sgB z)) = (sgB x || (sgB u && sgB v)) := by rw [h1, h2]
theorem pc_ref2 {j : Nat} (hj : j < 2 ^ 31) : pcB (nI j) = (sgB (nI j) || (sgB (nI j / nI 256) && sgB (nI j - nI j / nI 256 * nI 256))) :=
  pc_ref1 ((pr_1 hj).trans (pr_3 hj).symm) ((pr_2 hj).trans (pr_4 hj).symm)
theorem pc_ref3 {x : Int32} (h : x < 0) : pcB x = (sgB x || (sgB (x / nI 256) && sgB (x - x / nI 256 * nI 256))) := by
  unfold pcB
  rw [sg_sh_neg h, sg_div_neg h, Bool.false_and, Bool.false_and]
theorem pc_ref0 (x : Int32) : pcB x = (sgB x || (sgB (x / nI 256) && sgB (x - x / nI 256 * nI 256))) := by
  by_cases h : x < 0
  · exact pc_ref3 h
  · obtain ⟨j, hj, rfl⟩ := nI_of h
    exact pc_ref2 hj
theorem pc_ref (x : Int32) : pcB x = (sgB x || (sgB (x / 256) && sgB (x - x / 256 * 256))) := pc_ref0 x
theorem r_isPiece {x : Int32} : JE G Y_X11_isPiece 2 0 0 [.int x] ws (b01 (pcB x)) ws := by
  rw [pc_ref]
  refine JM.of [(0, .int x)] rfl rfl (by simp) (Nat.le_of_ble_eq_true rfl) (by decide +kernel) ?_
  refine j_iload_n (n := 1) dX11_isPiece_0 rfl rfl ?_
  refine j_callSe (n := 4) (Y1 := Y_X11_isSign) dX11_isPiece_1 m_X11_113 cy_X11_isSign cs_X11_isSign (r_isSign) rfl rfl rfl (by omega) (by omega) (by omega) (Nat.le_of_ble_eq_true rfl) ?_
  refine j_if_ne (n := 7) 29 dX11_isPiece_4 (by decide) rfl (fun c_4 => ?_) (fun c_4 => ?_)
  · refine j_iconst (n := 30) (1) dX11_isPiece_29 rfl (by decide) ?_
    refine j_goto 34 dX11_isPiece_30 (by decide) ?_
    exact j_iret dX11_isPiece_34 rfl (by first | rfl | exact b01_nar _ | decide) (by omega) (by omega) ⟨by first | (rw [b01_n0 c_4]; rfl) | (rw [b01_0 c_4, b01_0 c_15]; rfl) | (rw [b01_0 c_4, b01_n0 c_15, b01_0 c_26]; rfl) | (rw [b01_0 c_4, b01_n0 c_15, b01_n0 c_26]; rfl), rfl⟩
  · refine j_iload_n (n := 8) dX11_isPiece_7 rfl rfl ?_
    refine j_sipush (n := 11) (256) dX11_isPiece_8 rfl (by decide) ?_
    refine j_idiv (n := 12) dX11_isPiece_11 rfl (by decide) ?_
    refine j_callSe (n := 15) (Y1 := Y_X11_isSign) dX11_isPiece_12 m_X11_113 cy_X11_isSign cs_X11_isSign (r_isSign) rfl rfl rfl (by omega) (by omega) (by omega) (Nat.le_of_ble_eq_true rfl) ?_
    refine j_if_eq (n := 18) 33 dX11_isPiece_15 (by decide) rfl (fun c_15 => ?_) (fun c_15 => ?_)
    · refine j_iconst (n := 34) (0) dX11_isPiece_33 rfl (by decide) ?_
      exact j_iret dX11_isPiece_34 rfl (by first | rfl | exact b01_nar _ | decide) (by omega) (by omega) ⟨by first | (rw [b01_n0 c_4]; rfl) | (rw [b01_0 c_4, b01_0 c_15]; rfl) | (rw [b01_0 c_4, b01_n0 c_15, b01_0 c_26]; rfl) | (rw [b01_0 c_4, b01_n0 c_15, b01_n0 c_26]; rfl), rfl⟩
    · refine j_iload_n (n := 19) dX11_isPiece_18 rfl rfl ?_
      refine j_sipush (n := 22) (256) dX11_isPiece_19 rfl (by decide) ?_
      refine j_irem (n := 23) dX11_isPiece_22 rfl (by decide) ?_
      refine j_callSe (n := 26) (Y1 := Y_X11_isSign) dX11_isPiece_23 m_X11_113 cy_X11_isSign cs_X11_isSign (r_isSign) rfl rfl rfl (by omega) (by omega) (by omega) (Nat.le_of_ble_eq_true rfl) ?_
      refine j_if_eq (n := 29) 33 dX11_isPiece_26 (by decide) rfl (fun c_26 => ?_) (fun c_26 => ?_)
      · refine j_iconst (n := 34) (0) dX11_isPiece_33 rfl (by decide) ?_
        exact j_iret dX11_isPiece_34 rfl (by first | rfl | exact b01_nar _ | decide) (by omega) (by omega) ⟨by first | (rw [b01_n0 c_4]; rfl) | (rw [b01_0 c_4, b01_0 c_15]; rfl) | (rw [b01_0 c_4, b01_n0 c_15, b01_0 c_26]; rfl) | (rw [b01_0 c_4, b01_n0 c_15, b01_n0 c_26]; rfl), rfl⟩
      · refine j_iconst (n := 30) (1) dX11_isPiece_29 rfl (by decide) ?_
        refine j_goto 34 dX11_isPiece_30 (by decide) ?_
        exact j_iret dX11_isPiece_34 rfl (by first | rfl | exact b01_nar _ | decide) (by omega) (by omega) ⟨by first | (rw [b01_n0 c_4]; rfl) | (rw [b01_0 c_4, b01_0 c_15]; rfl) | (rw [b01_0 c_4, b01_n0 c_15, b01_0 c_26]; rfl) | (rw [b01_0 c_4, b01_n0 c_15, b01_n0 c_26]; rfl), rfl⟩
end R1

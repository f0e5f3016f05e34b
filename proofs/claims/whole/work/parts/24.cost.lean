/-! Measure: costBy -/
/-- a Text with its four rows, one behind the other, in the world behind the PieceTable -/
def TXA (G : GT) (rest : va_W) (j : Nat) (B : Nat → Nat) (len : Nat) (t s : Nat → Int32) (cnt : Nat) (st : Int32) (u p : Nat → Int32) (pst : Int32) : Prop := rest[j]? = some (B 0, txO (B 1) (B 2) (B 3) (B 4) len cnt st pst) ∧ rest[j + 1]? = some (B 1, arI G len t) ∧ rest[j + 2]? = some (B 2, arI G len s) ∧ rest[j + 3]? = some (B 3, arI G len u) ∧ rest[j + 4]? = some (B 4, arI G len p) ∧ cnt ≤ len ∧ len ≤ 40
/-- its rows of places in the table of pieces are right -/
def PV (C : CT) (s u p : Nat → Int32) (cnt : Nat) : Prop := ∀ k, k < cnt → u k = idxF (nd C).1 (s k) (nd C).2 ∧ p k = if k + 1 < cnt then idxF (nd C).1 (p2 s k) (nd C).2 else -1
/-- all its seen signs are signs -/
def SGS (s : Nat → Int32) (cnt : Nat) : Prop := ∀ k, k < cnt → ∃ n : Nat, s k = nI n ∧ 33 ≤ n ∧ n ≤ 126
abbrev FF : Nat := 536870912
theorem ff_v : FF = 536870912 := rfl
def CB (z : Int32) (o : Option Nat) : Prop := match o with
  | some v => z = nI v ∧ v < FF
  | none => ∃ w : Nat, FF ≤ w ∧ w ≤ 2 * FF ∧ z = nI w
def ccv (C : CT) (X Y : Nat → Int32) (i j sh : Nat) : Option Nat := if sh = 0 then chn C (X i) (Y j) else tbc C (pcX X i (shX sh)) (pcX Y j (shY sh))
def tcv (C : CT) (X Y : Nat → Int32) (xc yc i j sh : Nat) : Option Nat := if i + shX sh ≤ xc ∧ j + shY sh ≤ yc then oAdd (ccv C X Y i j sh) (TT C X Y xc yc (i + shX sh) (j + shY sh)) else none
theorem fXS_sh {sh : Nat} : fXS sh = .int (nI (shX sh)) := by unfold fXS shX; split <;> rfl
theorem fYS_sh {sh : Nat} : fYS sh = .int (nI (shY sh)) := by unfold fYS shY; split <;> rfl
theorem CB_add {o1 o2 : Option Nat} (h1 : ∀ v, o1 = some v → v ≤ 100000) (h2 : ∀ v, o2 = some v → v ≤ 100000) : CB (ec FF o1 + ec FF o2) (oAdd o1 o2) := by
  have hff := ff_v
  cases o1 with
  | none =>
    cases o2 with
    | none => exact ⟨FF + FF, by omega, by omega, nI_add FF FF⟩
    | some b => have := h2 b rfl; exact ⟨FF + b, by omega, by omega, nI_add FF b⟩
  | some a =>
    have := h1 a rfl
    cases o2 with
    | none => exact ⟨a + FF, by omega, by omega, nI_add a FF⟩
    | some b => have := h2 b rfl; exact ⟨nI_add a b, by omega⟩
theorem tbc_le {C : CT} {p q : Int32} {v : Nat} (hok : CTok C) (h : tbc C p q = some v) : v ≤ 2420 := by
  unfold tbc at h
  split at h
  · cases h
  · exact (fw_ok hok (Nat.le_refl _)).2 _ _ _ h
theorem lb_ok {C : CT} {m : Nat} {ll : Nat → Int32} {p q : Int32} (hok : CTok C) (hm : m = (nd C).2) (hX : MX FF m m ll (DD C)) : lbF m ll (idxF (nd C).1 p (nd C).2) (idxF (nd C).1 q (nd C).2) = ec FF (tbc C p q) := by
  have hl := nd_le hok
  unfold lbF tbc
  rcases idxF_cases (nd C).1 p (nd C).2 with ⟨e1, -⟩ | ⟨a, ha, e1, -⟩
  · rw [if_pos (Or.inl (by rw [e1]; decide)), if_pos (Or.inl e1)]; rfl
  · rcases idxF_cases (nd C).1 q (nd C).2 with ⟨e2, -⟩ | ⟨b, hb, e2, -⟩
    · rw [if_pos (Or.inr (Or.inl (by rw [e2]; decide))), if_pos (Or.inr e2)]; rfl
    · have ia : iN (nd C) p = a := by unfold iN; rw [e1, nI_clamp (by omega)]
      have ib : iN (nd C) q = b := by unfold iN; rw [e2, nI_clamp (by omega)]
      rw [ia, ib, e1, e2, nI_clamp (by omega), nI_clamp (by omega)]
      have n1 : ¬ (nI a < 0 ∨ nI b < 0 ∨ nI m ≤ nI a ∨ nI m ≤ nI b) := by
        rintro (z | z | z | z)
        · exact nI_pos (by omega) z
        · exact nI_pos (by omega) z
        · exact nI_ge (show a < m by omega) (by omega) z
        · exact nI_ge (show b < m by omega) (by omega) z
      have n2 : ¬ (nI a = -1 ∨ nI b = -1) := by
        rintro (z | z)
        · exact nI_nm1 (by omega) z
        · exact nI_nm1 (by omega) z
      rw [if_neg n1, if_neg n2]
      exact hX a b (by omega) (by omega)
theorem pix_ok {C : CT} {s u p : Nat → Int32} {cnt i a : Nat} (h : PV C s u p cnt) (hi : i + a ≤ cnt) (ha : a = 1 ∨ a = 2) (hc : cnt ≤ 40) : pixF cnt u p (nI i) (nI a) = idxF (nd C).1 (pcX s i a) (nd C).2 := by
  obtain ⟨h1, h2⟩ := h i (by omega)
  unfold pixF pcX
  have n1 : ¬ (nI i < 0 ∨ nI cnt ≤ nI i) := by
    rintro (z | z)
    · exact nI_pos (by omega) z
    · exact nI_ge (show i < cnt by omega) (by omega) z
  rw [if_neg n1, nI_clamp (by omega)]
  rcases ha with e | e
  · subst e; rw [if_pos (show nI 1 = 1 from rfl)]; exact h1
  · subst e; rw [if_neg (by decide), if_neg (by decide), h2, if_pos (by omega)]
theorem ix41 (a j b : Nat) : nI a * 41 + nI j + nI b = nI (41 * a + (j + b)) := by
  rw [show (41 : Int32) = nI 41 from rfl, pk_mul, nI_add, nI_add]; congr 1; omega
theorem ix41' (a j : Nat) : nI a * 41 + nI j = nI (41 * a + j) := by
  rw [show (41 : Int32) = nI 41 from rfl, pk_mul, nI_add]; congr 1; omega
section ME1
variable {G : GT} {rest : va_W} {A : Nat → Nat} {C : CT} {stamp closed : Int32} {m Ln : Nat} {cs la be ll : Nat → Int32} {am ar jm jr : Nat} {R : Nat → Int32}
variable {jx jy : Nat} {Bx By : Nat → Nat} {lx ly xc yc : Nat} {tx X ty Y ux px uy py : Nat → Int32} {stx pstx sty psty : Int32}
theorem c_costBy {sh i j : Nat} (hok : CTok C) (hcl : CLO C m cs la be Ln ll) (hL : Ln ≤ 14400) (hm0 : rest[jm]? = some (am, .inr (1, [.ref (A 0), .ref ar]))) (hr0 : rest[jr]? = some (ar, arI G 1681 R)) (hx : TXA G rest jx Bx lx tx X xc stx ux px pstx) (hy : TXA G rest jy By ly ty Y yc sty uy py psty) (hvx : PV C X ux px xc) (hvy : PV C Y uy py yc) (hsh : sh < 4) (hi : i ≤ xc) (hj : j ≤ yc)
    (hR : i + shX sh ≤ xc → j + shY sh ≤ yc → R (41 * (i + shX sh) + (j + shY sh)) = ec FF (TT C X Y xc yc (i + shX sh) (j + shY sh))) :
    JM G Y_X1_costBy 1 0 0 [.ref am, .int (nI sh), .ref (Bx 0), .int (nI i), .ref (By 0), .int (nI j)] (ptL G A C stamp closed m cs la be Ln ll ++ rest) (Qi (fun r w => w = ptL G A C stamp closed m cs la be Ln ll ++ rest ∧ CB r (tcv C X Y xc yc i j sh))) := by
  obtain ⟨x0, x1, x2, x3, x4, xl, xl2⟩ := hx
  obtain ⟨y0, y1, y2, y3, y4, yl, yl2⟩ := hy
  have hm : m = (nd C).2 := hcl.1
  have hm120 : m ≤ 120 := by rw [hm]; exact nd_le hok
  obtain ⟨sa, sb⟩ := sh_ab sh
  refine JM.of [(0, .ref am), (1, .int (nI sh)), (2, .ref (Bx 0)), (3, .int (nI i)), (4, .ref (By 0)), (5, .int (nI j))] rfl rfl (by simp) (Nat.le_of_ble_eq_true rfl) (by decide +kernel) ?_
  refine j_getX (n := 3) dX1_costBy_0 f_X1_49 rfl ?_
  refine j_iload_n (n := 4) dX1_costBy_3 rfl rfl ?_
  refine j_xald (n := 5) sh (.int (nI (shX sh))) dX1_costBy_4 rfl rfl hsh fXS_sh ?_
  refine j_istore (n := 7) dX1_costBy_5 rfl (by decide) ?_
  refine j_getY (n := 10) dX1_costBy_7 f_X1_52 rfl ?_
  refine j_iload_n (n := 11) dX1_costBy_10 rfl rfl ?_
  refine j_yald (n := 12) sh (.int (nI (shY sh))) dX1_costBy_11 rfl rfl hsh fYS_sh ?_
  refine j_istore (n := 14) dX1_costBy_12 rfl (by decide) ?_
  refine j_iload_n (n := 15) dX1_costBy_14 rfl rfl ?_
  refine j_iload (n := 17) dX1_costBy_15 rfl rfl ?_
  refine j_iadd (n := 18) dX1_costBy_17 rfl ?_
  refine j_top (nI (i + shX sh)) (nI_add i (shX sh)) ?_
  refine j_aload_n (n := 19) dX1_costBy_18 rfl rfl ?_
  refine j_getN (n := 22) (jx + 8) dX1_costBy_19 f_X1_19 rfl x0 rfl ?_
  refine j_icmp_gt (n := 25) 38 dX1_costBy_22 (by decide) rfl (fun c => ?_) (fun c => ?_)
  · have hn : ¬ (i + shX sh ≤ xc ∧ j + shY sh ≤ yc) := fun q => (nI_nlt q.1 (by omega)) c
    refine j_ldc (n := 40) dX1_costBy_38 rfl k_X1_25 ?_
    exact j_iret dX1_costBy_40 rfl rfl (by omega) (by omega) (⟨rfl, by unfold tcv; rw [if_neg hn]; exact ⟨FF, by omega, by omega, rfl⟩⟩)
  · have h1 : i + shX sh ≤ xc := Nat.le_of_not_lt (fun q => c (nI_lt q (by omega)))
    refine j_iload (n := 27) dX1_costBy_25 rfl rfl ?_
    refine j_iload (n := 29) dX1_costBy_27 rfl rfl ?_
    refine j_iadd (n := 30) dX1_costBy_29 rfl ?_
    refine j_top (nI (j + shY sh)) (nI_add j (shY sh)) ?_
    refine j_aload (n := 32) dX1_costBy_30 rfl rfl ?_
    refine j_getN (n := 35) (jy + 8) dX1_costBy_32 f_X1_19 rfl y0 rfl ?_
    refine j_icmp_le (n := 38) 41 dX1_costBy_35 (by decide) rfl (fun c2 => ?_) (fun c2 => ?_)
    · have h2 : j + shY sh ≤ yc := (nI_leI (by omega) (by omega)).mp c2
      have htc : tcv C X Y xc yc i j sh = oAdd (ccv C X Y i j sh) (TT C X Y xc yc (i + shX sh) (j + shY sh)) := by unfold tcv; rw [if_pos ⟨h1, h2⟩]
      have hTb : ∀ v, TT C X Y xc yc (i + shX sh) (j + shY sh) = some v → v ≤ 100000 := fun v e => by have := TT_lt hok (by omega) h1 e; omega
      refine j_aload_n (n := 42) dX1_costBy_41 rfl rfl ?_
      refine j_get (n := 45) (jm + 8) dX1_costBy_42 f_X1_15 rfl hm0 rfl ?_
      refine j_iload_n (n := 46) dX1_costBy_45 rfl rfl ?_
      refine j_iload (n := 48) dX1_costBy_46 rfl rfl ?_
      refine j_iadd (n := 49) dX1_costBy_48 rfl ?_
      refine j_top (nI (i + shX sh)) (nI_add i (shX sh)) ?_
      refine j_bipush (n := 51) (41) dX1_costBy_49 rfl (by decide) ?_
      refine j_imul (n := 52) dX1_costBy_51 rfl ?_
      refine j_iload (n := 54) dX1_costBy_52 rfl rfl ?_
      refine j_iadd (n := 55) dX1_costBy_54 rfl ?_
      refine j_iload (n := 57) dX1_costBy_55 rfl rfl ?_
      refine j_iadd (n := 58) dX1_costBy_57 rfl ?_
      refine j_iald (n := 59) (jr + 8) (41 * (i + shX sh) + (j + shY sh)) dX1_costBy_58 rfl hr0 (ix41 _ _ _) (by omega) (by omega) ?_
      rw [hR h1 h2]
      refine j_istore (n := 61) dX1_costBy_59 rfl (by decide) ?_
      refine j_iload_n (n := 62) dX1_costBy_61 rfl rfl ?_
      have kend : JJ G Y_X1_costBy 1 0 0 (Qi (fun r w => w = ptL G A C stamp closed m cs la be Ln ll ++ rest ∧ CB r (oAdd (tbc C (pcX X i (shX sh)) (pcX Y j (shY sh))) (TT C X Y xc yc (i + shX sh) (j + shY sh))))) 83 [(0, .ref am), (1, .int (nI sh)), (2, .ref (Bx 0)), (3, .int (nI i)), (4, .ref (By 0)), (5, .int (nI j)), (6, .int (nI (shX sh))), (7, .int (nI (shY sh))), (8, .int (ec FF (TT C X Y xc yc (i + shX sh) (j + shY sh))))] [] (ptL G A C stamp closed m cs la be Ln ll ++ rest) 0 0 := by
        refine j_aload_n (n := 84) dX1_costBy_83 rfl rfl ?_
        refine j_get (n := 87) (jm + 8) dX1_costBy_84 f_X1_9 rfl hm0 rfl ?_
        refine j_aload_n (n := 88) dX1_costBy_87 rfl rfl ?_
        refine j_iload_n (n := 89) dX1_costBy_88 rfl rfl ?_
        refine j_iload (n := 91) dX1_costBy_89 rfl rfl ?_
        refine j_callVe (n := 94) (Y1 := Y_X8_pieceIndexAt) (jx + 8) dX1_costBy_91 m_X1_59 cy_X8_pieceIndexAt ci_X8_pieceIndexAt (c_pieceIndexAt (jx + 8) x0 (jx + 3 + 8) x3 (jx + 4 + 8) x4 (by omega) (by omega)) rfl rfl rfl x0 rfl (by omega) (by omega) (by omega) (Nat.le_of_ble_eq_true rfl) ?_
        refine j_aload (n := 96) dX1_costBy_94 rfl rfl ?_
        refine j_iload (n := 98) dX1_costBy_96 rfl rfl ?_
        refine j_iload (n := 100) dX1_costBy_98 rfl rfl ?_
        refine j_callVe (n := 103) (Y1 := Y_X8_pieceIndexAt) (jy + 8) dX1_costBy_100 m_X1_59 cy_X8_pieceIndexAt ci_X8_pieceIndexAt (c_pieceIndexAt (jy + 8) y0 (jy + 3 + 8) y3 (jy + 4 + 8) y4 (by omega) (by omega)) rfl rfl rfl y0 rfl (by omega) (by omega) (by omega) (Nat.le_of_ble_eq_true rfl) ?_
        rw [pix_ok hvx h1 sa (by omega), pix_ok hvy h2 sb (by omega)]
        refine j_callVe (n := 106) (Y1 := Y_X4_leastBetween) 0 dX1_costBy_103 m_X1_62 cy_X4_leastBetween ci_X4_leastBetween (c_leastBetween hm120 hcl.2.2.2.1 hL) rfl rfl rfl rfl rfl (by omega) (by omega) (by omega) (Nat.le_of_ble_eq_true rfl) ?_
        rw [lb_ok hok hm hcl.2.2.2.2]
        refine j_iload (n := 108) dX1_costBy_106 rfl rfl ?_
        refine j_iadd (n := 109) dX1_costBy_108 rfl ?_
        exact j_iret dX1_costBy_109 rfl rfl (by omega) (by omega) (⟨rfl, CB_add (fun v e => by have := tbc_le hok e; omega) hTb⟩)
      refine j_if_ne (n := 65) 83 dX1_costBy_62 (by decide) rfl (fun c3 => ?_) (fun c3 => ?_)
      · have hs0 : ¬ sh = 0 := fun q => c3 (by rw [q]; rfl)
        rw [htc, show ccv C X Y i j sh = tbc C (pcX X i (shX sh)) (pcX Y j (shY sh)) from if_neg hs0]
        exact kend
      · have hs0 : sh = 0 := by
          rcases Nat.eq_zero_or_pos sh with q | q
          · exact q
          · exact absurd c3 (nI_ne0 q (by omega))
        rw [htc, show ccv C X Y i j sh = chn C (X i) (Y j) from if_pos hs0]
        refine j_aload_n (n := 66) dX1_costBy_65 rfl rfl ?_
        refine j_iload_n (n := 67) dX1_costBy_66 rfl rfl ?_
        refine j_callVe (n := 70) (Y1 := Y_X8_seenAt) (jx + 8) dX1_costBy_67 m_X1_55 cy_X8_seenAt ci_X8_seenAt (c_seenAt (jx + 8) x0 (jx + 2 + 8) x2 (by omega) (by omega)) rfl rfl rfl x0 rfl (by omega) (by omega) (by omega) (Nat.le_of_ble_eq_true rfl) ?_
        refine j_aload (n := 72) dX1_costBy_70 rfl rfl ?_
        refine j_iload (n := 74) dX1_costBy_72 rfl rfl ?_
        refine j_callVe (n := 77) (Y1 := Y_X8_seenAt) (jy + 8) dX1_costBy_74 m_X1_55 cy_X8_seenAt ci_X8_seenAt (c_seenAt (jy + 8) y0 (jy + 2 + 8) y2 (by omega) (by omega)) rfl rfl rfl y0 rfl (by omega) (by omega) (by omega) (Nat.le_of_ble_eq_true rfl) ?_
        rw [atF_in (show i < xc by omega) (by omega), atF_in (show j < yc by omega) (by omega)]
        refine j_icmp_ne (n := 80) 83 dX1_costBy_77 (by decide) rfl (fun c4 => ?_) (fun c4 => ?_)
        · have e : chn C (X i) (Y j) = tbc C (pcX X i (shX sh)) (pcX Y j (shY sh)) := by
            unfold chn
            rw [if_neg c4, hs0]; rfl
          rw [e]
          exact kend
        · have e : chn C (X i) (Y j) = some 0 := by unfold chn; rw [if_pos c4]
          rw [e]
          refine j_iload (n := 82) dX1_costBy_80 rfl rfl ?_
          refine j_iret dX1_costBy_82 rfl rfl (by omega) (by omega) ⟨rfl, ?_⟩
          have e2 := CB_add (o1 := some 0) (fun v e => by cases e; omega) hTb
          have e3 : ∀ z : Int32, ec FF (some 0) + z = z := fun z => by show nI 0 + z = z; rw [nI_0]; exact Int32.zero_add z
          rw [e3] at e2
          exact e2
    · have hn : ¬ (i + shX sh ≤ xc ∧ j + shY sh ≤ yc) := fun q => c2 (nI_le q.2 (by omega))
      refine j_ldc (n := 40) dX1_costBy_38 rfl k_X1_25 ?_
      exact j_iret dX1_costBy_40 rfl rfl (by omega) (by omega) (⟨rfl, by unfold tcv; rw [if_neg hn]; exact ⟨FF, by omega, by omega, rfl⟩⟩)
end ME1

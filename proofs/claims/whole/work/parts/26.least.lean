/-! Measure: leastWithin, firstShape, writeWay, the constructor -/
def wlim (lim : Nat) (o : Option Nat) : Int32 := match o with
  | some v => if v ≤ lim then nI v else -1
  | none => -1
theorem nI_im1 (n : Nat) : nI n + Int32.ofInt (-1) = nI n - 1 := by
  show nI n + (-1) = nI n - 1
  rw [Int32.sub_eq_add_neg]
section ME3
variable {G : GT} {rest : va_W} {A : Nat → Nat} {C : CT} {stamp closed : Int32} {m Ln : Nat} {cs la be ll : Nat → Int32} {am ar jm jr : Nat} {R : Nat → Int32}
variable {jx jy : Nat} {Bx By : Nat → Nat} {lx ly xc yc : Nat} {tx X ty Y ux px uy py : Nat → Int32} {stx pstx sty psty : Int32}
theorem MEA.le (h : MEA G rest A C m cs la be Ln ll am ar jm jr R jx Bx lx tx X xc stx ux px pstx jy By ly ty Y yc sty uy py psty) : CTok C ∧ xc ≤ 40 ∧ yc ≤ 40 := by
  obtain ⟨h1, -, -, -, -, hx, hy, -⟩ := h
  obtain ⟨-, -, -, -, -, a, b⟩ := hx
  obtain ⟨-, -, -, -, -, c, d⟩ := hy
  exact ⟨h1, by omega, by omega⟩
theorem lw_loop {lim : Nat} (hlim : lim < FF) :
    ∀ (n : Nat), n ≤ xc → ∀ (R1 : Nat → Int32) (bh : Nat), MEA G (rest.set jr (ar, arI G 1681 R1)) A C m cs la be Ln ll am ar jm jr R1 jx Bx lx tx X xc stx ux px pstx jy By ly ty Y yc sty uy py psty → VR C X Y xc yc R1 n → bh ≤ FF → (∀ j v, FR n j → TT C X Y xc yc n j = some v → bh ≤ v) →
      JJ G Y_X1_leastWithin 3 0 0 (Qi (fun r w => ∃ R' : Nat → Int32, w = ptL G A C stamp closed m cs la be Ln ll ++ rest.set jr (ar, arI G 1681 R') ∧ r = wlim lim (TT C X Y xc yc 0 0) ∧ (¬ r = -1 → VR C X Y xc yc R' 0))) 79 [(0, .ref am), (1, .ref (Bx 0)), (2, .ref (By 0)), (3, .int (nI lim)), (4, .int (nI xc)), (5, .int (nI yc)), (6, .int (nI bh)), (7, .int (nI n - 1))] [] (ptL G A C stamp closed m cs la be Ln ll ++ rest.set jr (ar, arI G 1681 R1)) 0 0 := by
  have hff := ff_v
  intro n
  induction n with
  | zero =>
    intro hn R1 bh hM hV hbh hlb
    obtain ⟨hok, h40, y40⟩ := hM.le
    have hr0 := hM.2.2.2.2.1
    have hm0 := hM.2.2.2.1
    have e0 : R1 0 = ec FF (TT C X Y xc yc 0 0) := hV 0 0 (Nat.le_refl _) (Nat.zero_le _) FR_0 (Nat.zero_le _)
    refine j_iload (n := 81) dX1_leastWithin_79 rfl rfl ?_
    refine j_if_lt (n := 84) 118 dX1_leastWithin_81 (by decide) rfl (fun c => ?_) (fun c => ?_)
    · refine j_aload_n (n := 119) dX1_leastWithin_118 rfl rfl ?_
      refine j_get (n := 122) (jm + 8) dX1_leastWithin_119 f_X1_15 rfl hm0 rfl ?_
      refine j_iconst (n := 123) (0) dX1_leastWithin_122 rfl (by decide) ?_
      refine j_iald (n := 124) (jr + 8) 0 dX1_leastWithin_123 rfl hr0 rfl (by omega) (by omega) ?_
      rw [e0]
      refine j_iload_n (n := 125) dX1_leastWithin_124 rfl rfl ?_
      refine j_icmp_gt (n := 128) 137 dX1_leastWithin_125 (by decide) rfl (fun c2 => ?_) (fun c2 => ?_)
      · have hr : wlim lim (TT C X Y xc yc 0 0) = -1 := by
          unfold wlim
          cases hT : TT C X Y xc yc 0 0 with
          | none => rfl
          | some v =>
            rw [hT] at c2
            have := TT_lt hok h40 (Nat.zero_le _) hT
            show (if v ≤ lim then nI v else -1) = -1
            rw [if_neg (fun q => (nI_nlt q (by omega)) c2)]
        refine j_iconst (n := 138) (-1) dX1_leastWithin_137 rfl (by decide) ?_
        exact j_iret dX1_leastWithin_138 rfl rfl (by omega) (by omega) (⟨R1, rfl, hr.symm, fun q => absurd rfl q⟩)
      · have hr : wlim lim (TT C X Y xc yc 0 0) = ec FF (TT C X Y xc yc 0 0) := by
          unfold wlim
          cases hT : TT C X Y xc yc 0 0 with
          | none => rw [hT] at c2; exact absurd (nI_lt hlim (by omega)) c2
          | some v =>
            rw [hT] at c2
            have := TT_lt hok h40 (Nat.zero_le _) hT
            show (if v ≤ lim then nI v else -1) = nI v
            rw [if_pos (Nat.le_of_not_lt (fun q => c2 (nI_lt q (by omega))))]
        refine j_aload_n (n := 129) dX1_leastWithin_128 rfl rfl ?_
        refine j_get (n := 132) (jm + 8) dX1_leastWithin_129 f_X1_15 rfl hm0 rfl ?_
        refine j_iconst (n := 133) (0) dX1_leastWithin_132 rfl (by decide) ?_
        refine j_iald (n := 134) (jr + 8) 0 dX1_leastWithin_133 rfl hr0 rfl (by omega) (by omega) ?_
        rw [e0]
        refine j_goto 138 dX1_leastWithin_134 (by decide) ?_
        exact j_iret dX1_leastWithin_138 rfl rfl (by omega) (by omega) (⟨R1, rfl, hr.symm, fun _ => hV⟩)
    · exact absurd (show nI 0 - 1 < 0 by decide) c
  | succ n ih =>
    intro hn R1 bh hM hV hbh hlb
    obtain ⟨hok, h40, y40⟩ := hM.le
    have hm0 := hM.2.2.2.1
    rw [nI_sub1 n]
    refine j_iload (n := 81) dX1_leastWithin_79 rfl rfl ?_
    refine j_if_lt (n := 84) 118 dX1_leastWithin_81 (by decide) rfl (fun c => ?_) (fun c => ?_)
    · exact absurd c (nI_pos (by omega))
    · refine j_aload_n (n := 85) dX1_leastWithin_84 rfl rfl ?_
      refine j_aload_n (n := 86) dX1_leastWithin_85 rfl rfl ?_
      refine j_iload (n := 88) dX1_leastWithin_86 rfl rfl ?_
      refine j_aload_n (n := 89) dX1_leastWithin_88 rfl rfl ?_
      refine j_callVi (n := 92) (Y1 := Y_X1_fillRow) (jm + 8) dX1_leastWithin_89 m_X1_32 cy_X1_fillRow ci_X1_fillRow (c_fillRow hM (show n < xc by omega) hV) rfl rfl rfl hm0 rfl (by omega) (by omega) (by omega) (Nat.le_of_ble_eq_true rfl) (fun z w h => ?_)
      obtain ⟨R2, lv, rfl, hV2, rfl, hlv, hlb2⟩ := h
      refine j_ws (ws' := ptL G A C stamp closed m cs la be Ln ll ++ rest.set jr (ar, arI G 1681 R2)) (by rw [List.set_set]) ?_
      have hM2 : MEA G (rest.set jr (ar, arI G 1681 R2)) A C m cs la be Ln ll am ar jm jr R2 jx Bx lx tx X xc stx ux px pstx jy By ly ty Y yc sty uy py psty := by
        have := hM.put (f := R2)
        rwa [List.set_set] at this
      have knext : JJ G Y_X1_leastWithin 3 0 0 (Qi (fun r w => ∃ R' : Nat → Int32, w = ptL G A C stamp closed m cs la be Ln ll ++ rest.set jr (ar, arI G 1681 R') ∧ r = wlim lim (TT C X Y xc yc 0 0) ∧ (¬ r = -1 → VR C X Y xc yc R' 0))) 108 [(0, .ref am), (1, .ref (Bx 0)), (2, .ref (By 0)), (3, .int (nI lim)), (4, .int (nI xc)), (5, .int (nI yc)), (6, .int (nI bh)), (7, .int (nI n)), (8, .int (nI lv))] [] (ptL G A C stamp closed m cs la be Ln ll ++ rest.set jr (ar, arI G 1681 R2)) 0 0 := by
        refine j_iload (n := 110) dX1_leastWithin_108 rfl rfl ?_
        refine j_istore (n := 112) dX1_leastWithin_110 rfl (by decide) ?_
        refine j_iinc (n := 115) (nI n - 1) dX1_leastWithin_112 rfl rfl (nI_im1 n) (by decide) ?_
        refine j_goto 79 dX1_leastWithin_115 (by decide) ?_
        refine j_keep [0, 1, 2, 3, 4, 5, 6, 7] rfl ?_
        exact ih (by omega) R2 lv hM2 hV2 hlv hlb2
      refine j_istore (n := 94) dX1_leastWithin_92 rfl (by decide) ?_
      refine j_iload (n := 96) dX1_leastWithin_94 rfl rfl ?_
      refine j_iload_n (n := 97) dX1_leastWithin_96 rfl rfl ?_
      refine j_icmp_le (n := 100) 108 dX1_leastWithin_97 (by decide) rfl (fun c2 => ?_) (fun c2 => ?_)
      · exact knext
      · refine j_iload (n := 102) dX1_leastWithin_100 rfl rfl ?_
        refine j_iload_n (n := 103) dX1_leastWithin_102 rfl rfl ?_
        refine j_icmp_le (n := 106) 108 dX1_leastWithin_103 (by decide) rfl (fun c3 => ?_) (fun c3 => ?_)
        · exact knext
        · have l1 : lim < lv := Nat.lt_of_not_le (fun q => c2 (nI_le q (by omega)))
          have l2 : lim < bh := Nat.lt_of_not_le (fun q => c3 (nI_le q (by omega)))
          have hbey := TT_beyond (lim := lim) (i := n) (fun j v a b => by have := hlb2 j v a b; omega) (fun j v a b => by have := hlb j v a b; omega) (show n < xc by omega) n 0 0
          have hr : wlim lim (TT C X Y xc yc 0 0) = -1 := by
            unfold wlim
            cases hT : TT C X Y xc yc 0 0 with
            | none => rfl
            | some v =>
              have := hbey v (by omega) FR_0 hT
              show (if v ≤ lim then nI v else -1) = -1
              rw [if_neg (by omega)]
          refine j_iconst (n := 107) (-1) dX1_leastWithin_106 rfl (by decide) ?_
          exact j_iret dX1_leastWithin_107 rfl rfl (by omega) (by omega) (⟨R2, rfl, hr.symm, fun q => absurd rfl q⟩)
theorem c_leastWithin {lim : Nat} (hM : MEA G rest A C m cs la be Ln ll am ar jm jr R jx Bx lx tx X xc stx ux px pstx jy By ly ty Y yc sty uy py psty) (hlim : lim < FF) : JM G Y_X1_leastWithin 3 0 0 [.ref am, .ref (Bx 0), .ref (By 0), .int (nI lim)] (ptL G A C stamp closed m cs la be Ln ll ++ rest) (Qi (fun r w => ∃ R' : Nat → Int32, w = ptL G A C stamp closed m cs la be Ln ll ++ rest.set jr (ar, arI G 1681 R') ∧ r = wlim lim (TT C X Y xc yc 0 0) ∧ (¬ r = -1 → VR C X Y xc yc R' 0))) := by
  have hff := ff_v
  obtain ⟨hok, h40, y40⟩ := hM.le
  have hm0 := hM.2.2.2.1
  have hr0 := hM.2.2.2.2.1
  have x0 := hM.2.2.2.2.2.1.1
  have y0 := hM.2.2.2.2.2.2.1.1
  have hfar : ∀ (h : 2 * yc < xc ∨ 2 * xc < yc), wlim lim (TT C X Y xc yc 0 0) = -1 := by
    intro h
    unfold wlim
    cases hT : TT C X Y xc yc 0 0 with
    | none => rfl
    | some v => have := TT_in xc 0 0 v (by omega) hT; omega
  refine JM.of [(0, .ref am), (1, .ref (Bx 0)), (2, .ref (By 0)), (3, .int (nI lim))] rfl rfl (by simp) (Nat.le_of_ble_eq_true rfl) (by decide +kernel) ?_
  refine j_aload_n (n := 1) dX1_leastWithin_0 rfl rfl ?_
  refine j_getN (n := 4) (jx + 8) dX1_leastWithin_1 f_X1_19 rfl x0 rfl ?_
  refine j_istore (n := 6) dX1_leastWithin_4 rfl (by decide) ?_
  refine j_aload_n (n := 7) dX1_leastWithin_6 rfl rfl ?_
  refine j_getN (n := 10) (jy + 8) dX1_leastWithin_7 f_X1_19 rfl y0 rfl ?_
  refine j_istore (n := 12) dX1_leastWithin_10 rfl (by decide) ?_
  refine j_iload (n := 14) dX1_leastWithin_12 rfl rfl ?_
  refine j_iconst (n := 15) (2) dX1_leastWithin_14 rfl (by decide) ?_
  refine j_iload (n := 17) dX1_leastWithin_15 rfl rfl ?_
  refine j_imul (n := 18) dX1_leastWithin_17 rfl ?_
  refine j_top (nI (2 * yc)) (pk_mul 2 yc) ?_
  refine j_icmp_gt (n := 21) 30 dX1_leastWithin_18 (by decide) rfl (fun c => ?_) (fun c => ?_)
  · have h1 : 2 * yc < xc := (nI_ltI (by omega) (by omega)).mp c
    refine j_iconst (n := 31) (-1) dX1_leastWithin_30 rfl (by decide) ?_
    exact j_iret dX1_leastWithin_31 rfl rfl (by omega) (by omega) (⟨R, by rw [set_self hr0], (hfar (Or.inl h1)).symm, fun q => absurd rfl q⟩)
  · refine j_iload (n := 23) dX1_leastWithin_21 rfl rfl ?_
    refine j_iconst (n := 24) (2) dX1_leastWithin_23 rfl (by decide) ?_
    refine j_iload (n := 26) dX1_leastWithin_24 rfl rfl ?_
    refine j_imul (n := 27) dX1_leastWithin_26 rfl ?_
    refine j_top (nI (2 * xc)) (pk_mul 2 xc) ?_
    refine j_icmp_le (n := 30) 32 dX1_leastWithin_27 (by decide) rfl (fun c2 => ?_) (fun c2 => ?_)
    · refine j_aload_n (n := 33) dX1_leastWithin_32 rfl rfl ?_
      refine j_get (n := 36) (jm + 8) dX1_leastWithin_33 f_X1_15 rfl hm0 rfl ?_
      refine j_iload (n := 38) dX1_leastWithin_36 rfl rfl ?_
      refine j_bipush (n := 40) (41) dX1_leastWithin_38 rfl (by decide) ?_
      refine j_imul (n := 41) dX1_leastWithin_40 rfl ?_
      refine j_top (nI (41 * xc)) (by rw [show (41 : Int32) = nI 41 from rfl, pk_mul, Nat.mul_comm]) ?_
      refine j_iload (n := 43) dX1_leastWithin_41 rfl rfl ?_
      refine j_bipush (n := 45) (41) dX1_leastWithin_43 rfl (by decide) ?_
      refine j_imul (n := 46) dX1_leastWithin_45 rfl ?_
      refine j_iload (n := 48) dX1_leastWithin_46 rfl rfl ?_
      refine j_iadd (n := 49) dX1_leastWithin_48 rfl ?_
      refine j_top (nI (41 * xc + yc)) (ix41' xc yc) ?_
      refine j_iconst (n := 50) (1) dX1_leastWithin_49 rfl (by decide) ?_
      refine j_iadd (n := 51) dX1_leastWithin_50 rfl ?_
      refine j_top (nI (41 * xc + yc + 1)) (nI_1 _) ?_
      refine j_ldc (n := 53) dX1_leastWithin_51 rfl k_X1_25 ?_
      refine j_callSv (n := 56) (Y1 := Y_J7_fill_fda19) dX1_leastWithin_53 m_X1_26 cy_J7_fill_fda19 cs_J7_fill_fda19 (c_fill4 (k := jr + 8) hr0 (lo := 41 * xc) (hi := 41 * xc + yc + 1) (by omega) (by omega) (by omega)) rfl rfl rfl (by omega) (by omega) (by omega) (Nat.le_of_ble_eq_true rfl) (fun w h => ?_)
      subst h
      have hjm := hM.2.2.2.2.2.2.2.2.2.2.2.2.2
      refine j_aload_n (n := 57) dX1_leastWithin_56 rfl rfl ?_
      refine j_get (n := 60) (jm + 8) dX1_leastWithin_57 f_X1_15 rfl (gs_ne (by omega) hm0) rfl ?_
      refine j_iload (n := 62) dX1_leastWithin_60 rfl rfl ?_
      refine j_bipush (n := 64) (41) dX1_leastWithin_62 rfl (by decide) ?_
      refine j_imul (n := 65) dX1_leastWithin_64 rfl ?_
      refine j_iload (n := 67) dX1_leastWithin_65 rfl rfl ?_
      refine j_iadd (n := 68) dX1_leastWithin_67 rfl ?_
      refine j_iconst (n := 69) (0) dX1_leastWithin_68 rfl (by decide) ?_
      refine j_iast (n := 70) (jr + 8) (41 * xc + yc) dX1_leastWithin_69 rfl (gs_eq hr0) (ix41' xc yc) (by omega) (by omega) ?_
      refine j_iconst (n := 71) (0) dX1_leastWithin_70 rfl (by decide) ?_
      refine j_istore (n := 73) dX1_leastWithin_71 rfl (by decide) ?_
      refine j_iload (n := 75) dX1_leastWithin_73 rfl rfl ?_
      refine j_iconst (n := 76) (1) dX1_leastWithin_75 rfl (by decide) ?_
      refine j_isub (n := 77) dX1_leastWithin_76 rfl ?_
      refine j_istore (n := 79) dX1_leastWithin_77 rfl (by decide) ?_
      refine j_ws (ws' := ptL G A C stamp closed m cs la be Ln ll ++ rest.set jr (ar, arI G 1681 (upd (fillF R (41 * xc) (41 * xc + yc + 1) 536870912) (41 * xc + yc) 0))) (congrArg (fun z => ptL G A C stamp closed m cs la be Ln ll ++ z) (List.set_set _)) ?_
      refine lw_loop hlim xc (Nat.le_refl _) _ 0 hM.put (fun i' j' a1 a2 a3 a4 => ?_) (by omega) (fun j v _ _ => Nat.zero_le _)
      obtain rfl : i' = xc := by omega
      rw [TT_end]
      unfold rowZ
      by_cases e : j' = yc
      · subst e; rw [pk_us, if_pos rfl]; rfl
      · rw [pk_un (by omega), if_neg e]
        unfold fillF
        rw [if_pos (by omega)]
        rfl
    · have h1 : 2 * xc < yc := Nat.lt_of_not_le (fun q => c2 (nI_le q (by omega)))
      refine j_iconst (n := 31) (-1) dX1_leastWithin_30 rfl (by decide) ?_
      exact j_iret dX1_leastWithin_31 rfl rfl (by omega) (by omega) (⟨R, by rw [set_self hr0], (hfar (Or.inr h1)).symm, fun q => absurd rfl q⟩)
end ME3

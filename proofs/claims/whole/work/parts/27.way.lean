/-! Measure: firstShape, writeWay, the constructor -/
def fsh (C : CT) (X Y : Nat → Int32) (xc yc i j : Nat) : Nat := if tst C X Y xc yc i j 0 = TT C X Y xc yc i j then 0 else if tst C X Y xc yc i j 1 = TT C X Y xc yc i j then 1 else if tst C X Y xc yc i j 2 = TT C X Y xc yc i j then 2 else 3
theorem fsh_lt {C : CT} {X Y : Nat → Int32} {xc yc i j : Nat} : fsh C X Y xc yc i j < 4 := by
  unfold fsh; split
  · omega
  · split
    · omega
    · split <;> omega
theorem fsh_tst {C : CT} {X Y : Nat → Int32} {xc yc i j v : Nat} (hi : i < xc) (h : TT C X Y xc yc i j = some v) : tst C X Y xc yc i j (fsh C X Y xc yc i j) = some v := by
  have hr := TT_tst (C := C) (X := X) (Y := Y) (yc := yc) (j := j) hi
  unfold fsh
  split
  · next h0 => rw [h0]; exact h
  · split
    · next h1 => rw [h1]; exact h
    · split
      · next h2 => rw [h2]; exact h
      · next h0 h1 h2 =>
        rw [h] at hr
        rw [h] at h0 h1 h2
        rcases oMin_some hr.symm with q | q
        · rcases oMin_some q with q | q
          · rcases oMin_some q with q | q
            · exact absurd q h0
            · exact absurd q h1
          · exact absurd q h2
        · exact q
theorem CB_iff {z : Int32} {o : Option Nat} {v : Nat} (h : CB z o) (hv : v < FF) : z = nI v ↔ o = some v := by
  have hff := ff_v
  cases o with
  | none =>
    obtain ⟨w, h1, h2, rfl⟩ := h
    constructor
    · intro q; have := (nI_eq (by omega) (by omega)).mp q; omega
    · intro q; cases q
  | some u =>
    obtain ⟨rfl, hu⟩ := h
    constructor
    · intro q; rw [(nI_eq (by omega) (by omega)).mp q]
    · intro q; cases q; rfl
/-- the places of the way that is told, and what it tells -/
def wpos (C : CT) (X Y : Nat → Int32) (xc yc : Nat) : Nat → Nat × Nat
  | 0 => (0, 0)
  | n + 1 => ((wpos C X Y xc yc n).1 + shX (fsh C X Y xc yc (wpos C X Y xc yc n).1 (wpos C X Y xc yc n).2), (wpos C X Y xc yc n).2 + shY (fsh C X Y xc yc (wpos C X Y xc yc n).1 (wpos C X Y xc yc n).2))
def wsh (C : CT) (X Y : Nat → Int32) (xc yc n : Nat) : Nat := fsh C X Y xc yc (wpos C X Y xc yc n).1 (wpos C X Y xc yc n).2
def wmi (C : CT) (X Y : Nat → Int32) (xc yc n : Nat) : Int32 := pcX X (wpos C X Y xc yc n).1 (shX (wsh C X Y xc yc n))
def wot (C : CT) (X Y : Nat → Int32) (xc yc n : Nat) : Int32 := pcX Y (wpos C X Y xc yc n).2 (shY (wsh C X Y xc yc n))
def wco (C : CT) (X Y : Nat → Int32) (xc yc n : Nat) : Int32 := nI ((chn C (wmi C X Y xc yc n) (wot C X Y xc yc n)).getD 0)
/-- how many steps: the first n at which a text is at its end -/
def wend (C : CT) (X Y : Nat → Int32) (xc yc n : Nat) : Bool := decide (xc ≤ (wpos C X Y xc yc n).1) || decide (yc ≤ (wpos C X Y xc yc n).2)
def wcount (C : CT) (X Y : Nat → Int32) (xc yc : Nat) : Nat → Nat → Nat
  | 0, n => n
  | f + 1, n => if wend C X Y xc yc n = true then n else wcount C X Y xc yc f (n + 1)
def wayN (C : CT) (X Y : Nat → Int32) (xc yc : Nat) : Nat := wcount C X Y xc yc 40 0
theorem wpos_ge (C : CT) (X Y : Nat → Int32) (xc yc n : Nat) : n ≤ (wpos C X Y xc yc n).1 := by
  induction n with
  | zero => exact Nat.le_refl _
  | succ n ih =>
    have := (sh_ab (fsh C X Y xc yc (wpos C X Y xc yc n).1 (wpos C X Y xc yc n).2)).1
    show n + 1 ≤ (wpos C X Y xc yc n).1 + shX _
    omega
theorem set4 {α : Type} {l : List α} {a b c d : Nat} {x y z w x' y' z' w' : α} (h1 : a ≠ b) (h2 : a ≠ c) (h3 : a ≠ d) (h4 : b ≠ c) (h5 : b ≠ d) (h6 : c ≠ d) : (((((((l.set a x).set b y).set c z).set d w).set a x').set b y').set c z').set d w' = (((l.set a x').set b y').set c z').set d w' := by
  apply List.ext_getElem?
  intro i
  simp only [List.getElem?_set, List.length_set]
  repeat' split
  all_goals first | rfl | omega
section ME4
variable {G : GT} {rest : va_W} {A : Nat → Nat} {C : CT} {stamp closed : Int32} {m Ln : Nat} {cs la be ll : Nat → Int32} {am ar jm jr : Nat} {R : Nat → Int32}
variable {jx jy : Nat} {Bx By : Nat → Nat} {lx ly xc yc : Nat} {tx X ty Y ux px uy py : Nat → Int32} {stx pstx sty psty : Int32}
theorem c_firstShape {i j v : Nat} (hM : MEA G rest A C m cs la be Ln ll am ar jm jr R jx Bx lx tx X xc stx ux px pstx jy By ly ty Y yc sty uy py psty) (hV : VR C X Y xc yc R 0) (hi : i < xc) (hj : j ≤ yc) (hF : FR i j) (hT : TT C X Y xc yc i j = some v) : JE G Y_X1_firstShape 2 0 0 [.ref am, .ref (Bx 0), .int (nI i), .ref (By 0), .int (nI j)] (ptL G A C stamp closed m cs la be Ln ll ++ rest) (nI (fsh C X Y xc yc i j)) (ptL G A C stamp closed m cs la be Ln ll ++ rest) := by
  have hff := ff_v
  obtain ⟨hok, h40, y40⟩ := hM.le
  have hm0 := hM.2.2.2.1
  have hr0 := hM.2.2.2.2.1
  have sX := hM.2.2.2.2.2.2.2.2.2.1
  have sY := hM.2.2.2.2.2.2.2.2.2.2.1
  have hv : v < FF := by have := TT_lt hok h40 (by omega) hT; omega
  have e0 : R (41 * i + j) = nI v := by rw [hV i j (Nat.zero_le _) (by omega) hF hj, hT]; rfl
  have hV' : VR C X Y xc yc R (i + 1) := fun i' j' a1 a2 a3 a4 => hV i' j' (Nat.zero_le _) a2 a3 a4
  have q0 := tcv_12 (C := C) (i := i) (j := j) sX sY (show 0 < 3 by omega)
  have q1 := tcv_12 (C := C) (i := i) (j := j) sX sY (show 1 < 3 by omega)
  have q2 := tcv_12 (C := C) (i := i) (j := j) sX sY (show 2 < 3 by omega)
  refine JM.of [(0, .ref am), (1, .ref (Bx 0)), (2, .int (nI i)), (3, .ref (By 0)), (4, .int (nI j))] rfl rfl (by simp) (Nat.le_of_ble_eq_true rfl) (by decide +kernel) ?_
  refine j_iconst (n := 1) (0) dX1_firstShape_0 rfl (by decide) ?_
  refine j_istore (n := 3) dX1_firstShape_1 rfl (by decide) ?_
  refine j_iload (n := 5) dX1_firstShape_3 rfl rfl ?_
  refine j_iconst (n := 6) (4) dX1_firstShape_5 rfl (by decide) ?_
  refine j_icmp_ge (n := 9) 44 dX1_firstShape_6 (by decide) rfl (fun c1 => ?_) (fun c1 => ?_)
  · exact absurd c1 (by decide)
  · refine j_aload_n (n := 10) dX1_firstShape_9 rfl rfl ?_
    refine j_iload (n := 12) dX1_firstShape_10 rfl rfl ?_
    refine j_aload_n (n := 13) dX1_firstShape_12 rfl rfl ?_
    refine j_iload_n (n := 14) dX1_firstShape_13 rfl rfl ?_
    refine j_aload_n (n := 15) dX1_firstShape_14 rfl rfl ?_
    refine j_iload (n := 17) dX1_firstShape_15 rfl rfl ?_
    refine j_callVi (n := 20) (Y1 := Y_X1_costBy) (jm + 8) dX1_firstShape_17 m_X1_45 cy_X1_costBy ci_X1_costBy (hM.cost (sh := 0) (by omega) (by omega) hj hF hV') rfl rfl rfl hm0 rfl (by omega) (by omega) (by omega) (Nat.le_of_ble_eq_true rfl) (fun z0 w h => ?_)
    obtain ⟨rfl, hz⟩ := h
    refine j_aload_n (n := 21) dX1_firstShape_20 rfl rfl ?_
    refine j_get (n := 24) (jm + 8) dX1_firstShape_21 f_X1_15 rfl hm0 rfl ?_
    refine j_iload_n (n := 25) dX1_firstShape_24 rfl rfl ?_
    refine j_bipush (n := 27) (41) dX1_firstShape_25 rfl (by decide) ?_
    refine j_imul (n := 28) dX1_firstShape_27 rfl ?_
    refine j_iload (n := 30) dX1_firstShape_28 rfl rfl ?_
    refine j_iadd (n := 31) dX1_firstShape_30 rfl ?_
    refine j_iald (n := 32) (jr + 8) (41 * i + j) dX1_firstShape_31 rfl hr0 (ix41' _ _) (by omega) (by omega) ?_
    rw [e0]
    rw [q0] at hz
    refine j_icmp_ne (n := 35) 38 dX1_firstShape_32 (by decide) rfl (fun d1 => ?_) (fun d1 => ?_)
    · have n0 : ¬ tst C X Y xc yc i j 0 = TT C X Y xc yc i j := by rw [hT]; exact fun q => d1 ((CB_iff hz hv).mpr q)
      refine j_iinc (n := 41) (nI (0 + 1)) dX1_firstShape_38 rfl rfl (nI_inc 0) (by decide) ?_
      refine j_goto 3 dX1_firstShape_41 (by decide) ?_
      refine j_iload (n := 5) dX1_firstShape_3 rfl rfl ?_
      refine j_iconst (n := 6) (4) dX1_firstShape_5 rfl (by decide) ?_
      refine j_icmp_ge (n := 9) 44 dX1_firstShape_6 (by decide) rfl (fun c2 => ?_) (fun c2 => ?_)
      · exact absurd c2 (by decide)
      · refine j_aload_n (n := 10) dX1_firstShape_9 rfl rfl ?_
        refine j_iload (n := 12) dX1_firstShape_10 rfl rfl ?_
        refine j_aload_n (n := 13) dX1_firstShape_12 rfl rfl ?_
        refine j_iload_n (n := 14) dX1_firstShape_13 rfl rfl ?_
        refine j_aload_n (n := 15) dX1_firstShape_14 rfl rfl ?_
        refine j_iload (n := 17) dX1_firstShape_15 rfl rfl ?_
        refine j_callVi (n := 20) (Y1 := Y_X1_costBy) (jm + 8) dX1_firstShape_17 m_X1_45 cy_X1_costBy ci_X1_costBy (hM.cost (sh := 1) (by omega) (by omega) hj hF hV') rfl rfl rfl hm0 rfl (by omega) (by omega) (by omega) (Nat.le_of_ble_eq_true rfl) (fun z0 w h => ?_)
        obtain ⟨rfl, hz⟩ := h
        refine j_aload_n (n := 21) dX1_firstShape_20 rfl rfl ?_
        refine j_get (n := 24) (jm + 8) dX1_firstShape_21 f_X1_15 rfl hm0 rfl ?_
        refine j_iload_n (n := 25) dX1_firstShape_24 rfl rfl ?_
        refine j_bipush (n := 27) (41) dX1_firstShape_25 rfl (by decide) ?_
        refine j_imul (n := 28) dX1_firstShape_27 rfl ?_
        refine j_iload (n := 30) dX1_firstShape_28 rfl rfl ?_
        refine j_iadd (n := 31) dX1_firstShape_30 rfl ?_
        refine j_iald (n := 32) (jr + 8) (41 * i + j) dX1_firstShape_31 rfl hr0 (ix41' _ _) (by omega) (by omega) ?_
        rw [e0]
        rw [q1] at hz
        refine j_icmp_ne (n := 35) 38 dX1_firstShape_32 (by decide) rfl (fun d2 => ?_) (fun d2 => ?_)
        · have n1 : ¬ tst C X Y xc yc i j 1 = TT C X Y xc yc i j := by rw [hT]; exact fun q => d2 ((CB_iff hz hv).mpr q)
          refine j_iinc (n := 41) (nI (1 + 1)) dX1_firstShape_38 rfl rfl (nI_inc 1) (by decide) ?_
          refine j_goto 3 dX1_firstShape_41 (by decide) ?_
          refine j_iload (n := 5) dX1_firstShape_3 rfl rfl ?_
          refine j_iconst (n := 6) (4) dX1_firstShape_5 rfl (by decide) ?_
          refine j_icmp_ge (n := 9) 44 dX1_firstShape_6 (by decide) rfl (fun c3 => ?_) (fun c3 => ?_)
          · exact absurd c3 (by decide)
          · refine j_aload_n (n := 10) dX1_firstShape_9 rfl rfl ?_
            refine j_iload (n := 12) dX1_firstShape_10 rfl rfl ?_
            refine j_aload_n (n := 13) dX1_firstShape_12 rfl rfl ?_
            refine j_iload_n (n := 14) dX1_firstShape_13 rfl rfl ?_
            refine j_aload_n (n := 15) dX1_firstShape_14 rfl rfl ?_
            refine j_iload (n := 17) dX1_firstShape_15 rfl rfl ?_
            refine j_callVi (n := 20) (Y1 := Y_X1_costBy) (jm + 8) dX1_firstShape_17 m_X1_45 cy_X1_costBy ci_X1_costBy (hM.cost (sh := 2) (by omega) (by omega) hj hF hV') rfl rfl rfl hm0 rfl (by omega) (by omega) (by omega) (Nat.le_of_ble_eq_true rfl) (fun z0 w h => ?_)
            obtain ⟨rfl, hz⟩ := h
            refine j_aload_n (n := 21) dX1_firstShape_20 rfl rfl ?_
            refine j_get (n := 24) (jm + 8) dX1_firstShape_21 f_X1_15 rfl hm0 rfl ?_
            refine j_iload_n (n := 25) dX1_firstShape_24 rfl rfl ?_
            refine j_bipush (n := 27) (41) dX1_firstShape_25 rfl (by decide) ?_
            refine j_imul (n := 28) dX1_firstShape_27 rfl ?_
            refine j_iload (n := 30) dX1_firstShape_28 rfl rfl ?_
            refine j_iadd (n := 31) dX1_firstShape_30 rfl ?_
            refine j_iald (n := 32) (jr + 8) (41 * i + j) dX1_firstShape_31 rfl hr0 (ix41' _ _) (by omega) (by omega) ?_
            rw [e0]
            rw [q2] at hz
            refine j_icmp_ne (n := 35) 38 dX1_firstShape_32 (by decide) rfl (fun d3 => ?_) (fun d3 => ?_)
            · have n2 : ¬ tst C X Y xc yc i j 2 = TT C X Y xc yc i j := by rw [hT]; exact fun q => d3 ((CB_iff hz hv).mpr q)
              refine j_iinc (n := 41) (nI (2 + 1)) dX1_firstShape_38 rfl rfl (nI_inc 2) (by decide) ?_
              refine j_goto 3 dX1_firstShape_41 (by decide) ?_
              refine j_iload (n := 5) dX1_firstShape_3 rfl rfl ?_
              refine j_iconst (n := 6) (4) dX1_firstShape_5 rfl (by decide) ?_
              refine j_icmp_ge (n := 9) 44 dX1_firstShape_6 (by decide) rfl (fun c4 => ?_) (fun c4 => ?_)
              · exact absurd c4 (by decide)
              · refine j_aload_n (n := 10) dX1_firstShape_9 rfl rfl ?_
                refine j_iload (n := 12) dX1_firstShape_10 rfl rfl ?_
                refine j_aload_n (n := 13) dX1_firstShape_12 rfl rfl ?_
                refine j_iload_n (n := 14) dX1_firstShape_13 rfl rfl ?_
                refine j_aload_n (n := 15) dX1_firstShape_14 rfl rfl ?_
                refine j_iload (n := 17) dX1_firstShape_15 rfl rfl ?_
                refine j_callVi (n := 20) (Y1 := Y_X1_costBy) (jm + 8) dX1_firstShape_17 m_X1_45 cy_X1_costBy ci_X1_costBy (hM.cost (sh := 3) (by omega) (by omega) hj hF hV') rfl rfl rfl hm0 rfl (by omega) (by omega) (by omega) (Nat.le_of_ble_eq_true rfl) (fun z0 w h => ?_)
                obtain ⟨rfl, hz⟩ := h
                refine j_aload_n (n := 21) dX1_firstShape_20 rfl rfl ?_
                refine j_get (n := 24) (jm + 8) dX1_firstShape_21 f_X1_15 rfl hm0 rfl ?_
                refine j_iload_n (n := 25) dX1_firstShape_24 rfl rfl ?_
                refine j_bipush (n := 27) (41) dX1_firstShape_25 rfl (by decide) ?_
                refine j_imul (n := 28) dX1_firstShape_27 rfl ?_
                refine j_iload (n := 30) dX1_firstShape_28 rfl rfl ?_
                refine j_iadd (n := 31) dX1_firstShape_30 rfl ?_
                refine j_iald (n := 32) (jr + 8) (41 * i + j) dX1_firstShape_31 rfl hr0 (ix41' _ _) (by omega) (by omega) ?_
                rw [e0]
                have hrow := tcv_row (C := C) (X := X) (Y := Y) (yc := yc) (j := j) hok sX sY hi
                rw [q0, q1, q2, hT] at hrow
                rw [hT] at n0 n1 n2
                have e3 : tcv C X Y xc yc i j 3 = some v := by
                  rcases oMin_some hrow with q | q
                  · rcases oMin_some q with q | q
                    · rcases oMin_some q with q | q
                      · exact absurd q n0
                      · exact absurd q n1
                    · exact absurd q n2
                  · exact q
                refine j_icmp_ne (n := 35) 38 dX1_firstShape_32 (by decide) rfl (fun d4 => ?_) (fun d4 => ?_)
                · exact absurd ((CB_iff hz hv).mpr e3) d4
                · refine j_iload (n := 37) dX1_firstShape_35 rfl rfl ?_
                  exact j_iret dX1_firstShape_37 rfl rfl (by omega) (by omega) (⟨by unfold fsh; rw [hT, if_neg n0, if_neg n1, if_neg n2], rfl⟩)
            · have n2 : tst C X Y xc yc i j 2 = TT C X Y xc yc i j := by rw [hT]; exact (CB_iff hz hv).mp d3
              refine j_iload (n := 37) dX1_firstShape_35 rfl rfl ?_
              exact j_iret dX1_firstShape_37 rfl rfl (by omega) (by omega) (⟨by unfold fsh; rw [if_neg n0, if_neg n1, if_pos n2], rfl⟩)
        · have n1 : tst C X Y xc yc i j 1 = TT C X Y xc yc i j := by rw [hT]; exact (CB_iff hz hv).mp d2
          refine j_iload (n := 37) dX1_firstShape_35 rfl rfl ?_
          exact j_iret dX1_firstShape_37 rfl rfl (by omega) (by omega) (⟨by unfold fsh; rw [if_neg n0, if_pos n1], rfl⟩)
    · have n0 : tst C X Y xc yc i j 0 = TT C X Y xc yc i j := by rw [hT]; exact (CB_iff hz hv).mp d1
      refine j_iload (n := 37) dX1_firstShape_35 rfl rfl ?_
      exact j_iret dX1_firstShape_37 rfl rfl (by omega) (by omega) (⟨by unfold fsh; rw [if_pos n0]; rfl, rfl⟩)
theorem pce_ok {s : Nat → Int32} {cnt i a : Nat} (hi : i + a ≤ cnt) (ha : a = 1 ∨ a = 2) (hc : cnt ≤ 40) : pceF cnt s (nI i) (nI a) = pcX s i a := by
  unfold pceF pcX
  rcases ha with e | e
  · subst e; rw [if_pos (show nI 1 = 1 from rfl), if_pos rfl, atF_in (by omega) (by omega)]
  · subst e; rw [if_neg (show ¬ nI 2 = 1 by decide), if_neg (by decide), nI_1, atF_in (by omega) (by omega), atF_in (by omega) (by omega)]; rfl
abbrev wyO (W : Nat → Nat) (n : Nat) : va_E := .inr (9, [.ref (W 1), .ref (W 2), .ref (W 3), .int (nI n)])
def rwW (G : GT) (rest : va_W) (jw : Nat) (W : Nat → Nat) (f1 f2 f3 : Nat → Int32) (n : Nat) : va_W := (((rest.set (jw + 1) (W 1, arI G 40 f1)).set (jw + 2) (W 2, arI G 40 f2)).set (jw + 3) (W 3, arI G 40 f3)).set jw (W 0, wyO W n)
theorem MEA.other {k : Nat} {c : Nat × va_E} (h : MEA G rest A C m cs la be Ln ll am ar jm jr R jx Bx lx tx X xc stx ux px pstx jy By ly ty Y yc sty uy py psty) (k1 : k ≠ jm) (k2 : k ≠ jr) (k3 : k < jx ∨ jx + 4 < k) (k4 : k < jy ∨ jy + 4 < k) : MEA G (rest.set k c) A C m cs la be Ln ll am ar jm jr R jx Bx lx tx X xc stx ux px pstx jy By ly ty Y yc sty uy py psty := by
  obtain ⟨h1, h2, h3, h4, h5, h6, h7, h8, h9, h10, h11, h12, h13, h14⟩ := h
  exact ⟨h1, h2, h3, gs_ne k1 h4, gs_ne k2 h5, h6.set k3, h7.set k4, h8, h9, h10, h11, h12, h13, h14⟩
theorem way_loop {jw : Nat} {W : Nat → Nat} {g0 : va_E} {g1 g2 g3 : Nat → Int32} (hM : MEA G rest A C m cs la be Ln ll am ar jm jr R jx Bx lx tx X xc stx ux px pstx jy By ly ty Y yc sty uy py psty) (hV : VR C X Y xc yc R 0) (hw0 : rest[jw]? = some (W 0, g0)) (hw1 : rest[jw + 1]? = some (W 1, arI G 40 g1)) (hw2 : rest[jw + 2]? = some (W 2, arI G 40 g2)) (hw3 : rest[jw + 3]? = some (W 3, arI G 40 g3)) (k1 : jm < jw ∨ jw + 3 < jm) (k2 : jr < jw ∨ jw + 3 < jr) (k3 : jw + 3 < jx ∨ jx + 4 < jw) (k4 : jw + 3 < jy ∨ jy + 4 < jw) :
    ∀ (f n : Nat), n + f = 40 → ∀ (v : Nat) (f1 f2 f3 : Nat → Int32), FR (wpos C X Y xc yc n).1 (wpos C X Y xc yc n).2 → (wpos C X Y xc yc n).1 ≤ xc → (wpos C X Y xc yc n).2 ≤ yc → TT C X Y xc yc (wpos C X Y xc yc n).1 (wpos C X Y xc yc n).2 = some v → (∀ k, k < n → f1 k = wmi C X Y xc yc k ∧ f2 k = wot C X Y xc yc k ∧ f3 k = wco C X Y xc yc k) →
      JJ G Y_X1_writeWay 3 0 0 (Qv (fun w => ∃ f1' f2' f3' : Nat → Int32, w = ptL G A C stamp closed m cs la be Ln ll ++ rwW G rest jw W f1' f2' f3' (wcount C X Y xc yc f n) ∧ ∀ k, k < wcount C X Y xc yc f n → f1' k = wmi C X Y xc yc k ∧ f2' k = wot C X Y xc yc k ∧ f3' k = wco C X Y xc yc k)) 14 [(0, .ref am), (1, .ref (Bx 0)), (2, .ref (By 0)), (3, .ref (W 0)), (4, .int (nI (wpos C X Y xc yc n).1)), (5, .int (nI (wpos C X Y xc yc n).2)), (6, .int (nI n))] [] (ptL G A C stamp closed m cs la be Ln ll ++ rwW G rest jw W f1 f2 f3 n) 0 0 := by
  have hff := ff_v
  obtain ⟨hok, h40, y40⟩ := hM.le
  intro f
  induction f with
  | zero =>
    intro n hn v f1 f2 f3 hF hix hjy hT hag
    refine j_iload (n := 16) dX1_writeWay_14 rfl rfl ?_
    refine j_bipush (n := 18) (40) dX1_writeWay_16 rfl (by decide) ?_
    refine j_icmp_ge (n := 21) 144 dX1_writeWay_18 (by decide) rfl (fun c => ?_) (fun c => ?_)
    · exact j_vret dX1_writeWay_144 rfl (by omega) (by omega) (⟨f1, f2, f3, rfl, hag⟩)
    · exact absurd (nI_le (a := 40) (show 40 ≤ n by omega) (by omega)) c
  | succ f ih =>
    intro n hn v f1 f2 f3 hF hix hjy hT hag
    have hM2 : MEA G (rwW G rest jw W f1 f2 f3 n) A C m cs la be Ln ll am ar jm jr R jx Bx lx tx X xc stx ux px pstx jy By ly ty Y yc sty uy py psty := (((hM.other (by omega) (by omega) (by omega) (by omega)).other (by omega) (by omega) (by omega) (by omega)).other (by omega) (by omega) (by omega) (by omega)).other (by omega) (by omega) (by omega) (by omega)
    have w0 : (rwW G rest jw W f1 f2 f3 n)[jw]? = some (W 0, wyO W n) := gs_eq (gs_ne (by omega) (gs_ne (by omega) (gs_ne (by omega) hw0)))
    have w1 : (rwW G rest jw W f1 f2 f3 n)[jw + 1]? = some (W 1, arI G 40 f1) := gs_ne (by omega) (gs_ne (by omega) (gs_ne (by omega) (gs_eq hw1)))
    have w2 : (rwW G rest jw W f1 f2 f3 n)[jw + 2]? = some (W 2, arI G 40 f2) := gs_ne (by omega) (gs_ne (by omega) (gs_eq (gs_ne (by omega) hw2)))
    have w3 : (rwW G rest jw W f1 f2 f3 n)[jw + 3]? = some (W 3, arI G 40 f3) := gs_ne (by omega) (gs_eq (gs_ne (by omega) (gs_ne (by omega) hw3)))
    have key : ∀ h1 h2 h3 : Nat → Int32, ((((rwW G rest jw W f1 f2 f3 n).set (jw + 1) (W 1, arI G 40 h1)).set (jw + 2) (W 2, arI G 40 h2)).set (jw + 3) (W 3, arI G 40 h3)).set jw (W 0, wyO W (n + 1)) = rwW G rest jw W h1 h2 h3 (n + 1) := fun h1 h2 h3 => set4 (by omega) (by omega) (by omega) (by omega) (by omega) (by omega)
    have ih := ih (n + 1) (by omega)
    have hwp : wpos C X Y xc yc (n + 1) = ((wpos C X Y xc yc n).1 + shX (fsh C X Y xc yc (wpos C X Y xc yc n).1 (wpos C X Y xc yc n).2), (wpos C X Y xc yc n).2 + shY (fsh C X Y xc yc (wpos C X Y xc yc n).1 (wpos C X Y xc yc n).2)) := rfl
    have hmi : wmi C X Y xc yc n = pcX X (wpos C X Y xc yc n).1 (shX (fsh C X Y xc yc (wpos C X Y xc yc n).1 (wpos C X Y xc yc n).2)) := rfl
    have hot : wot C X Y xc yc n = pcX Y (wpos C X Y xc yc n).2 (shY (fsh C X Y xc yc (wpos C X Y xc yc n).1 (wpos C X Y xc yc n).2)) := rfl
    have hco : wco C X Y xc yc n = nI ((chn C (wmi C X Y xc yc n) (wot C X Y xc yc n)).getD 0) := rfl
    have hwe : wend C X Y xc yc n = (decide (xc ≤ (wpos C X Y xc yc n).1) || decide (yc ≤ (wpos C X Y xc yc n).2)) := rfl
    rw [hwp] at ih
    generalize hP : wpos C X Y xc yc n = P at *
    obtain ⟨i, j⟩ := P
    dsimp only at *
    have hwc : wcount C X Y xc yc (f + 1) n = if wend C X Y xc yc n = true then n else wcount C X Y xc yc f (n + 1) := rfl
    have hm0 := hM2.2.2.2.1
    have hr0 := hM2.2.2.2.2.1
    have x0 := hM2.2.2.2.2.2.1
    have y0 := hM2.2.2.2.2.2.2.1
    obtain ⟨x0, -, x2, -, -, xl, xl2⟩ := x0
    obtain ⟨y0, -, y2, -, -, yl, yl2⟩ := y0
    refine j_iload (n := 16) dX1_writeWay_14 rfl rfl ?_
    refine j_bipush (n := 18) (40) dX1_writeWay_16 rfl (by decide) ?_
    refine j_icmp_ge (n := 21) 144 dX1_writeWay_18 (by decide) rfl (fun c => ?_) (fun c => ?_)
    · exact absurd c (nI_ge (b := 40) (show n < 40 by omega) (by omega))
    · refine j_iload (n := 23) dX1_writeWay_21 rfl rfl ?_
      refine j_aload_n (n := 24) dX1_writeWay_23 rfl rfl ?_
      refine j_getN (n := 27) (jx + 8) dX1_writeWay_24 f_X1_19 rfl x0 rfl ?_
      refine j_icmp_ge (n := 30) 144 dX1_writeWay_27 (by decide) rfl (fun c2 => ?_) (fun c2 => ?_)
      · have hx : xc ≤ i := (nI_leI (by omega) (by omega)).mp c2
        have he : wend C X Y xc yc n = true := by rw [hwe, decide_eq_true hx]; rfl
        rw [hwc, if_pos he]
        exact j_vret dX1_writeWay_144 rfl (by omega) (by omega) (⟨f1, f2, f3, rfl, hag⟩)
      · have hx : i < xc := Nat.lt_of_not_le (fun q => c2 (nI_le q (by omega)))
        refine j_iload (n := 32) dX1_writeWay_30 rfl rfl ?_
        refine j_aload_n (n := 33) dX1_writeWay_32 rfl rfl ?_
        refine j_getN (n := 36) (jy + 8) dX1_writeWay_33 f_X1_19 rfl y0 rfl ?_
        refine j_icmp_ge (n := 39) 144 dX1_writeWay_36 (by decide) rfl (fun c3 => ?_) (fun c3 => ?_)
        · have hy : yc ≤ j := (nI_leI (by omega) (by omega)).mp c3
          have he : wend C X Y xc yc n = true := by rw [hwe, decide_eq_true hy, Bool.or_true]
          rw [hwc, if_pos he]
          exact j_vret dX1_writeWay_144 rfl (by omega) (by omega) (⟨f1, f2, f3, rfl, hag⟩)
        · have hy : j < yc := Nat.lt_of_not_le (fun q => c3 (nI_le q (by omega)))
          have he : ¬ wend C X Y xc yc n = true := by rw [hwe, decide_eq_false (by omega), decide_eq_false (by omega)]; exact Bool.false_ne_true
          rw [hwc, if_neg he]
          have ht := fsh_tst hx hT
          have hsh := fsh_lt (C := C) (X := X) (Y := Y) (xc := xc) (yc := yc) (i := i) (j := j)
          refine j_aload_n (n := 40) dX1_writeWay_39 rfl rfl ?_
          refine j_aload_n (n := 41) dX1_writeWay_40 rfl rfl ?_
          refine j_iload (n := 43) dX1_writeWay_41 rfl rfl ?_
          refine j_aload_n (n := 44) dX1_writeWay_43 rfl rfl ?_
          refine j_iload (n := 46) dX1_writeWay_44 rfl rfl ?_
          refine j_callVe (n := 49) (Y1 := Y_X1_firstShape) (jm + 8) dX1_writeWay_46 m_X1_72 cy_X1_firstShape ci_X1_firstShape (c_firstShape hM2 hV hx hjy hF hT) rfl rfl rfl hm0 rfl (by omega) (by omega) (by omega) (Nat.le_of_ble_eq_true rfl) ?_
          generalize fsh C X Y xc yc i j = sh at *
          obtain ⟨cst, wv, t1, t2, t3⟩ := oAdd_some ht
          obtain ⟨sa, sb⟩ := sh_ab sh
          have b1 : i + shX sh ≤ xc := by
            rcases Nat.lt_or_ge xc (i + shX sh) with z | z
            · rw [TT_out z] at t2; cases t2
            · exact z
          have b2 : j + shY sh ≤ yc := TT_yc b1 t2
          have r1 : R (41 * i + j) = nI v := by rw [hV i j (Nat.zero_le _) hix hF hjy, hT]; rfl
          have r2 : R (41 * (i + shX sh) + (j + shY sh)) = nI wv := by rw [hV _ _ (Nat.zero_le _) b1 (FR_s sh hF) b2, t2]; rfl
          have hvb := TT_lt hok h40 hix hT
          refine j_istore (n := 51) dX1_writeWay_49 rfl (by decide) ?_
          refine j_getX (n := 54) dX1_writeWay_51 f_X1_49 rfl ?_
          refine j_iload (n := 56) dX1_writeWay_54 rfl rfl ?_
          refine j_xald (n := 57) sh (.int (nI (shX sh))) dX1_writeWay_56 rfl rfl hsh fXS_sh ?_
          refine j_istore (n := 59) dX1_writeWay_57 rfl (by decide) ?_
          refine j_getY (n := 62) dX1_writeWay_59 f_X1_52 rfl ?_
          refine j_iload (n := 64) dX1_writeWay_62 rfl rfl ?_
          refine j_yald (n := 65) sh (.int (nI (shY sh))) dX1_writeWay_64 rfl rfl hsh fYS_sh ?_
          refine j_istore (n := 67) dX1_writeWay_65 rfl (by decide) ?_
          refine j_aload_n (n := 68) dX1_writeWay_67 rfl rfl ?_
          refine j_get (n := 71) (jm + 8) dX1_writeWay_68 f_X1_15 rfl hm0 rfl ?_
          refine j_iload (n := 73) dX1_writeWay_71 rfl rfl ?_
          refine j_bipush (n := 75) (41) dX1_writeWay_73 rfl (by decide) ?_
          refine j_imul (n := 76) dX1_writeWay_75 rfl ?_
          refine j_iload (n := 78) dX1_writeWay_76 rfl rfl ?_
          refine j_iadd (n := 79) dX1_writeWay_78 rfl ?_
          refine j_iald (n := 80) (jr + 8) (41 * i + j) dX1_writeWay_79 rfl hr0 (ix41' _ _) (by omega) (by omega) ?_
          refine j_aload_n (n := 81) dX1_writeWay_80 rfl rfl ?_
          refine j_get (n := 84) (jm + 8) dX1_writeWay_81 f_X1_15 rfl hm0 rfl ?_
          refine j_iload (n := 86) dX1_writeWay_84 rfl rfl ?_
          refine j_iload (n := 88) dX1_writeWay_86 rfl rfl ?_
          refine j_iadd (n := 89) dX1_writeWay_88 rfl ?_
          refine j_top (nI (i + shX sh)) (nI_add i (shX sh)) ?_
          refine j_bipush (n := 91) (41) dX1_writeWay_89 rfl (by decide) ?_
          refine j_imul (n := 92) dX1_writeWay_91 rfl ?_
          refine j_iload (n := 94) dX1_writeWay_92 rfl rfl ?_
          refine j_iadd (n := 95) dX1_writeWay_94 rfl ?_
          refine j_iload (n := 97) dX1_writeWay_95 rfl rfl ?_
          refine j_iadd (n := 98) dX1_writeWay_97 rfl ?_
          refine j_iald (n := 99) (jr + 8) (41 * (i + shX sh) + (j + shY sh)) dX1_writeWay_98 rfl hr0 (ix41 _ _ _) (by omega) (by omega) ?_
          rw [r1, r2]
          refine j_isub (n := 100) dX1_writeWay_99 rfl ?_
          refine j_top (nI cst) (by rw [pk_sub (by omega)]; congr 1; omega) ?_
          refine j_istore (n := 102) dX1_writeWay_100 rfl (by decide) ?_
          refine j_aload_n (n := 103) dX1_writeWay_102 rfl rfl ?_
          refine j_aload_n (n := 104) dX1_writeWay_103 rfl rfl ?_
          refine j_iload (n := 106) dX1_writeWay_104 rfl rfl ?_
          refine j_iload (n := 108) dX1_writeWay_106 rfl rfl ?_
          refine j_callVe (n := 111) (Y1 := Y_X8_pieceAt) (jx + 8) dX1_writeWay_108 m_X1_76 cy_X8_pieceAt ci_X8_pieceAt (c_pieceAt (jx + 8) x0 (jx + 2 + 8) x2 (by omega) (by omega)) rfl rfl rfl x0 rfl (by omega) (by omega) (by omega) (Nat.le_of_ble_eq_true rfl) ?_
          rw [pce_ok b1 sa (by omega)]
          refine j_aload_n (n := 112) dX1_writeWay_111 rfl rfl ?_
          refine j_iload (n := 114) dX1_writeWay_112 rfl rfl ?_
          refine j_iload (n := 116) dX1_writeWay_114 rfl rfl ?_
          refine j_callVe (n := 119) (Y1 := Y_X8_pieceAt) (jy + 8) dX1_writeWay_116 m_X1_76 cy_X8_pieceAt ci_X8_pieceAt (c_pieceAt (jy + 8) y0 (jy + 2 + 8) y2 (by omega) (by omega)) rfl rfl rfl y0 rfl (by omega) (by omega) (by omega) (Nat.le_of_ble_eq_true rfl) ?_
          rw [pce_ok b2 sb (by omega)]
          refine j_iload (n := 121) dX1_writeWay_119 rfl rfl ?_
          have e3 : wco C X Y xc yc n = nI cst := by rw [hco, hmi, hot, t1]; rfl
          refine j_callVv (n := 124) (Y1 := Y_X9_add) (jw + 8) dX1_writeWay_121 m_X1_79 cy_X9_add ci_X9_add (c_wayAdd (k0 := jw + 8) w0 (k1 := jw + 1 + 8) w1 (k2 := jw + 2 + 8) w2 (k3 := jw + 3 + 8) w3 (by omega) (by omega) (by omega) (by omega) (by omega) (by omega) (show n < 40 by omega)) rfl rfl rfl w0 rfl (by omega) (by omega) (by omega) (Nat.le_of_ble_eq_true rfl) (fun w h => ?_)
          subst h
          refine j_ws (ws' := ptL G A C stamp closed m cs la be Ln ll ++ rwW G rest jw W (upd f1 n (pcX X i (shX sh))) (upd f2 n (pcX Y j (shY sh))) (upd f3 n (nI cst)) (n + 1)) (congrArg (fun z => ptL G A C stamp closed m cs la be Ln ll ++ z) (key _ _ _)) ?_
          refine j_iload (n := 126) dX1_writeWay_124 rfl rfl ?_
          refine j_iload (n := 128) dX1_writeWay_126 rfl rfl ?_
          refine j_iadd (n := 129) dX1_writeWay_128 rfl ?_
          refine j_top (nI (i + shX sh)) (nI_add i (shX sh)) ?_
          refine j_istore (n := 131) dX1_writeWay_129 rfl (by decide) ?_
          refine j_iload (n := 133) dX1_writeWay_131 rfl rfl ?_
          refine j_iload (n := 135) dX1_writeWay_133 rfl rfl ?_
          refine j_iadd (n := 136) dX1_writeWay_135 rfl ?_
          refine j_top (nI (j + shY sh)) (nI_add j (shY sh)) ?_
          refine j_istore (n := 138) dX1_writeWay_136 rfl (by decide) ?_
          refine j_iinc (n := 141) (nI (n + 1)) dX1_writeWay_138 rfl rfl (nI_inc n) (by decide) ?_
          refine j_goto 14 dX1_writeWay_141 (by decide) ?_
          refine j_keep [0, 1, 2, 3, 4, 5, 6] rfl ?_
          refine ih wv _ _ _ (FR_s sh hF) b1 b2 t2 (fun k hk => ?_)
          by_cases ek : k = n
          · subst ek; rw [pk_us, pk_us, pk_us]; exact ⟨hmi.symm, hot.symm, e3.symm⟩
          · rw [pk_un ek, pk_un ek, pk_un ek]; exact hag k (by omega)
theorem c_writeWay {jw n0 v : Nat} {W : Nat → Nat} {g1 g2 g3 : Nat → Int32} (hM : MEA G rest A C m cs la be Ln ll am ar jm jr R jx Bx lx tx X xc stx ux px pstx jy By ly ty Y yc sty uy py psty) (hV : VR C X Y xc yc R 0) (hT : TT C X Y xc yc 0 0 = some v) (hw0 : rest[jw]? = some (W 0, wyO W n0)) (hw1 : rest[jw + 1]? = some (W 1, arI G 40 g1)) (hw2 : rest[jw + 2]? = some (W 2, arI G 40 g2)) (hw3 : rest[jw + 3]? = some (W 3, arI G 40 g3)) (k1 : jm < jw ∨ jw + 3 < jm) (k2 : jr < jw ∨ jw + 3 < jr) (k3 : jw + 3 < jx ∨ jx + 4 < jw) (k4 : jw + 3 < jy ∨ jy + 4 < jw) :
    JM G Y_X1_writeWay 3 0 0 [.ref am, .ref (Bx 0), .ref (By 0), .ref (W 0)] (ptL G A C stamp closed m cs la be Ln ll ++ rest) (Qv (fun w => ∃ f1 f2 f3 : Nat → Int32, w = ptL G A C stamp closed m cs la be Ln ll ++ rwW G rest jw W f1 f2 f3 (wayN C X Y xc yc) ∧ ∀ k, k < wayN C X Y xc yc → f1 k = wmi C X Y xc yc k ∧ f2 k = wot C X Y xc yc k ∧ f3 k = wco C X Y xc yc k)) := by
  refine JM.of [(0, .ref am), (1, .ref (Bx 0)), (2, .ref (By 0)), (3, .ref (W 0))] rfl rfl (by simp) (Nat.le_of_ble_eq_true rfl) (by decide +kernel) ?_
  refine j_aload_n (n := 1) dX1_writeWay_0 rfl rfl ?_
  refine j_iconst (n := 2) (0) dX1_writeWay_1 rfl (by decide) ?_
  refine j_putN (n := 5) (jw + 8) dX1_writeWay_2 f_X1_67 rfl rfl hw0 (Nat.le_of_ble_eq_true rfl) rfl rfl ?_
  refine j_iconst (n := 6) (0) dX1_writeWay_5 rfl (by decide) ?_
  refine j_istore (n := 8) dX1_writeWay_6 rfl (by decide) ?_
  refine j_iconst (n := 9) (0) dX1_writeWay_8 rfl (by decide) ?_
  refine j_istore (n := 11) dX1_writeWay_9 rfl (by decide) ?_
  refine j_iconst (n := 12) (0) dX1_writeWay_11 rfl (by decide) ?_
  refine j_istore (n := 14) dX1_writeWay_12 rfl (by decide) ?_
  have hs : rwW G rest jw W g1 g2 g3 0 = rest.set jw (W 0, wyO W 0) := by
    unfold rwW
    rw [set_self hw1, set_self hw2, set_self hw3]
  refine j_ws (ws' := ptL G A C stamp closed m cs la be Ln ll ++ rwW G rest jw W g1 g2 g3 0) (by rw [hs]; rfl) ?_
  exact way_loop hM hV hw0 hw1 hw2 hw3 k1 k2 k3 k4 40 0 (by omega) v g1 g2 g3 FR_0 (Nat.zero_le _) (Nat.zero_le _) hT (fun k h => absurd h (Nat.not_lt_zero k))
theorem c_Measure {a0 ap : Nat} {pre : va_W} : JM G Y_X1_init 1 1 1681 [.ref a0, .ref ap] ((a0, .inr (1, [.null, .null])) :: pre) (Qv (fun w => ∃ a1 : Nat, w = (a0, .inr (1, [.ref ap, .ref a1])) :: pre ++ [(a1, arI G 1681 (fun _ => 0))])) := by
  refine JM.of [(0, .ref a0), (1, .ref ap)] rfl rfl (by simp) (Nat.le_of_ble_eq_true rfl) (by decide +kernel) ?_
  refine j_aload_n (n := 1) dX1_init_0 rfl rfl ?_
  refine j_objInit (n := 4) dX1_init_1 m_X1_3 rfl (by omega) (Nat.le_of_ble_eq_true rfl) ?_
  refine j_aload_n (n := 5) dX1_init_4 rfl rfl ?_
  refine j_aload_n (n := 6) dX1_init_5 rfl rfl ?_
  refine j_putF (n := 9) 0 dX1_init_6 f_X1_9 rfl rfl rfl (fun q h => by cases h; rfl) rfl (Nat.le_of_ble_eq_true rfl) rfl rfl ?_
  refine j_aload_n (n := 10) dX1_init_9 rfl rfl ?_
  refine j_sipush (n := 13) (1681) dX1_init_10 rfl (by decide) ?_
  refine j_newi (n := 15) 1681 dX1_init_13 rfl rfl (by decide) (by omega) (by omega) (fun a1 => ?_)
  refine j_putF (n := 18) 0 dX1_init_15 f_X1_15 rfl rfl rfl (fun q h => by cases h; rfl) rfl (Nat.le_of_ble_eq_true rfl) rfl rfl ?_
  exact j_vret dX1_init_18 rfl (by omega) (by omega) (⟨a1, rfl⟩)
end ME4

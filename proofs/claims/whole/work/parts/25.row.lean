/-! Measure: fillRow -/
theorem oAdd_0 (x : Option Nat) : oAdd (some 0) x = x := by cases x <;> simp [oAdd]
theorem oMin_abs (a b c d : Option Nat) : oMin (oMin (oMin (oMin a b) c) d) a = oMin (oMin (oMin a b) c) d := by
  cases a <;> cases b <;> cases c <;> cases d <;> simp [oMin] <;> omega
theorem oMin_abs3 {a b c d : Option Nat} (h : oMin a d = a) : oMin (oMin (oMin a b) c) d = oMin (oMin a b) c := by
  cases a <;> cases b <;> cases c <;> cases d <;> simp_all [oMin] <;> omega
section ROW
variable {C : CT} {X Y : Nat → Int32} {xc yc : Nat}
theorem TT_yc {i j v : Nat} (hi : i ≤ xc) (h : TT C X Y xc yc i j = some v) : j ≤ yc := (TT_in (xc - i) i j v (by omega) h).2.2.2
/-- the step by the full table, as the whole table has it -/
def tst (C : CT) (X Y : Nat → Int32) (xc yc i j sh : Nat) : Option Nat := oAdd (chn C (pcX X i (shX sh)) (pcX Y j (shY sh))) (TT C X Y xc yc (i + shX sh) (j + shY sh))
theorem tst_out {i j sh : Nat} (h : ¬ (i + shX sh ≤ xc ∧ j + shY sh ≤ yc)) : tst C X Y xc yc i j sh = none := by
  unfold tst
  have e : TT C X Y xc yc (i + shX sh) (j + shY sh) = none := by
    cases e : TT C X Y xc yc (i + shX sh) (j + shY sh) with
    | none => rfl
    | some v =>
      exfalso; apply h
      rcases Nat.lt_or_ge xc (i + shX sh) with z | z
      · rw [TT_out z] at e; cases e
      · exact ⟨z, TT_yc z e⟩
  rw [e]
  cases chn C (pcX X i (shX sh)) (pcX Y j (shY sh)) <;> rfl
theorem TT_tst {i j : Nat} (hi : i < xc) : TT C X Y xc yc i j = oMin (oMin (oMin (tst C X Y xc yc i j 0) (tst C X Y xc yc i j 1)) (tst C X Y xc yc i j 2)) (tst C X Y xc yc i j 3) := by
  rw [TT_step hi]
  unfold rowN
  rw [stp_eq, stp_eq, stp_eq, stp_eq]
  rfl
theorem tcv_12 {i j sh : Nat} (hX : SGS X xc) (hY : SGS Y yc) (hsh : sh < 3) : tcv C X Y xc yc i j sh = tst C X Y xc yc i j sh := by
  by_cases h : i + shX sh ≤ xc ∧ j + shY sh ≤ yc
  · unfold tcv tst
    rw [if_pos h]
    congr 1
    unfold ccv
    by_cases h0 : sh = 0
    · subst h0; rfl
    · rw [if_neg h0]
      have hne : ¬ pcX X i (shX sh) = pcX Y j (shY sh) := by
        rcases (show sh = 1 ∨ sh = 2 by omega) with e | e
        · subst e
          have h1 : i + 1 ≤ xc := h.1
          have h2 : j + 2 ≤ yc := h.2
          obtain ⟨a, ea, a1, a2⟩ := hX i (by omega)
          obtain ⟨b, eb, b1, b2⟩ := hY j (by omega)
          obtain ⟨c, ec, c1, c2⟩ := hY (j + 1) (by omega)
          show ¬ X i = 256 * Y j + Y (j + 1)
          rw [ea, eb, ec]
          exact fun q => p2_ne c2 b1 b2 a2 q.symm
        · subst e
          have h1 : i + 2 ≤ xc := h.1
          have h2 : j + 1 ≤ yc := h.2
          obtain ⟨a, ea, a1, a2⟩ := hY j (by omega)
          obtain ⟨b, eb, b1, b2⟩ := hX i (by omega)
          obtain ⟨c, ec, c1, c2⟩ := hX (i + 1) (by omega)
          show ¬ 256 * X i + X (i + 1) = Y j
          rw [ea, eb, ec]
          exact p2_ne c2 b1 b2 a2
      unfold chn
      rw [if_neg hne]
  · rw [tst_out h]; unfold tcv; rw [if_neg h]
theorem tcv_3 {i j : Nat} (hok : CTok C) (hX : SGS X xc) (hY : SGS Y yc) : tcv C X Y xc yc i j 3 = tst C X Y xc yc i j 3 ∨ (tcv C X Y xc yc i j 3 = none ∧ oMin (tst C X Y xc yc i j 0) (tst C X Y xc yc i j 3) = tst C X Y xc yc i j 0) := by
  by_cases h : i + shX 3 ≤ xc ∧ j + shY 3 ≤ yc
  · have h1 : i + 2 ≤ xc := h.1
    have h2 : j + 2 ≤ yc := h.2
    have et : tcv C X Y xc yc i j 3 = oAdd (tbc C (p2 X i) (p2 Y j)) (TT C X Y xc yc (i + 2) (j + 2)) := by unfold tcv; rw [if_pos h]; rfl
    have es : tst C X Y xc yc i j 3 = oAdd (chn C (p2 X i) (p2 Y j)) (TT C X Y xc yc (i + 2) (j + 2)) := rfl
    by_cases hp : p2 X i = p2 Y j
    · have ec : chn C (p2 X i) (p2 Y j) = some 0 := by unfold chn; rw [if_pos hp]
      by_cases hi : idxF (nd C).1 (p2 X i) (nd C).2 = -1
      · have eb : tbc C (p2 X i) (p2 Y j) = none := by unfold tbc; rw [if_pos (Or.inl hi)]
        refine Or.inr ⟨by rw [et, eb]; rfl, ?_⟩
        obtain ⟨a, ea, a1, a2⟩ := hX i (by omega)
        obtain ⟨b, eb', b1, b2⟩ := hX (i + 1) (by omega)
        obtain ⟨c, ec', c1, c2⟩ := hY j (by omega)
        obtain ⟨d, ed, d1, d2⟩ := hY (j + 1) (by omega)
        have hq : 256 * nI a + nI b = 256 * nI c + nI d := by
          have : 256 * X i + X (i + 1) = 256 * Y j + Y (j + 1) := hp
          rw [ea, eb', ec', ed] at this
          exact this
        obtain ⟨q1, q2⟩ := p2_inj b2 d2 a2 c2 hq
        have x1 : X i = Y j := by rw [ea, ec', q1]
        have x2 : X (i + 1) = Y (j + 1) := by rw [eb', ed, q2]
        have s0 : tst C X Y xc yc i j 0 = TT C X Y xc yc (i + 1) (j + 1) := by
          show oAdd (chn C (X i) (Y j)) (TT C X Y xc yc (i + 1) (j + 1)) = _
          unfold chn; rw [if_pos x1, oAdd_0]
        have s1 : tst C X Y xc yc (i + 1) (j + 1) 0 = TT C X Y xc yc (i + 2) (j + 2) := by
          show oAdd (chn C (X (i + 1)) (Y (j + 1))) (TT C X Y xc yc (i + 1 + 1) (j + 1 + 1)) = _
          unfold chn; rw [if_pos x2, oAdd_0]
        rw [es, ec, oAdd_0, s0, TT_tst (show i + 1 < xc by omega), s1]
        exact oMin_abs _ _ _ _
      · refine Or.inl ?_
        have eb : tbc C (p2 X i) (p2 Y j) = some 0 := by
          unfold tbc
          rw [← hp, if_neg (by rintro (z | z) <;> exact hi z)]
          exact (fw_ok hok (Nat.le_refl _)).1 _
        rw [et, es, eb, ec]
    · refine Or.inl ?_
      rw [et, es]
      unfold chn
      rw [if_neg hp]
  · refine Or.inl ?_
    rw [tst_out h]; unfold tcv; rw [if_neg h]
theorem tcv_row {i j : Nat} (hok : CTok C) (hX : SGS X xc) (hY : SGS Y yc) (hi : i < xc) : oMin (oMin (oMin (oMin none (tcv C X Y xc yc i j 0)) (tcv C X Y xc yc i j 1)) (tcv C X Y xc yc i j 2)) (tcv C X Y xc yc i j 3) = TT C X Y xc yc i j := by
  rw [TT_tst hi, tcv_12 hX hY (show 0 < 3 by omega), tcv_12 hX hY (show 1 < 3 by omega), tcv_12 hX hY (show 2 < 3 by omega)]
  show oMin (oMin (oMin (tst C X Y xc yc i j 0) (tst C X Y xc yc i j 1)) (tst C X Y xc yc i j 2)) (tcv C X Y xc yc i j 3) = _
  rcases tcv_3 (i := i) (j := j) hok hX hY with e | ⟨e1, e2⟩
  · rw [e]
  · rw [e1, oMin_none, oMin_abs3 e2]
end ROW
/-- the least of a cost and of one more -/
theorem min_CB {q o : Option Nat} {z : Int32} (hq : ∀ v, q = some v → v < FF) (h : CB z o) : (if z < ec FF q then z else ec FF q) = ec FF (oMin q o) := by
  have hff := ff_v
  cases o with
  | none =>
    obtain ⟨w, h1, h2, rfl⟩ := h
    have hn : ¬ nI w < ec FF q := by
      cases q with
      | none => exact nI_nlt h1 (by omega)
      | some v => have := hq v rfl; exact nI_nlt (show v ≤ w by omega) (by omega)
    rw [if_neg hn, oMin_none]
  | some v =>
    obtain ⟨rfl, hv⟩ := h
    cases q with
    | none => rw [if_pos (show nI v < ec FF none from nI_lt hv (by omega))]; rfl
    | some u =>
      have hu := hq u rfl
      show (if nI v < nI u then nI v else nI u) = nI (min u v)
      by_cases hvu : v < u
      · rw [if_pos (nI_lt hvu (by omega)), Nat.min_eq_right (by omega)]
      · rw [if_neg (nI_nlt (by omega) (by omega)), Nat.min_eq_left (by omega)]
theorem TXA.set {G : GT} {rest : va_W} {j : Nat} {B : Nat → Nat} {len : Nat} {t s : Nat → Int32} {cnt : Nat} {st : Int32} {u p : Nat → Int32} {pst : Int32} {k : Nat} {c : Nat × va_E} (h : TXA G rest j B len t s cnt st u p pst) (hk : k < j ∨ j + 4 < k) : TXA G (rest.set k c) j B len t s cnt st u p pst := by
  obtain ⟨h0, h1, h2, h3, h4, h5⟩ := h
  exact ⟨gs_ne (by omega) h0, gs_ne (by omega) h1, gs_ne (by omega) h2, gs_ne (by omega) h3, gs_ne (by omega) h4, h5⟩
/-- rows from i0 on hold the table where steps from the beginnings lead -/
def VR (C : CT) (X Y : Nat → Int32) (xc yc : Nat) (R : Nat → Int32) (i0 : Nat) : Prop := ∀ i j, i0 ≤ i → i ≤ xc → FR i j → j ≤ yc → R (41 * i + j) = ec FF (TT C X Y xc yc i j)
section ME2
variable {G : GT} {rest : va_W} {A : Nat → Nat} {C : CT} {stamp closed : Int32} {m Ln : Nat} {cs la be ll : Nat → Int32} {am ar jm jr : Nat} {R : Nat → Int32}
variable {jx jy : Nat} {Bx By : Nat → Nat} {lx ly xc yc : Nat} {tx X ty Y ux px uy py : Nat → Int32} {stx pstx sty psty : Int32}
/-- what Measure's methods take as given: closed table, its own cells, two texts -/
def MEA (G : GT) (rest : va_W) (A : Nat → Nat) (C : CT) (m : Nat) (cs la be : Nat → Int32) (Ln : Nat) (ll : Nat → Int32) (am ar jm jr : Nat) (R : Nat → Int32) (jx : Nat) (Bx : Nat → Nat) (lx : Nat) (tx X : Nat → Int32) (xc : Nat) (stx : Int32) (ux px : Nat → Int32) (pstx : Int32) (jy : Nat) (By : Nat → Nat) (ly : Nat) (ty Y : Nat → Int32) (yc : Nat) (sty : Int32) (uy py : Nat → Int32) (psty : Int32) : Prop :=
  CTok C ∧ CLO C m cs la be Ln ll ∧ Ln ≤ 14400 ∧ rest[jm]? = some (am, .inr (1, [.ref (A 0), .ref ar])) ∧ rest[jr]? = some (ar, arI G 1681 R) ∧ TXA G rest jx Bx lx tx X xc stx ux px pstx ∧ TXA G rest jy By ly ty Y yc sty uy py psty ∧ PV C X ux px xc ∧ PV C Y uy py yc ∧ SGS X xc ∧ SGS Y yc ∧ (jr < jx ∨ jx + 4 < jr) ∧ (jr < jy ∨ jy + 4 < jr) ∧ jm ≠ jr
theorem MEA.put {f : Nat → Int32} (h : MEA G rest A C m cs la be Ln ll am ar jm jr R jx Bx lx tx X xc stx ux px pstx jy By ly ty Y yc sty uy py psty) : MEA G (rest.set jr (ar, arI G 1681 f)) A C m cs la be Ln ll am ar jm jr f jx Bx lx tx X xc stx ux px pstx jy By ly ty Y yc sty uy py psty := by
  obtain ⟨h1, h2, h3, h4, h5, h6, h7, h8, h9, h10, h11, h12, h13, h14⟩ := h
  exact ⟨h1, h2, h3, gs_ne (Ne.symm h14) h4, gs_eq h5, h6.set h12, h7.set h13, h8, h9, h10, h11, h12, h13, h14⟩
theorem MEA.cost {sh i j : Nat} (h : MEA G rest A C m cs la be Ln ll am ar jm jr R jx Bx lx tx X xc stx ux px pstx jy By ly ty Y yc sty uy py psty) (hsh : sh < 4) (hi : i ≤ xc) (hj : j ≤ yc) (hF : FR i j) (hV : VR C X Y xc yc R (i + 1)) : JM G Y_X1_costBy 1 0 0 [.ref am, .int (nI sh), .ref (Bx 0), .int (nI i), .ref (By 0), .int (nI j)] (ptL G A C stamp closed m cs la be Ln ll ++ rest) (Qi (fun r w => w = ptL G A C stamp closed m cs la be Ln ll ++ rest ∧ CB r (tcv C X Y xc yc i j sh))) := by
  obtain ⟨h1, h2, h3, h4, h5, h6, h7, h8, h9, h10, h11, h12, h13, h14⟩ := h
  obtain ⟨q1, q2⟩ := sh_ab sh
  exact c_costBy h1 h2 h3 h4 h5 h6 h7 h8 h9 hsh hi hj (fun a b => hV _ _ (by omega) a (FR_s sh hF) b)
theorem row_loop {i ah lo e : Nat} {hi32 : Int32} (hhi : ∀ j : Nat, j ≤ 100 → (hi32 < nI j ↔ e ≤ j)) (hi : i < xc) (hlo : ∀ j, FR i j → j < lo → TT C X Y xc yc i j = none) (hup : ∀ j, FR i j → e ≤ j → TT C X Y xc yc i j = none) (hin : ∀ j, lo ≤ j → j < e → FR i j ∧ j ≤ yc) (hlo1 : lo ≤ 100) (he1 : e ≤ 100) :
    ∀ (k j : Nat), j + k = max lo e → lo ≤ j → ∀ (R1 : Nat → Int32) (lv : Nat), MEA G (rest.set jr (ar, arI G 1681 R1)) A C m cs la be Ln ll am ar jm jr R1 jx Bx lx tx X xc stx ux px pstx jy By ly ty Y yc sty uy py psty → VR C X Y xc yc R1 (i + 1) → (∀ j', FR i j' → j' ≤ yc → (j' < j ∨ e ≤ j') → R1 (41 * i + j') = ec FF (TT C X Y xc yc i j')) → lv ≤ FF → (∀ j' v, FR i j' → j' < j → TT C X Y xc yc i j' = some v → lv ≤ v) →
      JJ G Y_X1_fillRow 2 0 0 (Qi (fun r w => ∃ (R' : Nat → Int32) (lv' : Nat), w = ptL G A C stamp closed m cs la be Ln ll ++ rest.set jr (ar, arI G 1681 R') ∧ VR C X Y xc yc R' i ∧ r = nI lv' ∧ lv' ≤ FF ∧ ∀ j v, FR i j → TT C X Y xc yc i j = some v → lv' ≤ v)) 78 [(0, .ref am), (1, .ref (Bx 0)), (2, .int (nI i)), (3, .ref (By 0)), (4, .int (nI yc)), (5, .int (nI ah)), (6, .int (nI lo)), (7, .int hi32), (8, .int (nI lv)), (9, .int (nI j))] [] (ptL G A C stamp closed m cs la be Ln ll ++ rest.set jr (ar, arI G 1681 R1)) 0 0 := by
  have hff := ff_v
  intro k
  induction k with
  | zero =>
    intro j hj hlj R1 lv hM hV hrow hlv hlb
    have h40 : xc ≤ 40 := by obtain ⟨-, -, -, -, -, hx, -⟩ := hM; obtain ⟨-, -, -, -, -, a, b⟩ := hx; omega
    have y40 : yc ≤ 40 := by obtain ⟨-, -, -, -, -, -, hx, -⟩ := hM; obtain ⟨-, -, -, -, -, a, b⟩ := hx; omega
    refine j_iload (n := 80) dX1_fillRow_78 rfl rfl ?_
    refine j_iload (n := 82) dX1_fillRow_80 rfl rfl ?_
    refine j_icmp_gt (n := 85) 151 dX1_fillRow_82 (by decide) rfl (fun c => ?_) (fun c => ?_)
    · refine j_iload (n := 153) dX1_fillRow_151 rfl rfl ?_
      refine j_iret dX1_fillRow_153 rfl rfl (by omega) (by omega) ⟨R1, lv, rfl, ?_, rfl, hlv, ?_⟩
      · intro i' j' a1 a2 a3 a4
        rcases Nat.eq_or_lt_of_le a1 with q | q
        · subst q; exact hrow j' a3 a4 (by omega)
        · exact hV i' j' q a2 a3 a4
      · intro j' v a1 a2
        rcases Nat.lt_or_ge j' j with q | q
        · exact hlb j' v a1 q a2
        · rw [hup j' a1 (by omega)] at a2; cases a2
    · exact absurd ((hhi j (by omega)).mpr (by omega)) c
  | succ k ih =>
    intro j hj hlj R1 lv hM hV hrow hlv hlb
    have h40 : xc ≤ 40 := by obtain ⟨-, -, -, -, -, hx, -⟩ := hM; obtain ⟨-, -, -, -, -, a, b⟩ := hx; omega
    have y40 : yc ≤ 40 := by obtain ⟨-, -, -, -, -, -, hx, -⟩ := hM; obtain ⟨-, -, -, -, -, a, b⟩ := hx; omega
    have hje : j < e := by omega
    obtain ⟨hF, hjy⟩ := hin j hlj hje
    have hM' := hM
    obtain ⟨hok, -, -, hm0, hr0, -, -, -, -, sX, sY, -⟩ := hM'
    have hTb : ∀ v, TT C X Y xc yc i j = some v → v < FF := fun v q => by have := TT_lt hok h40 (by omega) q; omega
    have htb : ∀ sh v, tcv C X Y xc yc i j sh = some v → v < FF := by
      intro sh v q
      unfold tcv at q
      split at q
      · next hb =>
        obtain ⟨a, b, q1, q2, q3⟩ := oAdd_some q
        have b2 := TT_lt hok h40 hb.1 q2
        have b1 : a ≤ 2420 := by
          unfold ccv at q1
          split at q1
          · exact chn_le hok q1
          · exact tbc_le hok q1
        omega
      · cases q
    have hmin : ∀ (x y : Option Nat), (∀ v, x = some v → v < FF) → (∀ v, y = some v → v < FF) → ∀ v, oMin x y = some v → v < FF := fun x y h1 h2 v q => (oMin_some q).elim (h1 v) (h2 v)
    have d0 : ∀ v, (none : Option Nat) = some v → v < FF := fun v q => by cases q
    have d1 := hmin _ _ d0 (htb 0)
    have d2 := hmin _ _ d1 (htb 1)
    have d3 := hmin _ _ d2 (htb 2)
    refine j_iload (n := 80) dX1_fillRow_78 rfl rfl ?_
    refine j_iload (n := 82) dX1_fillRow_80 rfl rfl ?_
    refine j_icmp_gt (n := 85) 151 dX1_fillRow_82 (by decide) rfl (fun c => ?_) (fun c => ?_)
    · exact absurd ((hhi j (by omega)).mp c) (by omega)
    · refine j_ldc (n := 87) dX1_fillRow_85 rfl k_X1_25 ?_
      refine j_istore (n := 89) dX1_fillRow_87 rfl (by decide) ?_
      refine j_iconst (n := 90) (0) dX1_fillRow_89 rfl (by decide) ?_
      refine j_istore (n := 92) dX1_fillRow_90 rfl (by decide) ?_
      refine j_iload (n := 94) dX1_fillRow_92 rfl rfl ?_
      refine j_iconst (n := 95) (4) dX1_fillRow_94 rfl (by decide) ?_
      refine j_icmp_ge (n := 98) 122 dX1_fillRow_95 (by decide) rfl (fun c1 => ?_) (fun c1 => ?_)
      · exact absurd c1 (by decide)
      · refine j_iload (n := 100) dX1_fillRow_98 rfl rfl ?_
        refine j_aload_n (n := 101) dX1_fillRow_100 rfl rfl ?_
        refine j_iload (n := 103) dX1_fillRow_101 rfl rfl ?_
        refine j_aload_n (n := 104) dX1_fillRow_103 rfl rfl ?_
        refine j_iload_n (n := 105) dX1_fillRow_104 rfl rfl ?_
        refine j_aload_n (n := 106) dX1_fillRow_105 rfl rfl ?_
        refine j_iload (n := 108) dX1_fillRow_106 rfl rfl ?_
        refine j_callVi (n := 111) (Y1 := Y_X1_costBy) (jm + 8) dX1_fillRow_108 m_X1_45 cy_X1_costBy ci_X1_costBy (hM.cost (sh := 0) (by omega) (by omega) hjy hF hV) rfl rfl rfl hm0 rfl (by omega) (by omega) (by omega) (Nat.le_of_ble_eq_true rfl) (fun z0 w h => ?_)
        obtain ⟨rfl, hz⟩ := h
        refine j_min (n := 114) dX1_fillRow_111 m_X1_42 rfl (by omega) (by omega) (by omega) (Nat.le_of_ble_eq_true rfl) ?_
        refine j_top (ec FF (oMin none (tcv C X Y xc yc i j 0))) (min_CB d0 hz) ?_
        refine j_istore (n := 116) dX1_fillRow_114 rfl (by decide) ?_
        refine j_iinc (n := 119) (nI (0 + 1)) dX1_fillRow_116 rfl rfl (nI_inc 0) (by decide) ?_
        refine j_goto 92 dX1_fillRow_119 (by decide) ?_
        refine j_iload (n := 94) dX1_fillRow_92 rfl rfl ?_
        refine j_iconst (n := 95) (4) dX1_fillRow_94 rfl (by decide) ?_
        refine j_icmp_ge (n := 98) 122 dX1_fillRow_95 (by decide) rfl (fun c2 => ?_) (fun c2 => ?_)
        · exact absurd c2 (by decide)
        · refine j_iload (n := 100) dX1_fillRow_98 rfl rfl ?_
          refine j_aload_n (n := 101) dX1_fillRow_100 rfl rfl ?_
          refine j_iload (n := 103) dX1_fillRow_101 rfl rfl ?_
          refine j_aload_n (n := 104) dX1_fillRow_103 rfl rfl ?_
          refine j_iload_n (n := 105) dX1_fillRow_104 rfl rfl ?_
          refine j_aload_n (n := 106) dX1_fillRow_105 rfl rfl ?_
          refine j_iload (n := 108) dX1_fillRow_106 rfl rfl ?_
          refine j_callVi (n := 111) (Y1 := Y_X1_costBy) (jm + 8) dX1_fillRow_108 m_X1_45 cy_X1_costBy ci_X1_costBy (hM.cost (sh := 1) (by omega) (by omega) hjy hF hV) rfl rfl rfl hm0 rfl (by omega) (by omega) (by omega) (Nat.le_of_ble_eq_true rfl) (fun z0 w h => ?_)
          obtain ⟨rfl, hz⟩ := h
          refine j_min (n := 114) dX1_fillRow_111 m_X1_42 rfl (by omega) (by omega) (by omega) (Nat.le_of_ble_eq_true rfl) ?_
          refine j_top (ec FF (oMin (oMin none (tcv C X Y xc yc i j 0)) (tcv C X Y xc yc i j 1))) (min_CB d1 hz) ?_
          refine j_istore (n := 116) dX1_fillRow_114 rfl (by decide) ?_
          refine j_iinc (n := 119) (nI (1 + 1)) dX1_fillRow_116 rfl rfl (nI_inc 1) (by decide) ?_
          refine j_goto 92 dX1_fillRow_119 (by decide) ?_
          refine j_iload (n := 94) dX1_fillRow_92 rfl rfl ?_
          refine j_iconst (n := 95) (4) dX1_fillRow_94 rfl (by decide) ?_
          refine j_icmp_ge (n := 98) 122 dX1_fillRow_95 (by decide) rfl (fun c3 => ?_) (fun c3 => ?_)
          · exact absurd c3 (by decide)
          · refine j_iload (n := 100) dX1_fillRow_98 rfl rfl ?_
            refine j_aload_n (n := 101) dX1_fillRow_100 rfl rfl ?_
            refine j_iload (n := 103) dX1_fillRow_101 rfl rfl ?_
            refine j_aload_n (n := 104) dX1_fillRow_103 rfl rfl ?_
            refine j_iload_n (n := 105) dX1_fillRow_104 rfl rfl ?_
            refine j_aload_n (n := 106) dX1_fillRow_105 rfl rfl ?_
            refine j_iload (n := 108) dX1_fillRow_106 rfl rfl ?_
            refine j_callVi (n := 111) (Y1 := Y_X1_costBy) (jm + 8) dX1_fillRow_108 m_X1_45 cy_X1_costBy ci_X1_costBy (hM.cost (sh := 2) (by omega) (by omega) hjy hF hV) rfl rfl rfl hm0 rfl (by omega) (by omega) (by omega) (Nat.le_of_ble_eq_true rfl) (fun z0 w h => ?_)
            obtain ⟨rfl, hz⟩ := h
            refine j_min (n := 114) dX1_fillRow_111 m_X1_42 rfl (by omega) (by omega) (by omega) (Nat.le_of_ble_eq_true rfl) ?_
            refine j_top (ec FF (oMin (oMin (oMin none (tcv C X Y xc yc i j 0)) (tcv C X Y xc yc i j 1)) (tcv C X Y xc yc i j 2))) (min_CB d2 hz) ?_
            refine j_istore (n := 116) dX1_fillRow_114 rfl (by decide) ?_
            refine j_iinc (n := 119) (nI (2 + 1)) dX1_fillRow_116 rfl rfl (nI_inc 2) (by decide) ?_
            refine j_goto 92 dX1_fillRow_119 (by decide) ?_
            refine j_iload (n := 94) dX1_fillRow_92 rfl rfl ?_
            refine j_iconst (n := 95) (4) dX1_fillRow_94 rfl (by decide) ?_
            refine j_icmp_ge (n := 98) 122 dX1_fillRow_95 (by decide) rfl (fun c4 => ?_) (fun c4 => ?_)
            · exact absurd c4 (by decide)
            · refine j_iload (n := 100) dX1_fillRow_98 rfl rfl ?_
              refine j_aload_n (n := 101) dX1_fillRow_100 rfl rfl ?_
              refine j_iload (n := 103) dX1_fillRow_101 rfl rfl ?_
              refine j_aload_n (n := 104) dX1_fillRow_103 rfl rfl ?_
              refine j_iload_n (n := 105) dX1_fillRow_104 rfl rfl ?_
              refine j_aload_n (n := 106) dX1_fillRow_105 rfl rfl ?_
              refine j_iload (n := 108) dX1_fillRow_106 rfl rfl ?_
              refine j_callVi (n := 111) (Y1 := Y_X1_costBy) (jm + 8) dX1_fillRow_108 m_X1_45 cy_X1_costBy ci_X1_costBy (hM.cost (sh := 3) (by omega) (by omega) hjy hF hV) rfl rfl rfl hm0 rfl (by omega) (by omega) (by omega) (Nat.le_of_ble_eq_true rfl) (fun z0 w h => ?_)
              obtain ⟨rfl, hz⟩ := h
              refine j_min (n := 114) dX1_fillRow_111 m_X1_42 rfl (by omega) (by omega) (by omega) (Nat.le_of_ble_eq_true rfl) ?_
              refine j_top (ec FF (TT C X Y xc yc i j)) (by rw [min_CB d3 hz, tcv_row hok sX sY hi]) ?_
              refine j_istore (n := 116) dX1_fillRow_114 rfl (by decide) ?_
              refine j_iinc (n := 119) (nI (3 + 1)) dX1_fillRow_116 rfl rfl (nI_inc 3) (by decide) ?_
              refine j_goto 92 dX1_fillRow_119 (by decide) ?_
              refine j_iload (n := 94) dX1_fillRow_92 rfl rfl ?_
              refine j_iconst (n := 95) (4) dX1_fillRow_94 rfl (by decide) ?_
              refine j_icmp_ge (n := 98) 122 dX1_fillRow_95 (by decide) rfl (fun c5 => ?_) (fun c5 => ?_)
              · refine j_aload_n (n := 123) dX1_fillRow_122 rfl rfl ?_
                refine j_get (n := 126) (jm + 8) dX1_fillRow_123 f_X1_15 rfl hm0 rfl ?_
                refine j_iload_n (n := 127) dX1_fillRow_126 rfl rfl ?_
                refine j_bipush (n := 129) (41) dX1_fillRow_127 rfl (by decide) ?_
                refine j_imul (n := 130) dX1_fillRow_129 rfl ?_
                refine j_iload (n := 132) dX1_fillRow_130 rfl rfl ?_
                refine j_iadd (n := 133) dX1_fillRow_132 rfl ?_
                refine j_iload (n := 135) dX1_fillRow_133 rfl rfl ?_
                refine j_iast (n := 136) (jr + 8) (41 * i + j) dX1_fillRow_135 rfl hr0 (ix41' _ _) (by omega) (by omega) ?_
                refine j_iload (n := 138) dX1_fillRow_136 rfl rfl ?_
                refine j_iload (n := 140) dX1_fillRow_138 rfl rfl ?_
                have hlm : ∃ lv2 : Nat, (if ec FF (TT C X Y xc yc i j) < nI lv then ec FF (TT C X Y xc yc i j) else nI lv) = nI lv2 ∧ lv2 ≤ lv ∧ ∀ v, TT C X Y xc yc i j = some v → lv2 ≤ v := by
                  cases hT : TT C X Y xc yc i j with
                  | none =>
                    refine ⟨lv, if_neg (show ¬ nI FF < nI lv from nI_nlt hlv (by omega)), Nat.le_refl _, fun v q => by cases q⟩
                  | some v =>
                    have := hTb v hT
                    by_cases q : v < lv
                    · exact ⟨v, if_pos (show nI v < nI lv from nI_lt q (by omega)), by omega, fun v' q' => by cases q'; exact Nat.le_refl _⟩
                    · exact ⟨lv, if_neg (show ¬ nI v < nI lv from nI_nlt (by omega) (by omega)), Nat.le_refl _, fun v' q' => by cases q'; omega⟩
                obtain ⟨lv2, el, l1, l2⟩ := hlm
                refine j_min (n := 143) dX1_fillRow_140 m_X1_42 rfl (by omega) (by omega) (by omega) (Nat.le_of_ble_eq_true rfl) ?_
                refine j_top (nI lv2) el ?_
                refine j_istore (n := 145) dX1_fillRow_143 rfl (by decide) ?_
                refine j_iinc (n := 148) (nI (j + 1)) dX1_fillRow_145 rfl rfl (nI_inc j) (by decide) ?_
                refine j_goto 78 dX1_fillRow_148 (by decide) ?_
                refine j_keep [0, 1, 2, 3, 4, 5, 6, 7, 8, 9] rfl ?_
                refine j_ws (ws' := ptL G A C stamp closed m cs la be Ln ll ++ rest.set jr (ar, arI G 1681 (upd R1 (41 * i + j) (ec FF (TT C X Y xc yc i j))))) (congrArg (fun z => ptL G A C stamp closed m cs la be Ln ll ++ z) (List.set_set (ar, arI G 1681 R1))) ?_
                refine ih (j + 1) (by omega) (by omega) _ lv2 ?_ ?_ ?_ (by omega) ?_
                · have := hM.put (f := upd R1 (41 * i + j) (ec FF (TT C X Y xc yc i j)))
                  rw [List.set_set] at this
                  exact this
                · intro i' j' a1 a2 a3 a4
                  rw [pk_un (by omega)]
                  exact hV i' j' a1 a2 a3 a4
                · intro j' a1 a2 a3
                  by_cases q : j' = j
                  · subst q; rw [pk_us]
                  · rw [pk_un (by omega)]
                    exact hrow j' a1 a2 (by omega)
                · intro j' v a1 a2 a3
                  by_cases q : j' = j
                  · subst q; exact l2 v a3
                  · have := hlb j' v a1 (by omega) a3
                    omega
              · exact absurd (by decide) c5
theorem c_fillRow {i : Nat} (hM : MEA G rest A C m cs la be Ln ll am ar jm jr R jx Bx lx tx X xc stx ux px pstx jy By ly ty Y yc sty uy py psty) (hi : i < xc) (hV : VR C X Y xc yc R (i + 1)) : JM G Y_X1_fillRow 2 0 0 [.ref am, .ref (Bx 0), .int (nI i), .ref (By 0)] (ptL G A C stamp closed m cs la be Ln ll ++ rest) (Qi (fun r w => ∃ (R' : Nat → Int32) (lv' : Nat), w = ptL G A C stamp closed m cs la be Ln ll ++ rest.set jr (ar, arI G 1681 R') ∧ VR C X Y xc yc R' i ∧ r = nI lv' ∧ lv' ≤ FF ∧ ∀ j v, FR i j → TT C X Y xc yc i j = some v → lv' ≤ v)) := by
  have hff := ff_v
  have hM' := hM
  obtain ⟨hok, -, -, hm0, hr0, hx, hy, -⟩ := hM'
  obtain ⟨x0, -, -, -, -, xl, xl2⟩ := hx
  obtain ⟨y0, -, -, -, -, yl, yl2⟩ := hy
  refine JM.of [(0, .ref am), (1, .ref (Bx 0)), (2, .int (nI i)), (3, .ref (By 0))] rfl rfl (by simp) (Nat.le_of_ble_eq_true rfl) (by decide +kernel) ?_
  refine j_aload_n (n := 1) dX1_fillRow_0 rfl rfl ?_
  refine j_getN (n := 4) (jy + 8) dX1_fillRow_1 f_X1_19 rfl y0 rfl ?_
  refine j_istore (n := 6) dX1_fillRow_4 rfl (by decide) ?_
  refine j_aload_n (n := 7) dX1_fillRow_6 rfl rfl ?_
  refine j_getN (n := 10) (jx + 8) dX1_fillRow_7 f_X1_19 rfl x0 rfl ?_
  refine j_iload_n (n := 11) dX1_fillRow_10 rfl rfl ?_
  refine j_isub (n := 12) dX1_fillRow_11 rfl ?_
  refine j_top (nI (xc - i)) (pk_sub (by omega)) ?_
  generalize hah : xc - i = ah
  refine j_istore (n := 14) dX1_fillRow_12 rfl (by decide) ?_
  refine j_iload_n (n := 15) dX1_fillRow_14 rfl rfl ?_
  refine j_iconst (n := 16) (1) dX1_fillRow_15 rfl (by decide) ?_
  refine j_iadd (n := 17) dX1_fillRow_16 rfl ?_
  refine j_top (nI (i + 1)) (nI_1 i) ?_
  refine j_iconst (n := 18) (2) dX1_fillRow_17 rfl (by decide) ?_
  refine j_idiv (n := 19) dX1_fillRow_18 rfl (by decide) ?_
  refine j_top (nI ((i + 1) / 2)) (pk_div (a := i + 1) (d := 2) (by omega) (by omega) (by omega)) ?_
  refine j_iload (n := 21) dX1_fillRow_19 rfl rfl ?_
  refine j_iconst (n := 22) (2) dX1_fillRow_21 rfl (by decide) ?_
  refine j_iload (n := 24) dX1_fillRow_22 rfl rfl ?_
  refine j_imul (n := 25) dX1_fillRow_24 rfl ?_
  refine j_top (nI (2 * ah)) (pk_mul 2 ah) ?_
  refine j_isub (n := 26) dX1_fillRow_25 rfl ?_
  have hlo : ∃ lo : Nat, (if nI ((i + 1) / 2) < nI yc - nI (2 * ah) then nI yc - nI (2 * ah) else nI ((i + 1) / 2)) = nI lo ∧ lo = max ((i + 1) / 2) (yc - 2 * ah) := by
    rcases Nat.lt_or_ge yc (2 * ah) with q | q
    · have hn : nI yc - nI (2 * ah) < 0 := pk_sneg (by omega) q
      refine ⟨(i + 1) / 2, if_neg (fun z => ?_), by omega⟩
      exact (nI_pos (n := (i + 1) / 2) (by omega)) (Int32.lt_trans z hn)
    · rw [pk_sub q]
      rcases Nat.lt_or_ge ((i + 1) / 2) (yc - 2 * ah) with z | z
      · exact ⟨yc - 2 * ah, if_pos (nI_lt z (by omega)), by omega⟩
      · exact ⟨(i + 1) / 2, if_neg (nI_nlt z (by omega)), by omega⟩
  obtain ⟨lo, elo, hlo⟩ := hlo
  refine j_max (n := 29) dX1_fillRow_26 m_X1_36 rfl (by omega) (by omega) (by omega) (Nat.le_of_ble_eq_true rfl) ?_
  refine j_top (nI lo) elo ?_
  refine j_istore (n := 31) dX1_fillRow_29 rfl (by decide) ?_
  refine j_iconst (n := 32) (2) dX1_fillRow_31 rfl (by decide) ?_
  refine j_iload_n (n := 33) dX1_fillRow_32 rfl rfl ?_
  refine j_imul (n := 34) dX1_fillRow_33 rfl ?_
  refine j_top (nI (2 * i)) (pk_mul 2 i) ?_
  refine j_iload (n := 36) dX1_fillRow_34 rfl rfl ?_
  refine j_iload (n := 38) dX1_fillRow_36 rfl rfl ?_
  refine j_iconst (n := 39) (1) dX1_fillRow_38 rfl (by decide) ?_
  refine j_iadd (n := 40) dX1_fillRow_39 rfl ?_
  refine j_top (nI (ah + 1)) (nI_1 ah) ?_
  refine j_iconst (n := 41) (2) dX1_fillRow_40 rfl (by decide) ?_
  refine j_idiv (n := 42) dX1_fillRow_41 rfl (by decide) ?_
  refine j_top (nI ((ah + 1) / 2)) (pk_div (a := ah + 1) (d := 2) (by omega) (by omega) (by omega)) ?_
  refine j_isub (n := 43) dX1_fillRow_42 rfl ?_
  have hhi : ∃ e : Nat, e = min (2 * i + 1) (yc + 1 - (ah + 1) / 2) ∧ ∀ j : Nat, j ≤ 100 → ((if nI yc - nI ((ah + 1) / 2) < nI (2 * i) then nI yc - nI ((ah + 1) / 2) else nI (2 * i)) < nI j ↔ e ≤ j) := by
    refine ⟨_, rfl, fun j hj => ?_⟩
    rcases Nat.lt_or_ge yc ((ah + 1) / 2) with q | q
    · have hn : nI yc - nI ((ah + 1) / 2) < 0 := pk_sneg (by omega) q
      rw [if_pos (Int32.lt_of_lt_of_le hn (nI_pos' (by omega)))]
      exact ⟨fun _ => by omega, fun _ => Int32.lt_of_lt_of_le hn (nI_pos' (by omega))⟩
    · rw [pk_sub q]
      rcases Nat.lt_or_ge (yc - (ah + 1) / 2) (2 * i) with z | z
      · rw [if_pos (nI_lt z (by omega)), nI_ltI (by omega) (by omega)]; omega
      · rw [if_neg (nI_nlt z (by omega)), nI_ltI (by omega) (by omega)]; omega
  refine j_min (n := 46) dX1_fillRow_43 m_X1_42 rfl (by omega) (by omega) (by omega) (Nat.le_of_ble_eq_true rfl) ?_
  generalize (if nI yc - nI ((ah + 1) / 2) < nI (2 * i) then nI yc - nI ((ah + 1) / 2) else nI (2 * i)) = hi32 at hhi ⊢
  obtain ⟨e, he, hhi⟩ := hhi
  refine j_istore (n := 48) dX1_fillRow_46 rfl (by decide) ?_
  refine j_aload_n (n := 49) dX1_fillRow_48 rfl rfl ?_
  refine j_get (n := 52) (jm + 8) dX1_fillRow_49 f_X1_15 rfl hm0 rfl ?_
  refine j_iload_n (n := 53) dX1_fillRow_52 rfl rfl ?_
  refine j_bipush (n := 55) (41) dX1_fillRow_53 rfl (by decide) ?_
  refine j_imul (n := 56) dX1_fillRow_55 rfl ?_
  refine j_top (nI (41 * i)) (by rw [show (41 : Int32) = nI 41 from rfl, pk_mul, Nat.mul_comm]) ?_
  refine j_iload_n (n := 57) dX1_fillRow_56 rfl rfl ?_
  refine j_bipush (n := 59) (41) dX1_fillRow_57 rfl (by decide) ?_
  refine j_imul (n := 60) dX1_fillRow_59 rfl ?_
  refine j_iload (n := 62) dX1_fillRow_60 rfl rfl ?_
  refine j_iadd (n := 63) dX1_fillRow_62 rfl ?_
  refine j_top (nI (41 * i + yc)) (ix41' i yc) ?_
  refine j_iconst (n := 64) (1) dX1_fillRow_63 rfl (by decide) ?_
  refine j_iadd (n := 65) dX1_fillRow_64 rfl ?_
  refine j_top (nI (41 * i + yc + 1)) (nI_1 _) ?_
  refine j_ldc (n := 67) dX1_fillRow_65 rfl k_X1_25 ?_
  refine j_callSv (n := 70) (Y1 := Y_J7_fill_fda19) dX1_fillRow_67 m_X1_26 cy_J7_fill_fda19 cs_J7_fill_fda19 (c_fill4 (k := jr + 8) hr0 (lo := 41 * i) (hi := 41 * i + yc + 1) (by omega) (by omega) (by omega)) rfl rfl rfl (by omega) (by omega) (by omega) (Nat.le_of_ble_eq_true rfl) (fun w h => ?_)
  subst h
  refine j_ldc (n := 72) dX1_fillRow_70 rfl k_X1_25 ?_
  refine j_istore (n := 74) dX1_fillRow_72 rfl (by decide) ?_
  refine j_iload (n := 76) dX1_fillRow_74 rfl rfl ?_
  refine j_istore (n := 78) dX1_fillRow_76 rfl (by decide) ?_
  refine j_ws (ws' := ptL G A C stamp closed m cs la be Ln ll ++ rest.set jr (ar, arI G 1681 (fillF R (41 * i) (41 * i + yc + 1) 536870912))) rfl ?_
  have hnone1 : ∀ j, FR i j → j < lo → TT C X Y xc yc i j = none := by
    intro j hF hj
    cases hT : TT C X Y xc yc i j with
    | none => rfl
    | some v => have := TT_in (xc - i) i j v (by omega) hT; unfold FR at hF; omega
  have hnone2 : ∀ j, FR i j → e ≤ j → TT C X Y xc yc i j = none := by
    intro j hF hj
    cases hT : TT C X Y xc yc i j with
    | none => rfl
    | some v => have := TT_in (xc - i) i j v (by omega) hT; unfold FR at hF; omega
  refine row_loop hhi hi hnone1 hnone2 (fun j a1 a2 => ⟨by unfold FR; omega, by omega⟩) (by omega) (by omega) (max lo e - lo) lo (by omega) (Nat.le_refl _) _ FF hM.put ?_ ?_ (Nat.le_refl _) ?_
  · intro i' j' a1 a2 a3 a4
    unfold fillF
    rw [if_neg (by omega)]
    exact hV i' j' a1 a2 a3 a4
  · intro j' a1 a2 a3
    have hT : TT C X Y xc yc i j' = none := a3.elim (hnone1 j' a1) (hnone2 j' a1)
    rw [hT]
    unfold fillF
    rw [if_pos (by omega)]
    rfl
  · intro j' v a1 a2 a3
    rw [hnone1 j' a1 a2] at a3; cases a3
end ME2

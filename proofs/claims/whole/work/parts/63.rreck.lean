/-! the reference: reckon -/
def BD (o : Option Nat) : Prop := ∀ v, o = some v → v ≤ 100000
theorem BD.min {x y : Option Nat} (hx : BD x) (hy : BD y) : BD (oMin x y) := fun v h => (oMin_some h).elim (hx v) (hy v)
theorem BD.none : BD none := fun v h => by cases h
theorem BD_TT {C : CT} {X Y : Nat → Int32} {xc yc i j : Nat} (hok : CTok C) (hx : xc ≤ 40) : BD (TT C X Y xc yc i j) := by
  intro v h
  rcases Nat.lt_or_ge xc i with z | z
  · rw [TT_out z] at h; cases h
  · have := TT_lt hok hx z h; omega
theorem BD_tst {C : CT} {X Y : Nat → Int32} {xc yc i j sh : Nat} (hok : CTok C) (hx : xc ≤ 40) : BD (tst C X Y xc yc i j sh) := by
  intro v h
  obtain ⟨a, b, h1, h2, h3⟩ := oAdd_some h
  have q1 := chn_le hok h1
  rcases Nat.lt_or_ge xc (i + shX sh) with z | z
  · rw [TT_out z] at h2; cases h2
  · have := TT_lt hok hx z h2; omega
theorem rk_cmp {o t ch : Option Nat} (ho : BD o) (ht : BD t) (h : ec 1000000 o ≤ ec 1000000 t) : oMin o (oAdd ch t) = o := by
  cases ch with
  | none => exact oMin_none o
  | some c =>
    cases t with
    | none => exact oMin_none o
    | some w =>
      have hw := ht w rfl
      cases o with
      | none => exact absurd h (nI_ge (show w < 1000000 by omega) (by omega))
      | some v =>
        have hv := ho v rfl
        have h1 := (nI_leI (a := v) (b := w) (by omega) (by omega)).mp h
        show some (min v (c + w)) = some v
        rw [Nat.min_eq_left (by omega)]
theorem pcB_pcX {X : Nat → Int32} {xc i a : Nat} (h : SGS X xc) (ha : a = 1 ∨ a = 2) (hi : i + a ≤ xc) : pcB (pcX X i a) = true := by
  obtain ⟨n, e1, n1, n2⟩ := h i (by omega)
  unfold pcX p2
  rcases ha with rfl | rfl
  · rw [if_pos rfl, e1]
    unfold pcB
    rw [sg_of n1 n2]; rfl
  · obtain ⟨m, e2, m1, m2⟩ := h (i + 1) (by omega)
    rw [if_neg (by decide), e1, e2, show (256 : Int32) * nI n + nI m = nI (256 * n + m) by rw [show (256 : Int32) = nI 256 from rfl, pk_mul, nI_add]]
    unfold pcB
    have g1 : nI (256 * n + m) >>> (8 &&& 31) = nI n := by
      have := pr_1 (j := 256 * n + m) (by omega)
      rw [show (256 * n + m) / 256 = n by omega] at this
      exact this
    have g2 : nI (256 * n + m) &&& 255 = nI m := by
      have := pr_2 (j := 256 * n + m) (by omega)
      rw [show (256 * n + m) % 256 = m by omega] at this
      exact this
    rw [g1, g2, sg_of n1 n2, sg_of m1 m2, Bool.and_self, Bool.or_true]
theorem RNI.sc {M M' : Nat → Nat} {R R' : Nat → Nat → Int32} (h : RNI M R) (hs : RSC M R M' R') : RNI M' R' ∧ rCT M' R' = rCT M R := by
  have e : rCT M' R' = rCT M R := by
    show (M' 4, R' 4, R' 5, R' 6) = (M 4, R 4, R 5, R 6)
    rw [hs.1 4 (by omega) (by omega), hs.2 4 (by omega) (by omega) (by omega), hs.2 5 (by omega) (by omega) (by omega), hs.2 6 (by omega) (by omega) (by omega)]
  refine ⟨?_, e⟩
  obtain ⟨h1, h2, h3, h4⟩ := h
  unfold RNI
  rw [e, hs.1 8 (by omega) (by omega), hs.2 7 (by omega) (by omega) (by omega), hs.2 8 (by omega) (by omega) (by omega), hs.2 9 (by omega) (by omega) (by omega)]
  exact ⟨h1, h2, h3, h4⟩
theorem k41 (i a j b : Nat) : (41 : Int32) * (nI i + nI a) + nI j + nI b = nI (41 * (i + a) + (j + b)) := by
  rw [nI_add, show (41 : Int32) = nI 41 from rfl, pk_mul, nI_add, nI_add]; congr 1; omega
theorem k41' (i j : Nat) : (41 : Int32) * nI i + nI j = nI (41 * i + j) := by
  rw [show (41 : Int32) = nI 41 from rfl, pk_mul, nI_add]
/-- rows from i on, and of row i the places from j on, are reckoned -/
def LTok (C : CT) (X Y : Nat → Int32) (xc yc : Nat) (L : Nat → Int32) (i j : Nat) : Prop := ∀ i' j', i' ≤ xc → j' ≤ yc → (i < i' ∨ (i' = i ∧ j ≤ j')) → L (41 * i' + j') = ec 1000000 (TT C X Y xc yc i' j')
section RE
variable {G : GT} {A M : Nat → Nat} {Z : Nat → Int32} {R : Nat → Nat → Int32} {P ws : va_W} {xc yc : Nat} {post : OT}
theorem rk_s {i j a b sh : Nat} {o : Option Nat} {L : Nat → Int32} (hI : RNI M R) (hx : xc ≤ 40) (hy : yc ≤ 40) (hX : SGS (R 13) xc) (hY : SGS (R 14) yc) (ea : shX sh = a) (eb : shY sh = b) (hia : i + a ≤ xc) (hjb : j + b ≤ yc) (ho : BD o) (hL : LTok (rCT M R) (R 13) (R 14) xc yc L i (j + 1))
    (hk : JJ G Y_X11_reckon 2 0 0 post 188 [(0, .ref (A 0)), (3, .int (nI i)), (4, .int (nI j)), (5, .int (ec 1000000 (oMin o (tst (rCT M R) (R 13) (R 14) xc yc i j sh)))), (6, .int (nI a)), (7, .int (nI b))] [] (rW G A M Z (va_up R 15 L) P) 0 0) :
    JJ G Y_X11_reckon 2 0 0 post 112 [(0, .ref (A 0)), (3, .int (nI i)), (4, .int (nI j)), (5, .int (ec 1000000 o)), (6, .int (nI a)), (7, .int (nI b))] [] (rW G A M Z (va_up R 15 L) P) 0 0 := by
  obtain ⟨qa, qb⟩ := sh_ab sh
  rw [ea] at qa
  rw [eb] at qb
  have hok := hI.1
  have hl := hL (i + a) (j + b) hia hjb (Or.inl (by omega))
  have ht : BD (TT (rCT M R) (R 13) (R 14) xc yc (i + a) (j + b)) := BD_TT hok hx
  have hc : BD (chn (rCT M R) (pcX (R 13) i a) (pcX (R 14) j b)) := fun v h => by have := chn_le hok h; omega
  have et : tst (rCT M R) (R 13) (R 14) xc yc i j sh = oAdd (chn (rCT M R) (pcX (R 13) i a) (pcX (R 14) j b)) (TT (rCT M R) (R 13) (R 14) xc yc (i + a) (j + b)) := by unfold tst; rw [ea, eb]
  have px := pcB_pcX hX qa hia
  have py := pcB_pcX hY qb hjb
  have hch := r_chainOf (G := G) (A := A) (M := M) (Z := Z) (R := va_up R 15 L) (P := P) (hI.sc RSC.l).1 px py
  rw [(hI.sc (RSC.l (f := L))).2] at hch
  rw [et] at hk
  obtain ⟨w1, w2⟩ := fw_cmp hc ht ho
  generalize TT (rCT M R) (R 13) (R 14) xc yc (i + a) (j + b) = t at hl ht et hk w1 w2
  generalize hcc : chn (rCT M R) (pcX (R 13) i a) (pcX (R 14) j b) = ch at hc et hk hch w1 w2
  refine j_aload_n (n := 113) dX11_reckon_112 rfl rfl ?_
  refine j_get (n := 116) 0 dX11_reckon_113 f_X11_57 rfl rfl rfl ?_
  refine j_bipush (n := 118) (41) dX11_reckon_116 rfl (by decide) ?_
  refine j_iload_n (n := 119) dX11_reckon_118 rfl rfl ?_
  refine j_iload (n := 121) dX11_reckon_119 rfl rfl ?_
  refine j_iadd (n := 122) dX11_reckon_121 rfl ?_
  refine j_imul (n := 123) dX11_reckon_122 rfl ?_
  refine j_iload (n := 125) dX11_reckon_123 rfl rfl ?_
  refine j_iadd (n := 126) dX11_reckon_125 rfl ?_
  refine j_iload (n := 128) dX11_reckon_126 rfl rfl ?_
  refine j_iadd (n := 129) dX11_reckon_128 rfl ?_
  refine j_iald (n := 130) 15 (41 * (i + a) + (j + b)) dX11_reckon_129 rfl rfl (k41 i a j b) (by omega) (by omega) ?_
  refine j_top _ hl ?_
  refine j_istore (n := 132) dX11_reckon_130 rfl (by decide) ?_
  refine j_iload (n := 134) dX11_reckon_132 rfl rfl ?_
  refine j_iload (n := 136) dX11_reckon_134 rfl rfl ?_
  refine j_icmp_lt (n := 139) 142 dX11_reckon_136 (by decide) rfl (fun c => ?_) (fun c => ?_)
  · refine j_aload_n (n := 143) dX11_reckon_142 rfl rfl ?_
    refine j_aload_n (n := 144) dX11_reckon_143 rfl rfl ?_
    refine j_get (n := 147) 0 dX11_reckon_144 f_X11_51 rfl rfl rfl ?_
    refine j_iload_n (n := 148) dX11_reckon_147 rfl rfl ?_
    refine j_iload (n := 150) dX11_reckon_148 rfl rfl ?_
    refine j_callSe (n := 153) (Y1 := Y_X11_piece) dX11_reckon_150 m_X11_183 cy_X11_piece cs_X11_piece (r_piece (k0 := 13) rfl qa (by omega) (by omega)) rfl rfl rfl (by omega) (by omega) (by omega) (Nat.le_of_ble_eq_true rfl) ?_
    refine j_aload_n (n := 154) dX11_reckon_153 rfl rfl ?_
    refine j_get (n := 157) 0 dX11_reckon_154 f_X11_54 rfl rfl rfl ?_
    refine j_iload (n := 159) dX11_reckon_157 rfl rfl ?_
    refine j_iload (n := 161) dX11_reckon_159 rfl rfl ?_
    refine j_callSe (n := 164) (Y1 := Y_X11_piece) dX11_reckon_161 m_X11_183 cy_X11_piece cs_X11_piece (r_piece (k0 := 14) rfl qb (by omega) (by omega)) rfl rfl rfl (by omega) (by omega) (by omega) (Nat.le_of_ble_eq_true rfl) ?_
    refine j_callVe (n := 167) (Y1 := Y_X11_chainOf) 0 dX11_reckon_164 m_X11_138 cy_X11_chainOf ci_X11_chainOf hch rfl rfl rfl rfl rfl (by omega) (by omega) (by omega) (Nat.le_of_ble_eq_true rfl) ?_
    refine j_iload (n := 169) dX11_reckon_167 rfl rfl ?_
    refine j_iadd (n := 170) dX11_reckon_169 rfl ?_
    refine j_istore (n := 172) dX11_reckon_170 rfl (by decide) ?_
    refine j_iload (n := 174) dX11_reckon_172 rfl rfl ?_
    refine j_iload (n := 176) dX11_reckon_174 rfl rfl ?_
    refine j_icmp_ge (n := 179) 184 dX11_reckon_176 (by decide) rfl (fun c2 => ?_) (fun c2 => ?_)
    · rw [w1 c2] at hk
      refine j_iload (n := 186) dX11_reckon_184 rfl rfl ?_
      refine j_istore (n := 188) dX11_reckon_186 rfl (by decide) ?_
      refine j_keep [0, 3, 4, 5, 6, 7] rfl ?_
      exact hk
    · rw [← w2 c2] at hk
      refine j_iload (n := 181) dX11_reckon_179 rfl rfl ?_
      refine j_goto 186 dX11_reckon_181 (by decide) ?_
      refine j_istore (n := 188) dX11_reckon_186 rfl (by decide) ?_
      refine j_keep [0, 3, 4, 5, 6, 7] rfl ?_
      exact hk
  · rw [rk_cmp ho ht (Int32.not_lt.mp c)] at hk
    refine j_goto 188 dX11_reckon_139 (by decide) ?_
    refine j_keep [0, 3, 4, 5, 6, 7] rfl ?_
    exact hk
theorem rk_b {i j a s : Nat} {o : Option Nat} {L : Nat → Int32} (hI : RNI M R) (ex : M 22 = xc) (ey : M 23 = yc) (hx : xc ≤ 40) (hy : yc ≤ 40) (hX : SGS (R 13) xc) (hY : SGS (R 14) yc) (hs : (a = 1 ∧ s = 0) ∨ (a = 2 ∧ s = 2)) (hia : i + a ≤ xc) (hj : j ≤ yc) (ho : BD o) (hL : LTok (rCT M R) (R 13) (R 14) xc yc L i (j + 1))
    (hk : JJ G Y_X11_reckon 2 0 0 post 194 [(0, .ref (A 0)), (3, .int (nI i)), (4, .int (nI j)), (5, .int (ec 1000000 (oMin (oMin o (tst (rCT M R) (R 13) (R 14) xc yc i j s)) (tst (rCT M R) (R 13) (R 14) xc yc i j (s + 1))))), (6, .int (nI a))] [] (rW G A M Z (va_up R 15 L) P) 0 0) :
    JJ G Y_X11_reckon 2 0 0 post 91 [(0, .ref (A 0)), (3, .int (nI i)), (4, .int (nI j)), (5, .int (ec 1000000 o)), (6, .int (nI a))] [] (rW G A M Z (va_up R 15 L) P) 0 0 := by
  have hok := hI.1
  have e1 : shX s = a ∧ shY s = 1 ∧ shX (s + 1) = a ∧ shY (s + 1) = 2 := by rcases hs with ⟨rfl, rfl⟩ | ⟨rfl, rfl⟩ <;> decide
  have o1 := ho.min (BD_tst (C := rCT M R) (X := R 13) (Y := R 14) (yc := yc) (i := i) (j := j) (sh := s) hok hx)
  refine j_iconst (n := 92) (1) dX11_reckon_91 rfl (by decide) ?_
  refine j_istore (n := 94) dX11_reckon_92 rfl (by decide) ?_
  refine j_iload (n := 96) dX11_reckon_94 rfl rfl ?_
  refine j_iconst (n := 97) (2) dX11_reckon_96 rfl (by decide) ?_
  refine j_icmp_gt (n := 100) 194 dX11_reckon_97 (by decide) rfl (fun c => ?_) (fun c => ?_)
  · exact absurd (show nI 2 < nI 1 from c) (by decide)
  · refine j_iload (n := 102) dX11_reckon_100 rfl rfl ?_
    refine j_iload (n := 104) dX11_reckon_102 rfl rfl ?_
    refine j_iadd (n := 105) dX11_reckon_104 rfl ?_
    refine j_aload_n (n := 106) dX11_reckon_105 rfl rfl ?_
    refine j_get (n := 109) 0 dX11_reckon_106 f_X11_180 rfl rfl rfl ?_
    rw [ey, show nI j + 1 = nI (j + 1) from nI_1 j]
    refine j_icmp_gt (n := 112) 194 dX11_reckon_109 (by decide) rfl (fun c2 => ?_) (fun c2 => ?_)
    · have h1 : yc < j + 1 := (nI_ltI (by omega) (by omega)).mp c2
      rw [tst_out (by rw [e1.2.1]; omega), tst_out (by rw [e1.2.2.2]; omega), oMin_none, oMin_none] at hk
      refine j_keep [0, 3, 4, 5, 6] rfl ?_
      exact hk
    · have h1 : j + 1 ≤ yc := Decidable.byContradiction (fun q => c2 (nI_lt (by omega) (by omega)))
      refine rk_s (b := 1) (sh := s) hI hx hy hX hY e1.1 e1.2.1 hia h1 ho hL ?_
      refine j_iinc (n := 191) (nI (1 + 1)) dX11_reckon_188 rfl rfl (nI_inc 1) (by decide) ?_
      refine j_goto 94 dX11_reckon_191 (by decide) ?_
      refine j_iload (n := 96) dX11_reckon_94 rfl rfl ?_
      refine j_iconst (n := 97) (2) dX11_reckon_96 rfl (by decide) ?_
      refine j_icmp_gt (n := 100) 194 dX11_reckon_97 (by decide) rfl (fun c3 => ?_) (fun c3 => ?_)
      · exact absurd (show nI 2 < nI 2 from c3) (by decide)
      · refine j_iload (n := 102) dX11_reckon_100 rfl rfl ?_
        refine j_iload (n := 104) dX11_reckon_102 rfl rfl ?_
        refine j_iadd (n := 105) dX11_reckon_104 rfl ?_
        refine j_aload_n (n := 106) dX11_reckon_105 rfl rfl ?_
        refine j_get (n := 109) 0 dX11_reckon_106 f_X11_180 rfl rfl rfl ?_
        rw [ey, nI_add j 2]
        refine j_icmp_gt (n := 112) 194 dX11_reckon_109 (by decide) rfl (fun c4 => ?_) (fun c4 => ?_)
        · have h2 : yc < j + 2 := (nI_ltI (by omega) (by omega)).mp c4
          rw [tst_out (sh := s + 1) (by rw [e1.2.2.2]; omega), oMin_none] at hk
          refine j_keep [0, 3, 4, 5, 6] rfl ?_
          exact hk
        · have h2 : j + 2 ≤ yc := Decidable.byContradiction (fun q => c4 (nI_lt (by omega) (by omega)))
          refine rk_s (b := 2) (sh := s + 1) hI hx hy hX hY e1.2.2.1 e1.2.2.2 hia h2 o1 hL ?_
          refine j_iinc (n := 191) (nI (2 + 1)) dX11_reckon_188 rfl rfl (nI_inc 2) (by decide) ?_
          refine j_goto 94 dX11_reckon_191 (by decide) ?_
          refine j_iload (n := 96) dX11_reckon_94 rfl rfl ?_
          refine j_iconst (n := 97) (2) dX11_reckon_96 rfl (by decide) ?_
          refine j_icmp_gt (n := 100) 194 dX11_reckon_97 (by decide) rfl (fun c5 => ?_) (fun c5 => ?_)
          · refine j_keep [0, 3, 4, 5, 6] rfl ?_
            exact hk
          · exact absurd (show nI 2 < nI 3 by decide) c5
end RE

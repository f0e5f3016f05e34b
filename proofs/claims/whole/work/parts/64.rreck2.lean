/-! the reference: reckon, its loops -/
theorem LTok.put {C : CT} {X Y : Nat → Int32} {xc yc i j : Nat} {L : Nat → Int32} {v : Int32} (h : LTok C X Y xc yc L i (j + 1)) (hy : yc ≤ 40) (hj : j ≤ yc) (hv : v = ec 1000000 (TT C X Y xc yc i j)) : LTok C X Y xc yc (upd L (41 * i + j) v) i j := by
  intro i' j' h1 h2 h3
  by_cases e : i' = i ∧ j' = j
  · obtain ⟨rfl, rfl⟩ := e
    rw [pk_us]; exact hv
  · rw [pk_un (by omega)]
    exact h i' j' h1 h2 (by omega)
theorem LTok.row {C : CT} {X Y : Nat → Int32} {xc yc i : Nat} {L : Nat → Int32} (h : LTok C X Y xc yc L (i + 1) 0) : LTok C X Y xc yc L i (yc + 1) := fun i' j' h1 h2 h3 => h i' j' h1 h2 (by omega)
section RF
variable {G : GT} {A M : Nat → Nat} {Z : Nat → Int32} {R : Nat → Nat → Int32} {P ws : va_W} {xc yc : Nat} {post : OT}
theorem rk_a {i j : Nat} {o : Option Nat} {L : Nat → Int32} (hI : RNI M R) (ex : M 22 = xc) (ey : M 23 = yc) (hx : xc ≤ 40) (hy : yc ≤ 40) (hX : SGS (R 13) xc) (hY : SGS (R 14) yc) (hi : i ≤ xc) (hj : j ≤ yc) (ho : o = if i = xc ∧ j = yc then some 0 else none) (hL : LTok (rCT M R) (R 13) (R 14) xc yc L i (j + 1))
    (hk : JJ G Y_X11_reckon 2 0 0 post 200 [(0, .ref (A 0)), (3, .int (nI i)), (4, .int (nI j)), (5, .int (ec 1000000 (TT (rCT M R) (R 13) (R 14) xc yc i j)))] [] (rW G A M Z (va_up R 15 L) P) 0 0) :
    JJ G Y_X11_reckon 2 0 0 post 71 [(0, .ref (A 0)), (3, .int (nI i)), (4, .int (nI j)), (5, .int (ec 1000000 o))] [] (rW G A M Z (va_up R 15 L) P) 0 0 := by
  have hok := hI.1
  rcases Nat.lt_or_ge i xc with h | h
  · have e0 : o = none := by rw [ho, if_neg (by omega)]
    subst e0
    rw [TT_tst h] at hk
    have b0 := (BD_tst (C := rCT M R) (X := R 13) (Y := R 14) (xc := xc) (yc := yc) (i := i) (j := j) (sh := 0) hok hx).min (BD_tst (C := rCT M R) (X := R 13) (Y := R 14) (xc := xc) (yc := yc) (i := i) (j := j) (sh := 1) hok hx)
    refine j_iconst (n := 72) (1) dX11_reckon_71 rfl (by decide) ?_
    refine j_istore (n := 74) dX11_reckon_72 rfl (by decide) ?_
    refine j_iload (n := 76) dX11_reckon_74 rfl rfl ?_
    refine j_iconst (n := 77) (2) dX11_reckon_76 rfl (by decide) ?_
    refine j_icmp_gt (n := 80) 200 dX11_reckon_77 (by decide) rfl (fun c => ?_) (fun c => ?_)
    · exact absurd (show nI 2 < nI 1 from c) (by decide)
    · refine j_iload_n (n := 81) dX11_reckon_80 rfl rfl ?_
      refine j_iload (n := 83) dX11_reckon_81 rfl rfl ?_
      refine j_iadd (n := 84) dX11_reckon_83 rfl ?_
      refine j_aload_n (n := 85) dX11_reckon_84 rfl rfl ?_
      refine j_get (n := 88) 0 dX11_reckon_85 f_X11_177 rfl rfl rfl ?_
      rw [ex, show nI i + 1 = nI (i + 1) from nI_1 i]
      refine j_icmp_gt (n := 91) 200 dX11_reckon_88 (by decide) rfl (fun c1 => ?_) (fun c1 => ?_)
      · exact absurd c1 (nI_nlt (by omega) (by omega))
      · refine rk_b (a := 1) (s := 0) hI ex ey hx hy hX hY (Or.inl ⟨rfl, rfl⟩) (by omega) hj BD.none hL ?_
        rw [show oMin none (tst (rCT M R) (R 13) (R 14) xc yc i j 0) = tst (rCT M R) (R 13) (R 14) xc yc i j 0 from rfl]
        refine j_iinc (n := 197) (nI (1 + 1)) dX11_reckon_194 rfl rfl (nI_inc 1) (by decide) ?_
        refine j_goto 74 dX11_reckon_197 (by decide) ?_
        refine j_iload (n := 76) dX11_reckon_74 rfl rfl ?_
        refine j_iconst (n := 77) (2) dX11_reckon_76 rfl (by decide) ?_
        refine j_icmp_gt (n := 80) 200 dX11_reckon_77 (by decide) rfl (fun c2 => ?_) (fun c2 => ?_)
        · exact absurd (show nI 2 < nI 2 from c2) (by decide)
        · refine j_iload_n (n := 81) dX11_reckon_80 rfl rfl ?_
          refine j_iload (n := 83) dX11_reckon_81 rfl rfl ?_
          refine j_iadd (n := 84) dX11_reckon_83 rfl ?_
          refine j_aload_n (n := 85) dX11_reckon_84 rfl rfl ?_
          refine j_get (n := 88) 0 dX11_reckon_85 f_X11_177 rfl rfl rfl ?_
          rw [ex, nI_add i 2]
          refine j_icmp_gt (n := 91) 200 dX11_reckon_88 (by decide) rfl (fun c3 => ?_) (fun c3 => ?_)
          · have h2 : xc < i + 2 := (nI_ltI (by omega) (by omega)).mp c3
            rw [tst_out (sh := 2) (show ¬ (i + 2 ≤ xc ∧ _) by omega), tst_out (sh := 3) (show ¬ (i + 2 ≤ xc ∧ _) by omega), oMin_none, oMin_none] at hk
            refine j_keep [0, 3, 4, 5] rfl ?_
            exact hk
          · have h2 : i + 2 ≤ xc := Decidable.byContradiction (fun q => c3 (nI_lt (by omega) (by omega)))
            refine rk_b (a := 2) (s := 2) hI ex ey hx hy hX hY (Or.inr ⟨rfl, rfl⟩) h2 hj b0 hL ?_
            refine j_iinc (n := 197) (nI (2 + 1)) dX11_reckon_194 rfl rfl (nI_inc 2) (by decide) ?_
            refine j_goto 74 dX11_reckon_197 (by decide) ?_
            refine j_iload (n := 76) dX11_reckon_74 rfl rfl ?_
            refine j_iconst (n := 77) (2) dX11_reckon_76 rfl (by decide) ?_
            refine j_icmp_gt (n := 80) 200 dX11_reckon_77 (by decide) rfl (fun c4 => ?_) (fun c4 => ?_)
            · refine j_keep [0, 3, 4, 5] rfl ?_
              exact hk
            · exact absurd (show nI 2 < nI 3 by decide) c4
  · obtain rfl : i = xc := by omega
    rw [TT_end] at hk
    have e0 : rowZ yc j = o := by
      rw [ho]; unfold rowZ
      by_cases e : j = yc
      · rw [if_pos e, if_pos ⟨rfl, e⟩]
      · rw [if_neg e, if_neg (fun q => e q.2)]
    rw [e0] at hk
    refine j_iconst (n := 72) (1) dX11_reckon_71 rfl (by decide) ?_
    refine j_istore (n := 74) dX11_reckon_72 rfl (by decide) ?_
    refine j_iload (n := 76) dX11_reckon_74 rfl rfl ?_
    refine j_iconst (n := 77) (2) dX11_reckon_76 rfl (by decide) ?_
    refine j_icmp_gt (n := 80) 200 dX11_reckon_77 (by decide) rfl (fun c => ?_) (fun c => ?_)
    · exact absurd (show nI 2 < nI 1 from c) (by decide)
    · refine j_iload_n (n := 81) dX11_reckon_80 rfl rfl ?_
      refine j_iload (n := 83) dX11_reckon_81 rfl rfl ?_
      refine j_iadd (n := 84) dX11_reckon_83 rfl ?_
      refine j_aload_n (n := 85) dX11_reckon_84 rfl rfl ?_
      refine j_get (n := 88) 0 dX11_reckon_85 f_X11_177 rfl rfl rfl ?_
      rw [ex, show nI i + 1 = nI (i + 1) from nI_1 i]
      refine j_icmp_gt (n := 91) 200 dX11_reckon_88 (by decide) rfl (fun c1 => ?_) (fun c1 => ?_)
      · refine j_keep [0, 3, 4, 5] rfl ?_
        exact hk
      · exact absurd (nI_lt (show i < i + 1 by omega) (by omega)) c1
theorem rk_j {i : Nat} (hI : RNI M R) (ex : M 22 = xc) (ey : M 23 = yc) (hx : xc ≤ 40) (hy : yc ≤ 40) (hX : SGS (R 13) xc) (hY : SGS (R 14) yc) (hi : i ≤ xc)
    (hk : ∀ L : Nat → Int32, LTok (rCT M R) (R 13) (R 14) xc yc L i 0 → JJ G Y_X11_reckon 2 0 0 post 220 [(0, .ref (A 0)), (3, .int (nI i))] [] (rW G A M Z (va_up R 15 L) P) 0 0) :
    ∀ (n : Nat), n ≤ yc + 1 → ∀ L : Nat → Int32, LTok (rCT M R) (R 13) (R 14) xc yc L i n → JJ G Y_X11_reckon 2 0 0 post 41 [(0, .ref (A 0)), (3, .int (nI i)), (4, .int (nI n - 1))] [] (rW G A M Z (va_up R 15 L) P) 0 0 := by
  intro n
  induction n with
  | zero =>
    intro _ L hL
    refine j_iload (n := 43) dX11_reckon_41 rfl rfl ?_
    refine j_if_lt (n := 46) 220 dX11_reckon_43 (by decide) rfl (fun c => ?_) (fun c => ?_)
    · refine j_keep [0, 3] rfl ?_
      exact hk L hL
    · exact absurd (show (nI 0 - 1 : Int32) < 0 by decide) c
  | succ j ih =>
    intro hn L hL
    rw [nI_sub1]
    have ih := ih (by omega) (upd L (41 * i + j) (ec 1000000 (TT (rCT M R) (R 13) (R 14) xc yc i j))) (hL.put hy (by omega) rfl)
    have fin : JJ G Y_X11_reckon 2 0 0 post 200 [(0, .ref (A 0)), (3, .int (nI i)), (4, .int (nI j)), (5, .int (ec 1000000 (TT (rCT M R) (R 13) (R 14) xc yc i j)))] [] (rW G A M Z (va_up R 15 L) P) 0 0 := by
      refine j_aload_n (n := 201) dX11_reckon_200 rfl rfl ?_
      refine j_get (n := 204) 0 dX11_reckon_201 f_X11_57 rfl rfl rfl ?_
      refine j_bipush (n := 206) (41) dX11_reckon_204 rfl (by decide) ?_
      refine j_iload_n (n := 207) dX11_reckon_206 rfl rfl ?_
      refine j_imul (n := 208) dX11_reckon_207 rfl ?_
      refine j_iload (n := 210) dX11_reckon_208 rfl rfl ?_
      refine j_iadd (n := 211) dX11_reckon_210 rfl ?_
      refine j_iload (n := 213) dX11_reckon_211 rfl rfl ?_
      refine j_iast (n := 214) 15 (41 * i + j) dX11_reckon_213 rfl rfl (k41' i j) (by omega) (by omega) ?_
      refine j_ws (ws' := rW G A M Z (va_up R 15 (upd L (41 * i + j) (ec 1000000 (TT (rCT M R) (R 13) (R 14) xc yc i j)))) P) rfl ?_
      refine j_iinc (n := 217) (nI j - 1) dX11_reckon_214 rfl rfl (nI_im1 j) (by decide) ?_
      refine j_goto 41 dX11_reckon_217 (by decide) ?_
      refine j_keep [0, 3, 4] rfl ?_
      exact ih
    refine j_iload (n := 43) dX11_reckon_41 rfl rfl ?_
    refine j_if_lt (n := 46) 220 dX11_reckon_43 (by decide) rfl (fun c => ?_) (fun c => ?_)
    · exact absurd c (nI_pos (by omega))
    · refine j_iload_n (n := 47) dX11_reckon_46 rfl rfl ?_
      refine j_aload_n (n := 48) dX11_reckon_47 rfl rfl ?_
      refine j_get (n := 51) 0 dX11_reckon_48 f_X11_177 rfl rfl rfl ?_
      rw [ex]
      refine j_icmp_ne (n := 54) 67 dX11_reckon_51 (by decide) rfl (fun c1 => ?_) (fun c1 => ?_)
      · have hne : ¬ i = xc := fun q => c1 (by rw [q])
        refine j_ldc (n := 69) dX11_reckon_67 rfl k_X11_134 ?_
        refine j_istore (n := 71) dX11_reckon_69 rfl (by decide) ?_
        refine rk_a (o := none) hI ex ey hx hy hX hY hi (by omega) (by rw [if_neg (fun q => hne q.1)]) hL ?_
        exact fin
      · have he := (nI_eq (by omega) (by omega)).mp c1
        refine j_iload (n := 56) dX11_reckon_54 rfl rfl ?_
        refine j_aload_n (n := 57) dX11_reckon_56 rfl rfl ?_
        refine j_get (n := 60) 0 dX11_reckon_57 f_X11_180 rfl rfl rfl ?_
        rw [ey]
        refine j_icmp_ne (n := 63) 67 dX11_reckon_60 (by decide) rfl (fun c2 => ?_) (fun c2 => ?_)
        · have hne : ¬ j = yc := fun q => c2 (by rw [q])
          refine j_ldc (n := 69) dX11_reckon_67 rfl k_X11_134 ?_
          refine j_istore (n := 71) dX11_reckon_69 rfl (by decide) ?_
          refine rk_a (o := none) hI ex ey hx hy hX hY hi (by omega) (by rw [if_neg (fun q => hne q.2)]) hL ?_
          exact fin
        · have he2 := (nI_eq (by omega) (by omega)).mp c2
          refine j_iconst (n := 64) (0) dX11_reckon_63 rfl (by decide) ?_
          refine j_goto 69 dX11_reckon_64 (by decide) ?_
          refine j_istore (n := 71) dX11_reckon_69 rfl (by decide) ?_
          refine rk_a (o := some 0) hI ex ey hx hy hX hY hi (by omega) (by rw [if_pos ⟨he, he2⟩]) hL ?_
          exact fin
theorem rk_i (hI : RNI M R) (ex : M 22 = xc) (ey : M 23 = yc) (hx : xc ≤ 40) (hy : yc ≤ 40) (hX : SGS (R 13) xc) (hY : SGS (R 14) yc)
    (hk : ∀ L : Nat → Int32, LTok (rCT M R) (R 13) (R 14) xc yc L 0 0 → JJ G Y_X11_reckon 2 0 0 post 226 [(0, .ref (A 0))] [] (rW G A M Z (va_up R 15 L) P) 0 0) :
    ∀ (n : Nat), n ≤ xc + 1 → ∀ L : Nat → Int32, LTok (rCT M R) (R 13) (R 14) xc yc L n 0 → JJ G Y_X11_reckon 2 0 0 post 31 [(0, .ref (A 0)), (3, .int (nI n - 1))] [] (rW G A M Z (va_up R 15 L) P) 0 0 := by
  intro n
  induction n with
  | zero =>
    intro _ L hL
    refine j_iload_n (n := 32) dX11_reckon_31 rfl rfl ?_
    refine j_if_lt (n := 35) 226 dX11_reckon_32 (by decide) rfl (fun c => ?_) (fun c => ?_)
    · refine j_keep [0] rfl ?_
      exact hk L hL
    · exact absurd (show (nI 0 - 1 : Int32) < 0 by decide) c
  | succ i ih =>
    intro hn L hL
    rw [nI_sub1]
    refine j_iload_n (n := 32) dX11_reckon_31 rfl rfl ?_
    refine j_if_lt (n := 35) 226 dX11_reckon_32 (by decide) rfl (fun c => ?_) (fun c => ?_)
    · exact absurd c (nI_pos (by omega))
    · refine j_aload_n (n := 36) dX11_reckon_35 rfl rfl ?_
      refine j_get (n := 39) 0 dX11_reckon_36 f_X11_180 rfl rfl rfl ?_
      refine j_top (nI (yc + 1) - 1) (by rw [ey, nI_sub1]) ?_
      refine j_istore (n := 41) dX11_reckon_39 rfl (by decide) ?_
      refine rk_j hI ex ey hx hy hX hY (by omega) (fun L' hL' => ?_) (yc + 1) (Nat.le_refl _) L hL.row
      refine j_iinc (n := 223) (nI i - 1) dX11_reckon_220 rfl rfl (nI_im1 i) (by decide) ?_
      refine j_goto 31 dX11_reckon_223 (by decide) ?_
      exact ih (by omega) L' hL'
/-- the table of two texts -/
def LTB (M : Nat → Nat) (R : Nat → Nat → Int32) : Prop := ∀ i j, i ≤ M 22 → j ≤ M 23 → R 15 (41 * i + j) = ec 1000000 (TT (rCT M R) (R 13) (R 14) (M 22) (M 23) i j)
abbrev RKP (G : GT) (A M : Nat → Nat) (Z : Nat → Int32) (R : Nat → Nat → Int32) (P : va_W) (lx : Nat) (t1 : Nat → Int32) (ly : Nat) (t2 : Nat → Int32) : OT := Qi (fun r u => r = ec 1000000 (dst (rCT M R) (R 2) lx t1 ly t2) ∧ ∃ (M' : Nat → Nat) (R' : Nat → Nat → Int32), u = rW G A M' Z R' P ∧ SEE2 M R lx t1 ly t2 M' R' ∧ LTB M' R')
theorem rk_26 {M' : Nat → Nat} {R' : Nat → Nat → Int32} {lx ly : Nat} {t1 t2 : Nat → Int32} {v1 v2 : Value} (hI : RNI M R) (b1 : lx ≤ 40) (b2 : ly ≤ 40) (g1 : SGT t1 lx) (g2 : SGT t2 ly) (hS : SEE2 M R lx t1 ly t2 M' R') : JJ G Y_X11_reckon 2 0 0 (RKP G A M Z R P lx t1 ly t2) 26 [(0, .ref (A 0)), (1, v1), (2, v2)] [] (rW G A M' Z R' P) 0 0 := by
  have l1 := seeN_le (R 2) t1 lx
  have l2 := seeN_le (R 2) t2 ly
  obtain ⟨e1, e2, hf, hg, hsc⟩ := hS
  obtain ⟨hI', eC⟩ := hI.sc hsc
  have hX : SGS (R' 13) (seeN (R 2) t1 lx) := fun k hk => by rw [hf k hk]; exact seeF_sg g1 k hk
  have hY : SGS (R' 14) (seeN (R 2) t2 ly) := fun k hk => by rw [hg k hk]; exact seeF_sg g2 k hk
  have hD : TT (rCT M' R') (R' 13) (R' 14) (seeN (R 2) t1 lx) (seeN (R 2) t2 ly) 0 0 = dst (rCT M R) (R 2) lx t1 ly t2 := by
    unfold dst
    rw [eC]
    exact TT_congr' hf hg 0 0
  have hend : ∀ L : Nat → Int32, LTok (rCT M' R') (R' 13) (R' 14) (seeN (R 2) t1 lx) (seeN (R 2) t2 ly) L 0 0 → JJ G Y_X11_reckon 2 0 0 (RKP G A M Z R P lx t1 ly t2) 226 [(0, .ref (A 0))] [] (rW G A M' Z (va_up R' 15 L) P) 0 0 := by
    intro L hL
    have h0 : L 0 = ec 1000000 (dst (rCT M R) (R 2) lx t1 ly t2) := by
      have := hL 0 0 (by omega) (by omega) (Or.inr ⟨rfl, Nat.le_refl _⟩)
      rw [hD] at this
      exact this
    have hB : LTB M' (va_up R' 15 L) := by
      intro i j hi hj
      rw [e1] at hi ⊢
      rw [e2] at hj ⊢
      exact hL i j hi hj (by omega)
    refine j_aload_n (n := 227) dX11_reckon_226 rfl rfl ?_
    refine j_get (n := 230) 0 dX11_reckon_227 f_X11_57 rfl rfl rfl ?_
    refine j_iconst (n := 231) (0) dX11_reckon_230 rfl (by decide) ?_
    refine j_iald (n := 232) 15 0 dX11_reckon_231 rfl rfl rfl (by omega) (by omega) ?_
    refine j_top _ h0 ?_
    exact j_iret dX11_reckon_232 rfl rfl (by omega) (by omega) (⟨rfl, M', va_up R' 15 L, rfl, ⟨e1, e2, hf, hg, hsc.tr RSC.l⟩, hB⟩)
  refine j_aload_n (n := 27) dX11_reckon_26 rfl rfl ?_
  refine j_get (n := 30) 0 dX11_reckon_27 f_X11_177 rfl rfl rfl ?_
  refine j_top (nI (seeN (R 2) t1 lx + 1) - 1) (by rw [e1, nI_sub1]) ?_
  refine j_istore_n (n := 31) dX11_reckon_30 rfl (by decide) ?_
  refine j_keep [0, 3] rfl ?_
  have hw : R' = va_up R' 15 (R' 15) := by
    funext k
    by_cases e : k = 15
    · subst e; rw [va_up_self]
    · rw [va_up_ne _ _ e]
  refine j_ws (ws' := rW G A M' Z (va_up R' 15 (R' 15)) P) (by rw [← hw]) ?_
  exact rk_i hI' e1 e2 (by omega) (by omega) hX hY hend (seeN (R 2) t1 lx + 1) (Nat.le_refl _) (R' 15) (fun i' j' h1 h2 h3 => by omega)
theorem r_reckon {k1 k2 lx ly : Nat} {t1 t2 : Nat → Int32} (hI : RNI M R) (hk1 : k1 ≤ 200) (hk2 : k2 ≤ 200) (h1 : RTX R k1 lx t1) (h2 : RTX R k2 ly t2) : JM G Y_X11_reckon 2 0 0 [.ref (A 0), .int (nI k1), .int (nI k2)] (rW G A M Z R P) (RKP G A M Z R P lx t1 ly t2) := by
  refine JM.of [(0, .ref (A 0)), (1, .int (nI k1)), (2, .int (nI k2))] rfl rfl (by simp) (Nat.le_of_ble_eq_true rfl) (by decide +kernel) ?_
  refine j_aload_n (n := 1) dX11_reckon_0 rfl rfl ?_
  refine j_aload_n (n := 2) dX11_reckon_1 rfl rfl ?_
  refine j_iload_n (n := 3) dX11_reckon_2 rfl rfl ?_
  refine j_aload_n (n := 4) dX11_reckon_3 rfl rfl ?_
  refine j_get (n := 7) 0 dX11_reckon_4 f_X11_51 rfl rfl rfl ?_
  refine j_callVi (n := 10) (Y1 := Y_X11_see) 0 dX11_reckon_7 m_X11_162 cy_X11_see ci_X11_see (r_seeX hk1 h1) rfl rfl rfl rfl rfl (by omega) (by omega) (by omega) (Nat.le_of_ble_eq_true rfl) (fun z w hh => ?_)
  obtain ⟨rfl, f, rfl, hf⟩ := hh
  refine j_put (n := 13) 0 dX11_reckon_10 f_X11_177 rfl rfl rfl (Nat.le_of_ble_eq_true rfl) rfl rfl ?_
  refine j_ws (ws' := rW G A (va_up M 22 (seeN (R 2) t1 lx)) Z (va_up R 13 f) P) rfl ?_
  obtain ⟨R1, hR1⟩ : ∃ R1, R1 = va_up R 13 f := ⟨_, rfl⟩
  have r2 : R1 2 = R 2 := by rw [hR1]; rfl
  obtain ⟨M1, hM1⟩ : ∃ M1, M1 = va_up M 22 (seeN (R 2) t1 lx) := ⟨_, rfl⟩
  have m22 : M1 22 = seeN (R 2) t1 lx := by rw [hM1]; rfl
  have hsc1 : RSC M R M1 R1 := by rw [hR1, hM1]; exact RSC.x.tr RSC.xs
  have hf1 : ∀ i, i < seeN (R 2) t1 lx → R1 13 i = seeF (R 2) t1 lx i := by rw [hR1]; exact hf
  rw [← hR1, ← hM1]
  clear hR1 hf hM1
  refine j_aload_n (n := 14) dX11_reckon_13 rfl rfl ?_
  refine j_aload_n (n := 15) dX11_reckon_14 rfl rfl ?_
  refine j_iload_n (n := 16) dX11_reckon_15 rfl rfl ?_
  refine j_aload_n (n := 17) dX11_reckon_16 rfl rfl ?_
  refine j_get (n := 20) 0 dX11_reckon_17 f_X11_54 rfl rfl rfl ?_
  refine j_callVi (n := 23) (Y1 := Y_X11_see) 0 dX11_reckon_20 m_X11_162 cy_X11_see ci_X11_see (r_seeY hk2 (h2.sc hsc1)) rfl rfl rfl rfl rfl (by omega) (by omega) (by omega) (Nat.le_of_ble_eq_true rfl) (fun z w hh => ?_)
  obtain ⟨rfl, g, rfl, hg⟩ := hh
  rw [r2] at hg ⊢
  refine j_put (n := 26) 0 dX11_reckon_23 f_X11_180 rfl rfl rfl (Nat.le_of_ble_eq_true rfl) rfl rfl ?_
  refine j_ws (ws' := rW G A (va_up M1 23 (seeN (R 2) t2 ly)) Z (va_up R1 14 g) P) rfl ?_
  refine rk_26 hI h1.2.1 h2.2.1 h1.2.2.2.2 h2.2.2.2.2 ⟨m22, rfl, hf1, hg, (hsc1.tr RSC.y).tr RSC.ys⟩
end RF

/-! the reference: likes -/
abbrev LT2 : Type := Nat × (Nat → Int32)
/-- the class's packed pairs are the reference's three rows -/
def LKI (s : LT2) (m : Nat) (a b c : Nat → Int32) : Prop := m = min s.1 1000 ∧ ∀ j, j < m → ∃ e f v : Nat, e < 256 ∧ f < 256 ∧ v < 256 ∧ s.2 j = nI (65536 * e + 256 * f + v) ∧ a j = nI e ∧ b j = nI f ∧ c j = nI v
theorem LKI.add {s : LT2} {m : Nat} {a b c : Nat → Int32} {e f v : Nat} (h : LKI s m a b c) (he : e < 256) (hf : f < 256) (hv : v < 256) (hm : ¬ m = 1000) : LKI (pAdd s e f v) (m + 1) (upd a m (nI e)) (upd b m (nI f)) (upd c m (nI v)) := by
  obtain ⟨h1, h2⟩ := h
  have hs : s.1 < 1000 := by omega
  have em : m = s.1 := by omega
  refine ⟨?_, fun j hj => ?_⟩
  · show m + 1 = min (s.1 + 1) 1000
    omega
  · show ∃ e' f' v' : Nat, e' < 256 ∧ f' < 256 ∧ v' < 256 ∧ (if s.1 < 1000 then upd s.2 s.1 (nI (65536 * e + 256 * f + v)) else s.2) j = nI (65536 * e' + 256 * f' + v') ∧ _
    rw [if_pos hs, ← em]
    by_cases ej : j = m
    · subst ej
      rw [pk_us, pk_us, pk_us, pk_us]
      exact ⟨e, f, v, he, hf, hv, rfl, rfl, rfl, rfl⟩
    · rw [pk_un ej, pk_un ej, pk_un ej, pk_un ej]
      exact h2 j (by omega)
theorem LKI.full {s : LT2} {m : Nat} {a b c : Nat → Int32} {e f v : Nat} (h : LKI s m a b c) (hm : m = 1000) : LKI (pAdd s e f v) m a b c := by
  obtain ⟨h1, h2⟩ := h
  have hs : ¬ s.1 < 1000 := by omega
  refine ⟨?_, fun j hj => ?_⟩
  · show m = min (s.1 + 1) 1000
    omega
  · show ∃ e' f' v' : Nat, e' < 256 ∧ f' < 256 ∧ v' < 256 ∧ (if s.1 < 1000 then upd s.2 s.1 (nI (65536 * e + 256 * f + v)) else s.2) j = nI (65536 * e' + 256 * f' + v') ∧ _
    rw [if_neg hs]
    exact h2 j hj
def LKX (M : Nat → Nat) (R : Nat → Nat → Int32) (s : LT2) (M' : Nat → Nat) (R' : Nat → Nat → Int32) : Prop := (∀ i, i ≠ 22 → i ≠ 23 → i ≠ 41 → M' i = M i) ∧ (∀ i, i ≠ 13 → i ≠ 14 → i ≠ 15 → i ≠ 27 → i ≠ 28 → i ≠ 29 → R' i = R i) ∧ LKI s (M' 41) (R' 27) (R' 28) (R' 29)
theorem LKX.sc {M : Nat → Nat} {R : Nat → Nat → Int32} {s : LT2} {M' M2 : Nat → Nat} {R' R2 : Nat → Nat → Int32} (h : LKX M R s M' R') (h2 : RSC M' R' M2 R2) : LKX M R s M2 R2 := by
  obtain ⟨a1, a2, a3⟩ := h
  refine ⟨fun i x y z => (h2.1 i x y).trans (a1 i x y z), fun i x y z u v w => (h2.2 i x y z).trans (a2 i x y z u v w), ?_⟩
  rw [h2.1 41 (by omega) (by omega), h2.2 27 (by omega) (by omega) (by omega), h2.2 28 (by omega) (by omega) (by omega), h2.2 29 (by omega) (by omega) (by omega)]
  exact a3
section RN
variable {G : GT} {A M : Nat → Nat} {Z : Nat → Int32} {R : Nat → Nat → Int32} {P ws : va_W} {el : Nat → Nat} {et : Nat → Nat → Int32} {rf rw : Nat → Nat} {rs : Nat → Int32} {post : OT}
theorem lk_in {e g : Nat} {s : LT2} (hI : RNI M R) (hE : RET M R el et) (hg : g < 4) (hrf : R 16 g = nI (rf g)) (hlm : rf g ≤ 200) (he : e < M 27) (her : R 19 e = nI g)
    (hk : ∀ (M' : Nat → Nat) (R' : Nat → Nat → Int32), LKX M R (piS (rCT M R) (R 2) (R 19) (R 20) (R 21) el et (rf g) e s (M 27 - (e + 1))) M' R' → JJ G Y_X11_likes 3 0 0 post 169 [(0, .ref (A 0)), (1, .int (nI g)), (2, .int (nI (piS (rCT M R) (R 2) (R 19) (R 20) (R 21) el et (rf g) e s (M 27 - (e + 1))).1)), (3, .int (nI e))] [] (rW G A M' Z R' P) 0 0) :
    ∀ (k j : Nat), e + 1 + j + k = M 27 → ∀ (M' : Nat → Nat) (R' : Nat → Nat → Int32), LKX M R (piS (rCT M R) (R 2) (R 19) (R 20) (R 21) el et (rf g) e s j) M' R' → JJ G Y_X11_likes 3 0 0 post 44 [(0, .ref (A 0)), (1, .int (nI g)), (2, .int (nI (piS (rCT M R) (R 2) (R 19) (R 20) (R 21) el et (rf g) e s j).1)), (3, .int (nI e)), (4, .int (nI (e + 1 + j)))] [] (rW G A M' Z R' P) 0 0 := by
  have h27 := hE.1
  have hok := hI.1
  intro k
  induction k with
  | zero =>
    intro j hj M' R' hX
    have e27 : M' 27 = M 27 := hX.1 27 (by omega) (by omega) (by omega)
    obtain rfl : j = M 27 - (e + 1) := by omega
    refine j_iload (n := 46) dX11_likes_44 rfl rfl ?_
    refine j_aload_n (n := 47) dX11_likes_46 rfl rfl ?_
    refine j_get (n := 50) 0 dX11_likes_47 f_X11_190 rfl rfl rfl ?_
    rw [e27]
    refine j_icmp_ge (n := 53) 169 dX11_likes_50 (by decide) rfl (fun c => ?_) (fun c => ?_)
    · refine j_keep [0, 1, 2, 3] rfl ?_
      exact hk M' R' hX
    · exact absurd (nI_le (show M 27 ≤ e + 1 + (M 27 - (e + 1)) by omega) (by omega)) c
  | succ k ih =>
    intro j hj M' R' hX
    have e27 : M' 27 = M 27 := hX.1 27 (by omega) (by omega) (by omega)
    have er : ∀ i, i ≠ 13 → i ≠ 14 → i ≠ 15 → i ≠ 27 → i ≠ 28 → i ≠ 29 → R' i = R i := hX.2.1
    have e19 : R' 19 = R 19 := er 19 (by omega) (by omega) (by omega) (by omega) (by omega) (by omega)
    have e20 : R' 20 = R 20 := er 20 (by omega) (by omega) (by omega) (by omega) (by omega) (by omega)
    have e21 : R' 21 = R 21 := er 21 (by omega) (by omega) (by omega) (by omega) (by omega) (by omega)
    have e2 : R' 2 = R 2 := er 2 (by omega) (by omega) (by omega) (by omega) (by omega) (by omega)
    have e11 : R' 11 = R 11 := er 11 (by omega) (by omega) (by omega) (by omega) (by omega) (by omega)
    have e12 : R' 12 = R 12 := er 12 (by omega) (by omega) (by omega) (by omega) (by omega) (by omega)
    obtain ⟨hI', eC⟩ := hI.cg (hX.1 4 (by omega) (by omega) (by omega)) (hX.1 8 (by omega) (by omega) (by omega)) (fun i a b => er i (by omega) (by omega) (by omega) (by omega) (by omega) (by omega))
    obtain ⟨hx1, -⟩ := hE.2 e he
    obtain ⟨hx2, -⟩ := hE.2 (e + 1 + j) (by omega)
    have hD : BD (dst (rCT M R) (R 2) (el e) (et e) (el (e + 1 + j)) (et (e + 1 + j))) := BD_dst hok hx1.2.1
    have hun : piS (rCT M R) (R 2) (R 19) (R 20) (R 21) el et (rf g) e s (j + 1) = if ¬ R 21 (e + 1 + j) = 0 ∧ R 19 (e + 1 + j) = R 19 e ∧ ¬ R 20 (e + 1 + j) = R 20 e then (match lmt (rf g) (dst (rCT M R) (R 2) (el e) (et e) (el (e + 1 + j)) (et (e + 1 + j))) with
      | some v => pAdd (piS (rCT M R) (R 2) (R 19) (R 20) (R 21) el et (rf g) e s j) e (e + 1 + j) v
      | none => piS (rCT M R) (R 2) (R 19) (R 20) (R 21) el et (rf g) e s j) else piS (rCT M R) (R 2) (R 19) (R 20) (R 21) el et (rf g) e s j := rfl
    have ih := ih (j + 1) (by omega)
    rw [hun, her, show e + 1 + (j + 1) = e + 1 + j + 1 by omega] at ih
    clear hun
    generalize piS (rCT M R) (R 2) (R 19) (R 20) (R 21) el et (rf g) e s j = s1 at ih hX
    have ho : e + 1 + j < M 27 := by omega
    generalize e + 1 + j = o at ih hD hx2 ho
    refine j_iload (n := 46) dX11_likes_44 rfl rfl ?_
    refine j_aload_n (n := 47) dX11_likes_46 rfl rfl ?_
    refine j_get (n := 50) 0 dX11_likes_47 f_X11_190 rfl rfl rfl ?_
    rw [e27]
    refine j_icmp_ge (n := 53) 169 dX11_likes_50 (by decide) rfl (fun c => ?_) (fun c => ?_)
    · exact absurd c (nI_ge ho (by omega))
    · refine j_aload_n (n := 54) dX11_likes_53 rfl rfl ?_
      refine j_iload (n := 56) dX11_likes_54 rfl rfl ?_
      refine j_iload_n (n := 57) dX11_likes_56 rfl rfl ?_
      refine j_callVe (n := 60) (Y1 := Y_X11_isIn) 0 dX11_likes_57 m_X11_193 cy_X11_isIn ci_X11_isIn (r_isIn (e := o) (q := nI g) (by omega)) rfl rfl rfl rfl rfl (by omega) (by omega) (by omega) (Nat.le_of_ble_eq_true rfl) ?_
      rw [e19, e21]
      refine j_if_eq (n := 63) 163 dX11_likes_60 (by decide) rfl (fun c1 => ?_) (fun c1 => ?_)
      · have hf : ¬ (¬ R 21 o = 0 ∧ R 19 o = nI g ∧ ¬ R 20 o = R 20 e) := by
          intro h
          have := b01_0 c1
          rw [decide_eq_true h.1, decide_eq_true h.2.1] at this
          cases this
        rw [if_neg hf] at ih
        refine j_iinc (n := 166) (nI (o + 1)) dX11_likes_163 rfl rfl (nI_inc o) (by decide) ?_
        refine j_goto 44 dX11_likes_166 (by decide) ?_
        exact ih M' R' hX
      · have c1 := b01_n0 c1
        have d1 : ¬ R 21 o = 0 ∧ R 19 o = nI g := by simpa using c1
        refine j_aload_n (n := 64) dX11_likes_63 rfl rfl ?_
        refine j_get (n := 67) 0 dX11_likes_64 f_X11_73 rfl rfl rfl ?_
        refine j_iload (n := 69) dX11_likes_67 rfl rfl ?_
        refine j_iald (n := 70) 20 o dX11_likes_69 rfl rfl rfl (by omega) (by omega) ?_
        refine j_top (R 20 o) (by rw [← e20]) ?_
        refine j_aload_n (n := 71) dX11_likes_70 rfl rfl ?_
        refine j_get (n := 74) 0 dX11_likes_71 f_X11_73 rfl rfl rfl ?_
        refine j_iload_n (n := 75) dX11_likes_74 rfl rfl ?_
        refine j_iald (n := 76) 20 e dX11_likes_75 rfl rfl rfl (by omega) (by omega) ?_
        refine j_top (R 20 e) (by rw [← e20]) ?_
        refine j_icmp_ne (n := 79) 82 dX11_likes_76 (by decide) rfl (fun c2 => ?_) (fun c2 => ?_)
        · rw [if_pos ⟨d1.1, d1.2, c2⟩] at ih
          refine j_aload_n (n := 83) dX11_likes_82 rfl rfl ?_
          refine j_iload_n (n := 84) dX11_likes_83 rfl rfl ?_
          refine j_iload (n := 86) dX11_likes_84 rfl rfl ?_
          refine j_callVi (n := 89) (Y1 := Y_X11_reckon) 0 dX11_likes_86 m_X11_199 cy_X11_reckon ci_X11_reckon (r_reckon hI' (k1 := e) (k2 := o) (by omega) (by omega) (hx1.cg e11 e12) (hx2.cg e11 e12)) rfl rfl rfl rfl rfl (by omega) (by omega) (by omega) (Nat.le_of_ble_eq_true rfl) (fun z w hh => ?_)
          obtain ⟨rfl, M2, R2, rfl, hS, -⟩ := hh
          have hX2 := hX.sc hS.2.2.2.2
          have q16 : R2 16 g = nI (rf g) := by rw [hX2.2.1 16 (by omega) (by omega) (by omega) (by omega) (by omega) (by omega)]; exact hrf
          have h41 := hX2.2.2.1
          rw [eC, e2]
          obtain ⟨w1, w2⟩ := lmt_c hD hlm
          refine j_istore (n := 91) dX11_likes_89 rfl (by decide) ?_
          refine j_iload (n := 93) dX11_likes_91 rfl rfl ?_
          refine j_aload_n (n := 94) dX11_likes_93 rfl rfl ?_
          refine j_get (n := 97) 0 dX11_likes_94 f_X11_60 rfl rfl rfl ?_
          refine j_iload_n (n := 98) dX11_likes_97 rfl rfl ?_
          refine j_iald (n := 99) 16 g dX11_likes_98 rfl rfl rfl (by omega) (by omega) ?_
          refine j_top _ q16 ?_
          refine j_icmp_le (n := 102) 105 dX11_likes_99 (by decide) rfl (fun c3 => ?_) (fun c3 => ?_)
          · obtain ⟨v, v1, v2, v3⟩ := w1 c3
            rw [v3] at ih
            rw [v2]
            dsimp only at ih
            have ih := fun M' R' h => ih M' R' h
            rw [show (pAdd s1 e o v).1 = s1.1 + 1 from rfl] at ih
            refine j_iinc (n := 108) (nI (s1.1 + 1)) dX11_likes_105 rfl rfl (nI_inc s1.1) (by decide) ?_
            refine j_aload_n (n := 109) dX11_likes_108 rfl rfl ?_
            refine j_get (n := 112) 0 dX11_likes_109 f_X11_214 rfl rfl rfl ?_
            refine j_sipush (n := 115) (1000) dX11_likes_112 rfl (by decide) ?_
            refine j_icmp_ne (n := 118) 121 dX11_likes_115 (by decide) rfl (fun c4 => ?_) (fun c4 => ?_)
            · have hm : ¬ M2 41 = 1000 := fun q => c4 (show nI (M2 41) = nI 1000 by rw [q])
              refine j_aload_n (n := 122) dX11_likes_121 rfl rfl ?_
              refine j_get (n := 125) 0 dX11_likes_122 f_X11_94 rfl rfl rfl ?_
              refine j_aload_n (n := 126) dX11_likes_125 rfl rfl ?_
              refine j_get (n := 129) 0 dX11_likes_126 f_X11_214 rfl rfl rfl ?_
              refine j_iload_n (n := 130) dX11_likes_129 rfl rfl ?_
              refine j_iast (n := 131) 27 (M2 41) dX11_likes_130 rfl rfl rfl (by omega) (by omega) ?_
              refine j_ws (ws' := rW G A M2 Z (va_up R2 27 (upd (R2 27) (M2 41) (nI e))) P) rfl ?_
              refine j_nmR (fun R3 a1 a2 => ?_)
              refine j_aload_n (n := 132) dX11_likes_131 rfl rfl ?_
              refine j_get (n := 135) 0 dX11_likes_132 f_X11_97 rfl rfl rfl ?_
              refine j_aload_n (n := 136) dX11_likes_135 rfl rfl ?_
              refine j_get (n := 139) 0 dX11_likes_136 f_X11_214 rfl rfl rfl ?_
              refine j_iload (n := 141) dX11_likes_139 rfl rfl ?_
              refine j_iast (n := 142) 28 (M2 41) dX11_likes_141 rfl rfl rfl (by omega) (by omega) ?_
              refine j_ws (ws' := rW G A M2 Z (va_up R3 28 (upd (R3 28) (M2 41) (nI o))) P) rfl ?_
              refine j_nmR (fun R4 b1 b2 => ?_)
              refine j_aload_n (n := 143) dX11_likes_142 rfl rfl ?_
              refine j_get (n := 146) 0 dX11_likes_143 f_X11_100 rfl rfl rfl ?_
              refine j_aload_n (n := 147) dX11_likes_146 rfl rfl ?_
              refine j_get (n := 150) 0 dX11_likes_147 f_X11_214 rfl rfl rfl ?_
              refine j_iload (n := 152) dX11_likes_150 rfl rfl ?_
              refine j_iast (n := 153) 29 (M2 41) dX11_likes_152 rfl rfl rfl (by omega) (by omega) ?_
              refine j_ws (ws' := rW G A M2 Z (va_up R4 29 (upd (R4 29) (M2 41) (nI v))) P) rfl ?_
              refine j_nmR (fun R5 d1 d2 => ?_)
              refine j_aload_n (n := 154) dX11_likes_153 rfl rfl ?_
              refine j_dup (n := 155) dX11_likes_154 rfl rfl ?_
              refine j_get (n := 158) 0 dX11_likes_155 f_X11_214 rfl rfl rfl ?_
              refine j_iconst (n := 159) (1) dX11_likes_158 rfl (by decide) ?_
              refine j_iadd (n := 160) dX11_likes_159 rfl ?_
              refine j_top (nI (M2 41 + 1)) (nI_inc _) ?_
              refine j_put (n := 163) 0 dX11_likes_160 f_X11_214 rfl rfl rfl (Nat.le_of_ble_eq_true rfl) rfl rfl ?_
              refine j_ws (ws' := rW G A (va_up M2 41 (M2 41 + 1)) Z R5 P) rfl ?_
              refine j_nmM (fun M3 n1 n2 => ?_)
              refine j_iinc (n := 166) (nI (o + 1)) dX11_likes_163 rfl rfl (nI_inc o) (by decide) ?_
              refine j_goto 44 dX11_likes_166 (by decide) ?_
              refine j_keep [0, 1, 2, 3, 4] rfl ?_
              refine ih M3 R5 ⟨fun i x y z => by rw [n1 i z]; exact hX2.1 i x y z, fun i x y z x' y' z' => by rw [d1 i z', b1 i y', a1 i x']; exact hX2.2.1 i x y z x' y' z', ?_⟩
              have g27 : R5 27 = upd (R2 27) (M2 41) (nI e) := by rw [d1 27 (by omega), b1 27 (by omega), a2]
              have g28 : R5 28 = upd (R2 28) (M2 41) (nI o) := by rw [d1 28 (by omega), b2, a1 28 (by omega)]
              have g29 : R5 29 = upd (R2 29) (M2 41) (nI v) := by rw [d2, b1 29 (by omega), a1 29 (by omega)]
              rw [n2, g27, g28, g29]
              exact hX2.2.2.add (by omega) (by omega) (by omega) hm
            · have hm : M2 41 = 1000 := (nI_eq (by omega) (by omega)).mp (show nI (M2 41) = nI 1000 from c4)
              refine j_goto 163 dX11_likes_118 (by decide) ?_
              refine j_iinc (n := 166) (nI (o + 1)) dX11_likes_163 rfl rfl (nI_inc o) (by decide) ?_
              refine j_goto 44 dX11_likes_166 (by decide) ?_
              refine j_keep [0, 1, 2, 3, 4] rfl ?_
              exact ih M2 R2 ⟨hX2.1, hX2.2.1, hX2.2.2.full hm⟩
          · rw [w2 c3] at ih
            refine j_goto 163 dX11_likes_102 (by decide) ?_
            refine j_iinc (n := 166) (nI (o + 1)) dX11_likes_163 rfl rfl (nI_inc o) (by decide) ?_
            refine j_goto 44 dX11_likes_166 (by decide) ?_
            refine j_keep [0, 1, 2, 3, 4] rfl ?_
            exact ih M2 R2 hX2
        · rw [if_neg (fun h => h.2.2 c2)] at ih
          refine j_goto 163 dX11_likes_79 (by decide) ?_
          refine j_iinc (n := 166) (nI (o + 1)) dX11_likes_163 rfl rfl (nI_inc o) (by decide) ?_
          refine j_goto 44 dX11_likes_166 (by decide) ?_
          exact ih M' R' hX
theorem lk_out {g : Nat} {p0 : Nat → Int32} (hI : RNI M R) (hE : RET M R el et) (hg : g < 4) (hrf : R 16 g = nI (rf g)) (hlm : rf g ≤ 200)
    (hk : ∀ (M' : Nat → Nat) (R' : Nat → Nat → Int32), LKX M R (poS (rCT M R) (R 2) (R 19) (R 20) (R 21) el et (M 27) (nI g) (rf g) p0 (M 27)) M' R' → JJ G Y_X11_likes 3 0 0 post 175 [(0, .ref (A 0)), (2, .int (nI (poS (rCT M R) (R 2) (R 19) (R 20) (R 21) el et (M 27) (nI g) (rf g) p0 (M 27)).1))] [] (rW G A M' Z R' P) 0 0) :
    ∀ (k i : Nat), i + k = M 27 → ∀ (M' : Nat → Nat) (R' : Nat → Nat → Int32), LKX M R (poS (rCT M R) (R 2) (R 19) (R 20) (R 21) el et (M 27) (nI g) (rf g) p0 i) M' R' → JJ G Y_X11_likes 3 0 0 post 19 [(0, .ref (A 0)), (1, .int (nI g)), (2, .int (nI (poS (rCT M R) (R 2) (R 19) (R 20) (R 21) el et (M 27) (nI g) (rf g) p0 i).1)), (3, .int (nI i))] [] (rW G A M' Z R' P) 0 0 := by
  have h27 := hE.1
  intro k
  induction k with
  | zero =>
    intro i hi M' R' hX
    obtain rfl : i = M 27 := by omega
    have e27 : M' 27 = M 27 := hX.1 27 (by omega) (by omega) (by omega)
    refine j_iload_n (n := 20) dX11_likes_19 rfl rfl ?_
    refine j_aload_n (n := 21) dX11_likes_20 rfl rfl ?_
    refine j_get (n := 24) 0 dX11_likes_21 f_X11_190 rfl rfl rfl ?_
    rw [e27]
    refine j_icmp_ge (n := 27) 175 dX11_likes_24 (by decide) rfl (fun c => ?_) (fun c => ?_)
    · refine j_keep [0, 2] rfl ?_
      exact hk M' R' hX
    · exact absurd (nI_le (Nat.le_refl _) (by omega)) c
  | succ k ih =>
    intro i hi M' R' hX
    have e27 : M' 27 = M 27 := hX.1 27 (by omega) (by omega) (by omega)
    have e19 : R' 19 = R 19 := hX.2.1 19 (by omega) (by omega) (by omega) (by omega) (by omega) (by omega)
    have e21 : R' 21 = R 21 := hX.2.1 21 (by omega) (by omega) (by omega) (by omega) (by omega) (by omega)
    have hun : poS (rCT M R) (R 2) (R 19) (R 20) (R 21) el et (M 27) (nI g) (rf g) p0 (i + 1) = if ¬ R 21 i = 0 ∧ R 19 i = nI g then piS (rCT M R) (R 2) (R 19) (R 20) (R 21) el et (rf g) i (poS (rCT M R) (R 2) (R 19) (R 20) (R 21) el et (M 27) (nI g) (rf g) p0 i) (M 27 - (i + 1)) else poS (rCT M R) (R 2) (R 19) (R 20) (R 21) el et (M 27) (nI g) (rf g) p0 i := rfl
    have ih := ih (i + 1) (by omega)
    rw [hun] at ih
    refine j_iload_n (n := 20) dX11_likes_19 rfl rfl ?_
    refine j_aload_n (n := 21) dX11_likes_20 rfl rfl ?_
    refine j_get (n := 24) 0 dX11_likes_21 f_X11_190 rfl rfl rfl ?_
    rw [e27]
    refine j_icmp_ge (n := 27) 175 dX11_likes_24 (by decide) rfl (fun c => ?_) (fun c => ?_)
    · exact absurd c (nI_ge (show i < M 27 by omega) (by omega))
    · refine j_aload_n (n := 28) dX11_likes_27 rfl rfl ?_
      refine j_iload_n (n := 29) dX11_likes_28 rfl rfl ?_
      refine j_iload_n (n := 30) dX11_likes_29 rfl rfl ?_
      refine j_callVe (n := 33) (Y1 := Y_X11_isIn) 0 dX11_likes_30 m_X11_193 cy_X11_isIn ci_X11_isIn (r_isIn (e := i) (q := nI g) (by omega)) rfl rfl rfl rfl rfl (by omega) (by omega) (by omega) (Nat.le_of_ble_eq_true rfl) ?_
      rw [e19, e21]
      refine j_if_ne (n := 36) 39 dX11_likes_33 (by decide) rfl (fun c1 => ?_) (fun c1 => ?_)
      · have c1 := b01_n0 c1
        have d1 : ¬ R 21 i = 0 ∧ R 19 i = nI g := by simpa using c1
        rw [if_pos d1] at ih
        refine j_iload_n (n := 40) dX11_likes_39 rfl rfl ?_
        refine j_iconst (n := 41) (1) dX11_likes_40 rfl (by decide) ?_
        refine j_iadd (n := 42) dX11_likes_41 rfl ?_
        refine j_top (nI (i + 1 + 0)) (nI_1 i) ?_
        refine j_istore (n := 44) dX11_likes_42 rfl (by decide) ?_
        refine lk_in hI hE hg hrf hlm (by omega) d1.2 (fun M2 R2 hX2 => ?_) (M 27 - (i + 1)) 0 (by omega) M' R' hX
        refine j_iinc (n := 172) (nI (i + 1)) dX11_likes_169 rfl rfl (nI_inc i) (by decide) ?_
        refine j_goto 19 dX11_likes_172 (by decide) ?_
        exact ih M2 R2 hX2
      · have hf : ¬ (¬ R 21 i = 0 ∧ R 19 i = nI g) := by
          intro h
          have := b01_0 c1
          rw [decide_eq_true h.1, decide_eq_true h.2] at this
          cases this
        rw [if_neg hf] at ih
        refine j_goto 169 dX11_likes_36 (by decide) ?_
        refine j_iinc (n := 172) (nI (i + 1)) dX11_likes_169 rfl rfl (nI_inc i) (by decide) ?_
        refine j_goto 19 dX11_likes_172 (by decide) ?_
        exact ih M' R' hX
theorem r_likes {q : Int32} {s : LT2} (hI : RNI M R) (hE : RET M R el et) (hG : RRG R rf rw rs) (hb : RBD rf rw) (hS : LKI s (M 41) (R 27) (R 28) (R 29)) : JM G Y_X11_likes 3 0 0 [.ref (A 0), .int q] (rW G A M Z R P) (Qi (fun r u => r = (lkA (rCT M R) (R 2) (M 27) (R 19) (R 20) (R 21) el et rf q s).1 ∧ ∃ (M' : Nat → Nat) (R' : Nat → Nat → Int32), u = rW G A M' Z R' P ∧ LKX M R (lkA (rCT M R) (R 2) (M 27) (R 19) (R 20) (R 21) el et rf q s).2 M' R')) := by
  unfold lkA
  refine JM.of [(0, .ref (A 0)), (1, .int q)] rfl rfl (by simp) (Nat.le_of_ble_eq_true rfl) (by decide +kernel) ?_
  refine j_iload_n (n := 1) dX11_likes_0 rfl rfl ?_
  refine j_callSe (n := 4) (Y1 := Y_X11_isRegister) dX11_likes_1 m_X11_187 cy_X11_isRegister cs_X11_isRegister (r_isRegister) rfl rfl rfl (by omega) (by omega) (by omega) (Nat.le_of_ble_eq_true rfl) ?_
  rw [btw_03]
  refine j_if_ne (n := 7) 10 dX11_likes_4 (by decide) rfl (fun c => ?_) (fun c => ?_)
  · have c := of_decide_eq_true (b01_n0 c)
    rw [if_neg c]
    rcases ix3 q (n := 4) (by omega) with h | h | ⟨g, hg, rfl⟩
    · exact absurd (Or.inl h) c
    · exact absurd (Or.inr (show 4 ≤ q from h)) c
    · rw [nI_clamp (show g < 2 ^ 31 by omega)]
      have hb' := hb g hg
      refine j_iconst (n := 11) (0) dX11_likes_10 rfl (by decide) ?_
      refine j_istore_n (n := 12) dX11_likes_11 rfl (by decide) ?_
      refine j_aload_n (n := 13) dX11_likes_12 rfl rfl ?_
      refine j_iconst (n := 14) (0) dX11_likes_13 rfl (by decide) ?_
      refine j_put (n := 17) 0 dX11_likes_14 f_X11_214 rfl rfl rfl (Nat.le_of_ble_eq_true rfl) rfl rfl ?_
      refine j_ws (ws' := rW G A (va_up M 41 0) Z R P) rfl ?_
      refine j_nmM (fun M1 n1 n2 => ?_)
      refine j_iconst (n := 18) (0) dX11_likes_17 rfl (by decide) ?_
      refine j_istore_n (n := 19) dX11_likes_18 rfl (by decide) ?_
      refine lk_out (p0 := s.2) hI hE hg (hG g hg).1 (by omega) (fun M' R' hX => ?_) (M 27) 0 (by omega) M1 R ⟨fun i a b c => n1 i c, fun _ _ _ _ _ _ _ => rfl, by rw [n2]; rfl, fun j hj => by rw [n2] at hj; omega⟩
      refine j_iload_n (n := 176) dX11_likes_175 rfl rfl ?_
      exact j_iret dX11_likes_176 rfl rfl (by omega) (by omega) (⟨rfl, M', R', rfl, hX⟩)
  · have c := Decidable.not_not.mp (of_decide_eq_false (b01_0 c))
    rw [if_pos c]
    refine j_bipush (n := 9) (-2) dX11_likes_7 rfl (by decide) ?_
    exact j_iret dX11_likes_9 rfl rfl (by omega) (by omega) (⟨rfl, M, R, rfl, fun _ _ _ _ => rfl, fun _ _ _ _ _ _ _ => rfl, hS⟩)
end RN

/-! the reference: makeNodes, chainOf, chain -/
section R7
variable {G : GT} {A M : Nat → Nat} {Z : Nat → Int32} {R : Nat → Nat → Int32} {P ws : va_W}
theorem nR_78 {o t c o1 t1 : Nat → Int32} : va_up (va_up (nR R o t c) 7 o1) 8 t1 = nR R o1 t1 c := by
  funext j
  show (if j = 8 then t1 else if j = 7 then o1 else if j = 9 then c else if j = 8 then t else if j = 7 then o else R j) = if j = 9 then c else if j = 8 then t1 else if j = 7 then o1 else R j
  by_cases h9 : j = 9
  · subst h9; rfl
  · by_cases h8 : j = 8
    · subst h8; rfl
    · by_cases h7 : j = 7
      · subst h7; rfl
      · rw [if_neg h8, if_neg h7, if_neg h9, if_neg h8, if_neg h7, if_neg h9, if_neg h8, if_neg h7]
theorem rW_n {o t c o1 t1 : Nat → Int32} {a b : Nat} : rW G A (va_up (va_up M 8 a) 8 b) Z (va_up (va_up (nR R o t c) 7 o1) 8 t1) P = rW G A (va_up M 8 b) Z (nR R o1 t1 c) P := by rw [va_up_up, nR_78]
theorem mk_w {o t c : Nat → Int32} {m i a b cc : Nat} {post : OT} (hi : i < 60) (p4 : R 6 i = nI cc) (a1 : a < 120) (b1 : b < 120)
    (hk : JJ G Y_X11_makeNodes 2 0 0 post 84 [(0, .ref (A 0)), (1, .int (nI (i + 1)))] [] (rW G A (va_up M 8 m) Z (nR R o t (upd (upd c (120 * a + b) (nI cc)) (120 * b + a) (nI cc))) P) 0 0) :
    JJ G Y_X11_makeNodes 2 0 0 post 114 [(0, .ref (A 0)), (1, .int (nI i)), (2, .int (nI a)), (3, .int (nI b))] [] (rW G A (va_up M 8 m) Z (nR R o t c) P) 0 0 := by
  refine j_aload_n (n := 115) dX11_makeNodes_114 rfl rfl ?_
  refine j_get (n := 118) 0 dX11_makeNodes_115 f_X11_35 rfl rfl rfl ?_
  refine j_bipush (n := 120) (120) dX11_makeNodes_118 rfl (by decide) ?_
  refine j_iload_n (n := 121) dX11_makeNodes_120 rfl rfl ?_
  refine j_imul (n := 122) dX11_makeNodes_121 rfl ?_
  refine j_iload_n (n := 123) dX11_makeNodes_122 rfl rfl ?_
  refine j_iadd (n := 124) dX11_makeNodes_123 rfl ?_
  refine j_aload_n (n := 125) dX11_makeNodes_124 rfl rfl ?_
  refine j_get (n := 128) 0 dX11_makeNodes_125 f_X11_26 rfl rfl rfl ?_
  refine j_iload_n (n := 129) dX11_makeNodes_128 rfl rfl ?_
  refine j_iald (n := 130) 6 i dX11_makeNodes_129 rfl rfl rfl (by omega) (by omega) ?_
  refine j_top (nI cc) p4 ?_
  refine j_iast (n := 131) 9 (120 * a + b) dX11_makeNodes_130 rfl rfl (r120 a b) (by omega) (by omega) ?_
  refine j_ws (ws' := rW G A (va_up M 8 m) Z (nR R o t (upd c (120 * a + b) (nI cc))) P) rfl ?_
  generalize upd c (120 * a + b) (nI cc) = c1 at hk ⊢
  refine j_aload_n (n := 132) dX11_makeNodes_131 rfl rfl ?_
  refine j_get (n := 135) 0 dX11_makeNodes_132 f_X11_35 rfl rfl rfl ?_
  refine j_bipush (n := 137) (120) dX11_makeNodes_135 rfl (by decide) ?_
  refine j_iload_n (n := 138) dX11_makeNodes_137 rfl rfl ?_
  refine j_imul (n := 139) dX11_makeNodes_138 rfl ?_
  refine j_iload_n (n := 140) dX11_makeNodes_139 rfl rfl ?_
  refine j_iadd (n := 141) dX11_makeNodes_140 rfl ?_
  refine j_aload_n (n := 142) dX11_makeNodes_141 rfl rfl ?_
  refine j_get (n := 145) 0 dX11_makeNodes_142 f_X11_26 rfl rfl rfl ?_
  refine j_iload_n (n := 146) dX11_makeNodes_145 rfl rfl ?_
  refine j_iald (n := 147) 6 i dX11_makeNodes_146 rfl rfl rfl (by omega) (by omega) ?_
  refine j_top (nI cc) p4 ?_
  refine j_iast (n := 148) 9 (120 * b + a) dX11_makeNodes_147 rfl rfl (r120 b a) (by omega) (by omega) ?_
  refine j_ws (ws' := rW G A (va_up M 8 m) Z (nR R o t (upd c1 (120 * b + a) (nI cc))) P) rfl ?_
  refine j_iinc (n := 151) (nI (i + 1)) dX11_makeNodes_148 rfl rfl (nI_inc i) (by decide) ?_
  refine j_goto 84 dX11_makeNodes_151 (by decide) ?_
  refine j_keep [0, 1] rfl ?_
  exact hk
theorem mk_c (hok : CTok (rCT M R)) :
    ∀ (k i : Nat), i + k = M 4 → ∀ o t c : Nat → Int32, NDI o t (ndS (rCT M R) i) → MX 1000000 120 120 c (dS (rCT M R) (nd (rCT M R)) i) → JJ G Y_X11_makeNodes 2 0 0 (RP G A M Z R P) 84 [(0, .ref (A 0)), (1, .int (nI i))] [] (rW G A (va_up M 8 (ndS (rCT M R) i).2) Z (nR R o t c) P) 0 0 := by
  have h60 : M 4 ≤ 60 := hok.1
  have hnl := nd_le hok
  intro k
  induction k with
  | zero =>
    intro i hi o t c hN hc
    obtain rfl : i = M 4 := by omega
    refine j_iload_n (n := 85) dX11_makeNodes_84 rfl rfl ?_
    refine j_aload_n (n := 86) dX11_makeNodes_85 rfl rfl ?_
    refine j_get (n := 89) 0 dX11_makeNodes_86 f_X11_117 rfl rfl rfl ?_
    refine j_icmp_ge (n := 92) 154 dX11_makeNodes_89 (by decide) rfl (fun c1 => ?_) (fun c1 => ?_)
    · refine j_iconst (n := 155) (0) dX11_makeNodes_154 rfl (by decide) ?_
      refine j_istore_n (n := 156) dX11_makeNodes_155 rfl (by decide) ?_
      exact mk_b hok hN (nd (rCT M R)).2 0 (by omega) c (fun i j hi hj => hc i j (by omega) (by omega))
    · exact absurd (show nI (M 4) ≤ nI (M 4) from nI_le (Nat.le_refl _) (by omega)) c1
  | succ k ih =>
    intro i hi o t c hN hc
    have ih := ih (i + 1) (by omega)
    obtain ⟨p1, p2, p3, cc, hcc, p4⟩ := hok.2 i (show i < M 4 by omega)
    have p1 : pcB (R 4 i) = true := p1
    have p2 : pcB (R 5 i) = true := p2
    have p4 : R 6 i = nI cc := p4
    obtain ⟨n1, e1, k1⟩ := pcN_of p1
    obtain ⟨n2, e2, k2⟩ := pcN_of p2
    have hle := ndS_le (rCT M R) i
    have hle1 := ndAdd_le (R 4 i) (ndS (rCT M R) i)
    have in1 := ndAdd_in (R 4 i) (ndS (rCT M R) i) (by omega)
    have in1' := ndAdd_keep (x := R 5 i) in1
    have in2 := ndAdd_in (R 5 i) (ndAdd (R 4 i) (ndS (rCT M R) i)) (by omega)
    have hs1 : ndS (rCT M R) (i + 1) = ndAdd (R 5 i) (ndAdd (R 4 i) (ndS (rCT M R) i)) := rfl
    have kp := idx_keep (y := R 5 i) in1 (by omega)
    rw [← hs1] at in1' in2 kp
    obtain ⟨f1, f2⟩ := idx_ndS (C := rCT M R) in1' (M 4 - (i + 1)) (by omega)
    obtain ⟨g1, g2⟩ := idx_ndS (C := rCT M R) in2 (M 4 - (i + 1)) (by omega)
    rw [show i + 1 + (M 4 - (i + 1)) = M 4 by omega] at f1 f2 g1 g2
    obtain ⟨a1, -, a3⟩ := iN_lt (q := nd (rCT M R)) hnl f1
    obtain ⟨b1, -, b3⟩ := iN_lt (q := nd (rCT M R)) hnl g1
    have r1 : idxF (ndAdd (R 4 i) (ndS (rCT M R) i)).1 (R 4 i) (ndAdd (R 4 i) (ndS (rCT M R) i)).2 = nI (iN (nd (rCT M R)) (R 4 i)) := by rw [← kp, ← f2]; exact a3
    have r2 : idxF (ndS (rCT M R) (i + 1)).1 (R 5 i) (ndS (rCT M R) (i + 1)).2 = nI (iN (nd (rCT M R)) (R 5 i)) := by rw [← g2]; exact b3
    have hds : dS (rCT M R) (nd (rCT M R)) (i + 1) = up2 (up2 (dS (rCT M R) (nd (rCT M R)) i) (iN (nd (rCT M R)) (R 4 i)) (iN (nd (rCT M R)) (R 5 i)) (some cc)) (iN (nd (rCT M R)) (R 5 i)) (iN (nd (rCT M R)) (R 4 i)) (some cc) := by
      show up2 (up2 _ _ _ (some (R 6 i).toNatClampNeg)) _ _ (some (R 6 i).toNatClampNeg) = _
      rw [p4, nI_clamp (by omega)]
    have hc2 := (hc.put (a := iN (nd (rCT M R)) (R 4 i)) (b := iN (nd (rCT M R)) (R 5 i)) (Nat.le_refl 120) (by omega) (show nI cc = ec 1000000 (some cc) from rfl)).put (a := iN (nd (rCT M R)) (R 5 i)) (b := iN (nd (rCT M R)) (R 4 i)) (Nat.le_refl 120) (by omega) (show nI cc = ec 1000000 (some cc) from rfl)
    rw [← hds] at hc2
    generalize iN (nd (rCT M R)) (R 4 i) = a at a1 r1 hc2
    generalize iN (nd (rCT M R)) (R 5 i) = b at b1 r2 hc2
    refine j_iload_n (n := 85) dX11_makeNodes_84 rfl rfl ?_
    refine j_aload_n (n := 86) dX11_makeNodes_85 rfl rfl ?_
    refine j_get (n := 89) 0 dX11_makeNodes_86 f_X11_117 rfl rfl rfl ?_
    refine j_icmp_ge (n := 92) 154 dX11_makeNodes_89 (by decide) rfl (fun c1 => ?_) (fun c1 => ?_)
    · exact absurd (show nI (M 4) ≤ nI i from c1) (nI_ge (show i < M 4 by omega) (by omega))
    · refine j_aload_n (n := 93) dX11_makeNodes_92 rfl rfl ?_
      refine j_aload_n (n := 94) dX11_makeNodes_93 rfl rfl ?_
      refine j_get (n := 97) 0 dX11_makeNodes_94 f_X11_20 rfl rfl rfl ?_
      refine j_iload_n (n := 98) dX11_makeNodes_97 rfl rfl ?_
      refine j_iald (n := 99) 4 i dX11_makeNodes_98 rfl rfl rfl (by omega) (by omega) ?_
      have con1 := r_node (G := G) (A := A) (M := va_up M 8 (ndS (rCT M R) i).2) (Z := Z) (R := nR R o t c) (P := P) (q := ndS (rCT M R) i) k1 hN rfl (by omega)
      rw [← e1] at con1
      refine j_callVi (n := 102) (Y1 := Y_X11_node) 0 dX11_makeNodes_99 m_X11_135 cy_X11_node ci_X11_node (con1) rfl rfl rfl rfl rfl (by omega) (by omega) (by omega) (Nat.le_of_ble_eq_true rfl) (fun z w h => ?_)
      obtain ⟨rfl, o1, t1, rfl, hN1⟩ := h
      refine j_top (nI a) r1 ?_
      refine j_ws (ws' := rW G A (va_up M 8 (ndAdd (R 4 i) (ndS (rCT M R) i)).2) Z (nR R o1 t1 c) P) rW_n ?_
      refine j_istore_n (n := 103) dX11_makeNodes_102 rfl (by decide) ?_
      refine j_aload_n (n := 104) dX11_makeNodes_103 rfl rfl ?_
      refine j_aload_n (n := 105) dX11_makeNodes_104 rfl rfl ?_
      refine j_get (n := 108) 0 dX11_makeNodes_105 f_X11_23 rfl rfl rfl ?_
      refine j_iload_n (n := 109) dX11_makeNodes_108 rfl rfl ?_
      refine j_iald (n := 110) 5 i dX11_makeNodes_109 rfl rfl rfl (by omega) (by omega) ?_
      have con2 := r_node (G := G) (A := A) (M := va_up M 8 (ndAdd (R 4 i) (ndS (rCT M R) i)).2) (Z := Z) (R := nR R o1 t1 c) (P := P) (q := ndAdd (R 4 i) (ndS (rCT M R) i)) k2 hN1 rfl (by omega)
      rw [← e2, ← hs1] at con2
      refine j_callVi (n := 113) (Y1 := Y_X11_node) 0 dX11_makeNodes_110 m_X11_135 cy_X11_node ci_X11_node (con2) rfl rfl rfl rfl rfl (by omega) (by omega) (by omega) (Nat.le_of_ble_eq_true rfl) (fun z w h => ?_)
      obtain ⟨rfl, o2, t2, rfl, hN2⟩ := h
      refine j_top (nI b) r2 ?_
      refine j_ws (ws' := rW G A (va_up M 8 (ndS (rCT M R) (i + 1)).2) Z (nR R o2 t2 c) P) rW_n ?_
      refine j_istore_n (n := 114) dX11_makeNodes_113 rfl (by decide) ?_
      exact mk_w (by omega) p4 (by omega) (by omega) (ih o2 t2 _ hN2 hc2)
theorem mk_3 (hok : CTok (rCT M R)) {o t : Nat → Int32} (ho : ∀ j, j < 94 → o j = -1) (ht : ∀ j, j < 8836 → t j = -1) :
    ∀ (k i : Nat), i + k = 14400 → ∀ c : Nat → Int32, (∀ j, j < i → c j = if j % 121 = 0 then 0 else nI 1000000) → JJ G Y_X11_makeNodes 2 0 0 (RP G A M Z R P) 50 [(0, .ref (A 0)), (1, .int (nI i))] [] (rW G A (va_up M 8 0) Z (nR R o t c) P) 0 0 := by
  intro k
  induction k with
  | zero =>
    intro i hi c hc
    obtain rfl : i = 14400 := by omega
    refine j_iload_n (n := 51) dX11_makeNodes_50 rfl rfl ?_
    refine j_sipush (n := 54) (14400) dX11_makeNodes_51 rfl (by decide) ?_
    refine j_icmp_ge (n := 57) 82 dX11_makeNodes_54 (by decide) rfl (fun c1 => ?_) (fun c1 => ?_)
    · refine j_iconst (n := 83) (0) dX11_makeNodes_82 rfl (by decide) ?_
      refine j_istore_n (n := 84) dX11_makeNodes_83 rfl (by decide) ?_
      refine mk_c hok (M 4) 0 (by omega) o t c ?_ ?_
      · intro n hn
        show ndk o t n = -1
        unfold ndk
        rcases pcN_c hn with ⟨h1, h2, h3⟩ | ⟨h1, h2, -⟩
        · rw [if_pos h1]; exact ho _ h2
        · rw [if_neg (by omega)]; exact ht _ h2
      · intro a b ha hb
        rw [hc (120 * a + b) (by omega)]
        show _ = ec 1000000 (if a = b then some 0 else none)
        by_cases e : a = b
        · subst e; rw [if_pos (by omega), if_pos rfl]; rfl
        · rw [if_neg (by omega), if_neg e]; rfl
    · exact absurd (show nI 14400 ≤ nI 14400 from nI_le (Nat.le_refl _) (by omega)) c1
  | succ k ih =>
    intro i hi c hc
    have ih := ih (i + 1) (by omega)
    have hrem : nI i - nI i / 121 * 121 = nI (i % 121) := pk_rem (d := 121) (by omega) (by omega) (by omega)
    have hst : ∀ v, v = (if i % 121 = 0 then 0 else nI 1000000) → ∀ j, j < i + 1 → upd c i v j = if j % 121 = 0 then 0 else nI 1000000 := by
      intro v hv j hj
      by_cases e : j = i
      · subst e; rw [pk_us]; exact hv
      · rw [pk_un e]; exact hc j (by omega)
    refine j_iload_n (n := 51) dX11_makeNodes_50 rfl rfl ?_
    refine j_sipush (n := 54) (14400) dX11_makeNodes_51 rfl (by decide) ?_
    refine j_icmp_ge (n := 57) 82 dX11_makeNodes_54 (by decide) rfl (fun c1 => ?_) (fun c1 => ?_)
    · exact absurd (show nI 14400 ≤ nI i from c1) (nI_ge (show i < 14400 by omega) (by omega))
    · refine j_aload_n (n := 58) dX11_makeNodes_57 rfl rfl ?_
      refine j_get (n := 61) 0 dX11_makeNodes_58 f_X11_35 rfl rfl rfl ?_
      refine j_iload_n (n := 62) dX11_makeNodes_61 rfl rfl ?_
      refine j_iload_n (n := 63) dX11_makeNodes_62 rfl rfl ?_
      refine j_bipush (n := 65) (121) dX11_makeNodes_63 rfl (by decide) ?_
      refine j_irem (n := 66) dX11_makeNodes_65 rfl (by decide) ?_
      refine j_top (nI (i % 121)) hrem ?_
      refine j_if_ne (n := 69) 73 dX11_makeNodes_66 (by decide) rfl (fun c2 => ?_) (fun c2 => ?_)
      · have h1 : ¬ i % 121 = 0 := fun q => c2 (by rw [q]; rfl)
        refine j_ldc (n := 75) dX11_makeNodes_73 rfl k_X11_134 ?_
        refine j_iast (n := 76) 9 i dX11_makeNodes_75 rfl rfl rfl (by omega) (by omega) ?_
        refine j_ws (ws' := rW G A (va_up M 8 0) Z (nR R o t (upd c i (nI 1000000))) P) rfl ?_
        refine j_iinc (n := 79) (nI (i + 1)) dX11_makeNodes_76 rfl rfl (nI_inc i) (by decide) ?_
        refine j_goto 50 dX11_makeNodes_79 (by decide) ?_
        exact ih _ (hst _ (by rw [if_neg h1]))
      · have h1 : i % 121 = 0 := (nI_eq (b := 0) (by omega) (by omega)).mp c2
        refine j_iconst (n := 70) (0) dX11_makeNodes_69 rfl (by decide) ?_
        refine j_goto 75 dX11_makeNodes_70 (by decide) ?_
        refine j_iast (n := 76) 9 i dX11_makeNodes_75 rfl rfl rfl (by omega) (by omega) ?_
        refine j_ws (ws' := rW G A (va_up M 8 0) Z (nR R o t (upd c i 0)) P) rfl ?_
        refine j_iinc (n := 79) (nI (i + 1)) dX11_makeNodes_76 rfl rfl (nI_inc i) (by decide) ?_
        refine j_goto 50 dX11_makeNodes_79 (by decide) ?_
        exact ih _ (hst _ (by rw [if_pos h1]))
theorem mk_2 (hok : CTok (rCT M R)) {o : Nat → Int32} (ho : ∀ j, j < 94 → o j = -1) :
    ∀ (k i : Nat), i + k = 8836 → ∀ t : Nat → Int32, (∀ j, j < i → t j = -1) → JJ G Y_X11_makeNodes 2 0 0 (RP G A M Z R P) 28 [(0, .ref (A 0)), (1, .int (nI i))] [] (rW G A (va_up M 8 0) Z (nR R o t (R 9)) P) 0 0 := by
  intro k
  induction k with
  | zero =>
    intro i hi t ht
    obtain rfl : i = 8836 := by omega
    refine j_iload_n (n := 29) dX11_makeNodes_28 rfl rfl ?_
    refine j_sipush (n := 32) (8836) dX11_makeNodes_29 rfl (by decide) ?_
    refine j_icmp_ge (n := 35) 48 dX11_makeNodes_32 (by decide) rfl (fun c1 => ?_) (fun c1 => ?_)
    · refine j_iconst (n := 49) (0) dX11_makeNodes_48 rfl (by decide) ?_
      refine j_istore_n (n := 50) dX11_makeNodes_49 rfl (by decide) ?_
      exact mk_3 hok ho ht 14400 0 (by omega) (R 9) (fun j hj => by omega)
    · exact absurd (show nI 8836 ≤ nI 8836 from nI_le (Nat.le_refl _) (by omega)) c1
  | succ k ih =>
    intro i hi t ht
    refine j_iload_n (n := 29) dX11_makeNodes_28 rfl rfl ?_
    refine j_sipush (n := 32) (8836) dX11_makeNodes_29 rfl (by decide) ?_
    refine j_icmp_ge (n := 35) 48 dX11_makeNodes_32 (by decide) rfl (fun c1 => ?_) (fun c1 => ?_)
    · exact absurd (show nI 8836 ≤ nI i from c1) (nI_ge (show i < 8836 by omega) (by omega))
    · refine j_aload_n (n := 36) dX11_makeNodes_35 rfl rfl ?_
      refine j_get (n := 39) 0 dX11_makeNodes_36 f_X11_32 rfl rfl rfl ?_
      refine j_iload_n (n := 40) dX11_makeNodes_39 rfl rfl ?_
      refine j_iconst (n := 41) (-1) dX11_makeNodes_40 rfl (by decide) ?_
      refine j_iast (n := 42) 8 i dX11_makeNodes_41 rfl rfl rfl (by omega) (by omega) ?_
      refine j_ws (ws' := rW G A (va_up M 8 0) Z (nR R o (upd t i (-1)) (R 9)) P) rfl ?_
      refine j_iinc (n := 45) (nI (i + 1)) dX11_makeNodes_42 rfl rfl (nI_inc i) (by decide) ?_
      refine j_goto 28 dX11_makeNodes_45 (by decide) ?_
      refine ih (i + 1) (by omega) _ (fun j hj => ?_)
      by_cases e : j = i
      · subst e; rw [pk_us]
      · rw [pk_un e]; exact ht j (by omega)
theorem mk_1 (hok : CTok (rCT M R)) :
    ∀ (k i : Nat), i + k = 94 → ∀ o : Nat → Int32, (∀ j, j < i → o j = -1) → JJ G Y_X11_makeNodes 2 0 0 (RP G A M Z R P) 7 [(0, .ref (A 0)), (1, .int (nI i))] [] (rW G A (va_up M 8 0) Z (nR R o (R 8) (R 9)) P) 0 0 := by
  intro k
  induction k with
  | zero =>
    intro i hi o ho
    obtain rfl : i = 94 := by omega
    refine j_iload_n (n := 8) dX11_makeNodes_7 rfl rfl ?_
    refine j_bipush (n := 10) (94) dX11_makeNodes_8 rfl (by decide) ?_
    refine j_icmp_ge (n := 13) 26 dX11_makeNodes_10 (by decide) rfl (fun c1 => ?_) (fun c1 => ?_)
    · refine j_iconst (n := 27) (0) dX11_makeNodes_26 rfl (by decide) ?_
      refine j_istore_n (n := 28) dX11_makeNodes_27 rfl (by decide) ?_
      exact mk_2 hok ho 8836 0 (by omega) (R 8) (fun j hj => by omega)
    · exact absurd (show nI 94 ≤ nI 94 from nI_le (Nat.le_refl _) (by omega)) c1
  | succ k ih =>
    intro i hi o ho
    refine j_iload_n (n := 8) dX11_makeNodes_7 rfl rfl ?_
    refine j_bipush (n := 10) (94) dX11_makeNodes_8 rfl (by decide) ?_
    refine j_icmp_ge (n := 13) 26 dX11_makeNodes_10 (by decide) rfl (fun c1 => ?_) (fun c1 => ?_)
    · exact absurd (show nI 94 ≤ nI i from c1) (nI_ge (show i < 94 by omega) (by omega))
    · refine j_aload_n (n := 14) dX11_makeNodes_13 rfl rfl ?_
      refine j_get (n := 17) 0 dX11_makeNodes_14 f_X11_29 rfl rfl rfl ?_
      refine j_iload_n (n := 18) dX11_makeNodes_17 rfl rfl ?_
      refine j_iconst (n := 19) (-1) dX11_makeNodes_18 rfl (by decide) ?_
      refine j_iast (n := 20) 7 i dX11_makeNodes_19 rfl rfl rfl (by omega) (by omega) ?_
      refine j_ws (ws' := rW G A (va_up M 8 0) Z (nR R (upd o i (-1)) (R 8) (R 9)) P) rfl ?_
      refine j_iinc (n := 23) (nI (i + 1)) dX11_makeNodes_20 rfl rfl (nI_inc i) (by decide) ?_
      refine j_goto 7 dX11_makeNodes_23 (by decide) ?_
      refine ih (i + 1) (by omega) _ (fun j hj => ?_)
      by_cases e : j = i
      · subst e; rw [pk_us]
      · rw [pk_un e]; exact ho j (by omega)
theorem r_makeNodes (hok : CTok (rCT M R)) : JM G Y_X11_makeNodes 2 0 0 [.ref (A 0)] (rW G A M Z R P) (RP G A M Z R P) := by
  refine JM.of [(0, .ref (A 0))] rfl rfl (by simp) (Nat.le_of_ble_eq_true rfl) (by decide +kernel) ?_
  refine j_aload_n (n := 1) dX11_makeNodes_0 rfl rfl ?_
  refine j_iconst (n := 2) (0) dX11_makeNodes_1 rfl (by decide) ?_
  refine j_put (n := 5) 0 dX11_makeNodes_2 f_X11_131 rfl rfl rfl (Nat.le_of_ble_eq_true rfl) rfl rfl ?_
  refine j_iconst (n := 6) (0) dX11_makeNodes_5 rfl (by decide) ?_
  refine j_istore_n (n := 7) dX11_makeNodes_6 rfl (by decide) ?_
  exact mk_1 hok 94 0 (by omega) (R 7) (fun j hj => by omega)
end R7

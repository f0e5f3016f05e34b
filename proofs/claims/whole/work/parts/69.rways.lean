/-! the reference: ways -/
theorem wq_iff {ch t : Option Nat} {v : Nat} (hc : BD ch) (ht : BD t) (hv : v ≤ 100000) : ec 1000000 ch + ec 1000000 t = nI v ↔ oAdd ch t = some v := by
  cases ch with
  | none =>
    cases t with
    | none =>
      constructor
      · intro h
        have h : nI 1000000 + nI 1000000 = nI v := h
        rw [nI_add, nI_eq (by omega) (by omega)] at h; omega
      · intro h; cases h
    | some w =>
      have hw := ht w rfl
      constructor
      · intro h
        have h : nI 1000000 + nI w = nI v := h
        rw [nI_add, nI_eq (by omega) (by omega)] at h; omega
      · intro h; cases h
  | some c =>
    have hc := hc c rfl
    cases t with
    | none =>
      constructor
      · intro h
        have h : nI c + nI 1000000 = nI v := h
        rw [nI_add, nI_eq (by omega) (by omega)] at h; omega
      · intro h; cases h
    | some w =>
      have hw := ht w rfl
      constructor
      · intro h
        have h : nI c + nI w = nI v := h
        rw [nI_add, nI_eq (by omega) (by omega)] at h
        rw [← h]; rfl
      · intro h
        have h : c + w = v := Option.some.inj h
        show nI c + nI w = nI v
        rw [nI_add, h]
def WCX (M : Nat → Nat) (R : Nat → Nat → Int32) (C : CT) (X Y : Nat → Int32) (xc yc : Nat) : Prop := RNI M R ∧ rCT M R = C ∧ R 13 = X ∧ R 14 = Y ∧ M 22 = xc ∧ M 23 = yc ∧ xc ≤ 40 ∧ yc ≤ 40 ∧ SGS X xc ∧ SGS Y yc ∧ ∀ i j, i ≤ xc → j ≤ yc → R 15 (41 * i + j) = ec 1000000 (TT C X Y xc yc i j)
/-- only the told way differs -/
def WYB (M : Nat → Nat) (R : Nat → Nat → Int32) (M' : Nat → Nat) (R' : Nat → Nat → Int32) : Prop := (∀ k, k ≠ 37 → M' k = M k) ∧ ∀ k, k ≠ 24 → k ≠ 25 → k ≠ 26 → R' k = R k
theorem WYB.rf (M : Nat → Nat) (R : Nat → Nat → Int32) : WYB M R M R := ⟨fun _ _ => rfl, fun _ _ _ _ => rfl⟩
theorem WYB.tr {M M1 M2 : Nat → Nat} {R R1 R2 : Nat → Nat → Int32} (h : WYB M R M1 R1) (h' : WYB M1 R1 M2 R2) : WYB M R M2 R2 := ⟨fun k a => (h'.1 k a).trans (h.1 k a), fun k a b c => (h'.2 k a b c).trans (h.2 k a b c)⟩
theorem WCX.cg {M M' : Nat → Nat} {R R' : Nat → Nat → Int32} {C : CT} {X Y : Nat → Int32} {xc yc : Nat} (h : WCX M R C X Y xc yc) (hb : WYB M R M' R') : WCX M' R' C X Y xc yc := by
  obtain ⟨a1, a2, a3, a4, a5, a6, a7, a8, a9, a10, a11⟩ := h
  obtain ⟨i1, i2⟩ := a1.cg (hb.1 4 (by omega)) (hb.1 8 (by omega)) (fun i x y => hb.2 i (by omega) (by omega) (by omega))
  refine ⟨i1, i2.trans a2, (hb.2 13 (by omega) (by omega) (by omega)).trans a3, (hb.2 14 (by omega) (by omega) (by omega)).trans a4, (hb.1 22 (by omega)).trans a5, (hb.1 23 (by omega)).trans a6, a7, a8, a9, a10, ?_⟩
  rw [hb.2 15 (by omega) (by omega) (by omega)]
  exact a11
section RL
variable {G : GT} {A M : Nat → Nat} {Z : Nat → Int32} {R : Nat → Nat → Int32} {P ws : va_W} {C : CT} {X Y : Nat → Int32} {xc yc : Nat} {post : OT}
theorem wr_247 {a b : Nat} {x y v4 : Int32} (ha : a = 1 ∨ a = 2) (hb : b = 1 ∨ b = 2)
    (hk : JJ G Y_X11_ways 3 0 0 post 42 [(0, .ref (A 0)), (2, .int x), (3, .int y)] [] (rW G A M Z R P) 0 0) :
    JJ G Y_X11_ways 3 0 0 post 247 [(0, .ref (A 0)), (2, .int x), (3, .int y), (4, .int v4), (5, .int 1), (6, .int (nI a)), (7, .int (nI b))] [] (rW G A M Z R P) 0 0 := by
  have h253 : ∀ b7 : Int32, JJ G Y_X11_ways 3 0 0 post 253 [(0, .ref (A 0)), (2, .int x), (3, .int y), (4, .int v4), (5, .int 1), (6, .int (nI a)), (7, .int b7)] [] (rW G A M Z R P) 0 0 := by
    intro b7
    refine j_iinc (n := 256) (nI (a + 1)) dX11_ways_253 rfl rfl (nI_inc a) (by decide) ?_
    refine j_goto 77 dX11_ways_256 (by decide) ?_
    refine j_iload (n := 79) dX11_ways_77 rfl rfl ?_
    refine j_iconst (n := 80) (2) dX11_ways_79 rfl (by decide) ?_
    refine j_icmp_gt (n := 83) 259 dX11_ways_80 (by decide) rfl (fun c => ?_) (fun c => ?_)
    · refine j_goto 42 dX11_ways_259 (by decide) ?_
      refine j_keep [0, 2, 3] rfl ?_
      exact hk
    · refine j_iload (n := 85) dX11_ways_83 rfl rfl ?_
      refine j_if_ne (n := 88) 259 dX11_ways_85 (by decide) rfl (fun c1 => ?_) (fun c1 => ?_)
      · refine j_goto 42 dX11_ways_259 (by decide) ?_
        refine j_keep [0, 2, 3] rfl ?_
        exact hk
      · exact absurd c1 (by decide)
  refine j_iinc (n := 250) (nI (b + 1)) dX11_ways_247 rfl rfl (nI_inc b) (by decide) ?_
  refine j_goto 91 dX11_ways_250 (by decide) ?_
  refine j_iload (n := 93) dX11_ways_91 rfl rfl ?_
  refine j_iconst (n := 94) (2) dX11_ways_93 rfl (by decide) ?_
  refine j_icmp_gt (n := 97) 253 dX11_ways_94 (by decide) rfl (fun c => ?_) (fun c => ?_)
  · exact h253 _
  · refine j_iload (n := 99) dX11_ways_97 rfl rfl ?_
    refine j_if_ne (n := 102) 253 dX11_ways_99 (by decide) rfl (fun c1 => ?_) (fun c1 => ?_)
    · exact h253 _
    · exact absurd c1 (by decide)
theorem wr_s {i j n v sh : Nat} (hW : WCX M R C X Y xc yc) (hM : M 37 = n) (hn : n < 40) (hv : v ≤ 100000)
    (hyes : tst C X Y xc yc i j sh = some v → ∀ (M' : Nat → Nat) (R' : Nat → Nat → Int32), WYB M R M' R' → M' 37 = n + 1 → R' 24 = upd (R 24) n (pcX X i (shX sh)) → R' 25 = upd (R 25) n (pcX Y j (shY sh)) → R' 26 = upd (R 26) n (nI ((chn C (pcX X i (shX sh)) (pcX Y j (shY sh))).getD 0)) → JJ G Y_X11_ways 3 0 0 post 247 [(0, .ref (A 0)), (2, .int (nI (i + shX sh))), (3, .int (nI (j + shY sh))), (4, .int (nI v)), (5, .int 1), (6, .int (nI (shX sh))), (7, .int (nI (shY sh)))] [] (rW G A M' Z R' P) 0 0)
    (hno : ¬ tst C X Y xc yc i j sh = some v → JJ G Y_X11_ways 3 0 0 post 247 [(0, .ref (A 0)), (2, .int (nI i)), (3, .int (nI j)), (4, .int (nI v)), (5, .int 0), (6, .int (nI (shX sh))), (7, .int (nI (shY sh)))] [] (rW G A M Z R P) 0 0) (hi : i ≤ xc) (hj : j ≤ yc) :
    JJ G Y_X11_ways 3 0 0 post 102 [(0, .ref (A 0)), (2, .int (nI i)), (3, .int (nI j)), (4, .int (nI v)), (5, .int 0), (6, .int (nI (shX sh))), (7, .int (nI (shY sh)))] [] (rW G A M Z R P) 0 0 := by
  obtain ⟨hI, eC, eX, eY, ex, ey, hx, hy, hX, hY, hL⟩ := hW
  obtain ⟨qa, qb⟩ := sh_ab sh
  have hok : CTok C := by rw [← eC]; exact hI.1
  have hto := tst_out (C := C) (X := X) (Y := Y) (xc := xc) (yc := yc) (i := i) (j := j) (sh := sh)
  have hte : tst C X Y xc yc i j sh = oAdd (chn C (pcX X i (shX sh)) (pcX Y j (shY sh))) (TT C X Y xc yc (i + shX sh) (j + shY sh)) := rfl
  generalize shX sh = a at *
  generalize shY sh = b at *
  refine j_iload_n (n := 103) dX11_ways_102 rfl rfl ?_
  refine j_iload (n := 105) dX11_ways_103 rfl rfl ?_
  refine j_iadd (n := 106) dX11_ways_105 rfl ?_
  refine j_aload_n (n := 107) dX11_ways_106 rfl rfl ?_
  refine j_get (n := 110) 0 dX11_ways_107 f_X11_177 rfl rfl rfl ?_
  rw [ex, nI_add]
  refine j_icmp_gt (n := 113) 247 dX11_ways_110 (by decide) rfl (fun c => ?_) (fun c => ?_)
  · have h1 : xc < i + a := (nI_ltI (by omega) (by omega)).mp c
    have h2 := hto (by omega)
    refine hno (by rw [h2]; exact fun h => by cases h)
  · have h1 : i + a ≤ xc := Decidable.byContradiction (fun q => c (nI_lt (by omega) (by omega)))
    refine j_iload_n (n := 114) dX11_ways_113 rfl rfl ?_
    refine j_iload (n := 116) dX11_ways_114 rfl rfl ?_
    refine j_iadd (n := 117) dX11_ways_116 rfl ?_
    refine j_aload_n (n := 118) dX11_ways_117 rfl rfl ?_
    refine j_get (n := 121) 0 dX11_ways_118 f_X11_180 rfl rfl rfl ?_
    rw [ey, nI_add]
    refine j_icmp_le (n := 124) 127 dX11_ways_121 (by decide) rfl (fun c1 => ?_) (fun c1 => ?_)
    · have h2 : j + b ≤ yc := (nI_leI (by omega) (by omega)).mp c1
      have px := pcB_pcX hX qa h1
      have py := pcB_pcX hY qb h2
      have hcc := r_chainOf (G := G) (A := A) (M := M) (Z := Z) (R := R) (P := P) hI px py
      rw [eC] at hcc
      have hB : BD (chn C (pcX X i a) (pcX Y j b)) := fun u h => by have := chn_le hok h; omega
      have hT : BD (TT C X Y xc yc (i + a) (j + b)) := BD_TT hok hx
      have hq := wq_iff (v := v) hB hT hv
      have hl := hL (i + a) (j + b) h1 h2
      rw [← hte] at hq
      refine j_aload_n (n := 128) dX11_ways_127 rfl rfl ?_
      refine j_get (n := 131) 0 dX11_ways_128 f_X11_51 rfl rfl rfl ?_
      refine j_iload_n (n := 132) dX11_ways_131 rfl rfl ?_
      refine j_iload (n := 134) dX11_ways_132 rfl rfl ?_
      refine j_callSe (n := 137) (Y1 := Y_X11_piece) dX11_ways_134 m_X11_183 cy_X11_piece cs_X11_piece (r_piece (k0 := 13) rfl qa (by omega) (by omega)) rfl rfl rfl (by omega) (by omega) (by omega) (Nat.le_of_ble_eq_true rfl) ?_
      rw [eX]
      refine j_istore (n := 139) dX11_ways_137 rfl (by decide) ?_
      refine j_aload_n (n := 140) dX11_ways_139 rfl rfl ?_
      refine j_get (n := 143) 0 dX11_ways_140 f_X11_54 rfl rfl rfl ?_
      refine j_iload_n (n := 144) dX11_ways_143 rfl rfl ?_
      refine j_iload (n := 146) dX11_ways_144 rfl rfl ?_
      refine j_callSe (n := 149) (Y1 := Y_X11_piece) dX11_ways_146 m_X11_183 cy_X11_piece cs_X11_piece (r_piece (k0 := 14) rfl qb (by omega) (by omega)) rfl rfl rfl (by omega) (by omega) (by omega) (Nat.le_of_ble_eq_true rfl) ?_
      rw [eY]
      refine j_istore (n := 151) dX11_ways_149 rfl (by decide) ?_
      refine j_aload_n (n := 152) dX11_ways_151 rfl rfl ?_
      refine j_iload (n := 154) dX11_ways_152 rfl rfl ?_
      refine j_iload (n := 156) dX11_ways_154 rfl rfl ?_
      refine j_callVe (n := 159) (Y1 := Y_X11_chainOf) 0 dX11_ways_156 m_X11_138 cy_X11_chainOf ci_X11_chainOf hcc rfl rfl rfl rfl rfl (by omega) (by omega) (by omega) (Nat.le_of_ble_eq_true rfl) ?_
      refine j_aload_n (n := 160) dX11_ways_159 rfl rfl ?_
      refine j_get (n := 163) 0 dX11_ways_160 f_X11_57 rfl rfl rfl ?_
      refine j_bipush (n := 165) (41) dX11_ways_163 rfl (by decide) ?_
      refine j_iload_n (n := 166) dX11_ways_165 rfl rfl ?_
      refine j_iload (n := 168) dX11_ways_166 rfl rfl ?_
      refine j_iadd (n := 169) dX11_ways_168 rfl ?_
      refine j_imul (n := 170) dX11_ways_169 rfl ?_
      refine j_iload_n (n := 171) dX11_ways_170 rfl rfl ?_
      refine j_iadd (n := 172) dX11_ways_171 rfl ?_
      refine j_iload (n := 174) dX11_ways_172 rfl rfl ?_
      refine j_iadd (n := 175) dX11_ways_174 rfl ?_
      refine j_iald (n := 176) 15 (41 * (i + a) + (j + b)) dX11_ways_175 rfl rfl (k41 i a j b) (by omega) (by omega) ?_
      refine j_top _ hl ?_
      refine j_iadd (n := 177) dX11_ways_176 rfl ?_
      refine j_iload (n := 179) dX11_ways_177 rfl rfl ?_
      refine j_icmp_eq (n := 182) 185 dX11_ways_179 (by decide) rfl (fun c2 => ?_) (fun c2 => ?_)
      · have ht := hq.mp c2
        have hcv : ec 1000000 (chn C (pcX X i a) (pcX Y j b)) = nI ((chn C (pcX X i a) (pcX Y j b)).getD 0) := by
          rw [hte] at ht
          obtain ⟨c3, w3, e3, -, -⟩ := oAdd_some ht
          rw [e3]; rfl
        refine j_aload_n (n := 186) dX11_ways_185 rfl rfl ?_
        refine j_get (n := 189) 0 dX11_ways_186 f_X11_85 rfl rfl rfl ?_
        refine j_aload_n (n := 190) dX11_ways_189 rfl rfl ?_
        refine j_get (n := 193) 0 dX11_ways_190 f_X11_211 rfl rfl rfl ?_
        refine j_iload (n := 195) dX11_ways_193 rfl rfl ?_
        refine j_iast (n := 196) 24 n dX11_ways_195 rfl rfl (by rw [hM]) (by omega) (by omega) ?_
        refine j_ws (ws' := rW G A M Z (va_up R 24 (upd (R 24) n (pcX X i a))) P) rfl ?_
        refine j_nmR (fun R2 a1 a2 => ?_)
        refine j_aload_n (n := 197) dX11_ways_196 rfl rfl ?_
        refine j_get (n := 200) 0 dX11_ways_197 f_X11_88 rfl rfl rfl ?_
        refine j_aload_n (n := 201) dX11_ways_200 rfl rfl ?_
        refine j_get (n := 204) 0 dX11_ways_201 f_X11_211 rfl rfl rfl ?_
        refine j_iload (n := 206) dX11_ways_204 rfl rfl ?_
        refine j_iast (n := 207) 25 n dX11_ways_206 rfl rfl (by rw [hM]) (by omega) (by omega) ?_
        refine j_ws (ws' := rW G A M Z (va_up R2 25 (upd (R2 25) n (pcX Y j b))) P) rfl ?_
        refine j_nmR (fun R3 b1 b2 => ?_)
        have hb3 : WYB M R M R3 := ⟨fun _ _ => rfl, fun k x1 x2 x3 => by rw [b1 k x2, a1 k x1]⟩
        have hI3 := hI.cg (M' := M) (R' := R3) rfl rfl (fun k x y => hb3.2 k (by omega) (by omega) (by omega))
        have hcc3 := r_chainOf (G := G) (A := A) (M := M) (Z := Z) (R := R3) (P := P) hI3.1 px py
        rw [hI3.2, eC] at hcc3
        refine j_aload_n (n := 208) dX11_ways_207 rfl rfl ?_
        refine j_get (n := 211) 0 dX11_ways_208 f_X11_91 rfl rfl rfl ?_
        refine j_aload_n (n := 212) dX11_ways_211 rfl rfl ?_
        refine j_get (n := 215) 0 dX11_ways_212 f_X11_211 rfl rfl rfl ?_
        refine j_aload_n (n := 216) dX11_ways_215 rfl rfl ?_
        refine j_iload (n := 218) dX11_ways_216 rfl rfl ?_
        refine j_iload (n := 220) dX11_ways_218 rfl rfl ?_
        refine j_callVe (n := 223) (Y1 := Y_X11_chainOf) 0 dX11_ways_220 m_X11_138 cy_X11_chainOf ci_X11_chainOf hcc3 rfl rfl rfl rfl rfl (by omega) (by omega) (by omega) (Nat.le_of_ble_eq_true rfl) ?_
        refine j_top _ hcv ?_
        refine j_iast (n := 224) 26 n dX11_ways_223 rfl rfl (by rw [hM]) (by omega) (by omega) ?_
        refine j_ws (ws' := rW G A M Z (va_up R3 26 (upd (R3 26) n (nI ((chn C (pcX X i a) (pcX Y j b)).getD 0)))) P) rfl ?_
        refine j_nmR (fun R4 d1 d2 => ?_)
        refine j_aload_n (n := 225) dX11_ways_224 rfl rfl ?_
        refine j_dup (n := 226) dX11_ways_225 rfl rfl ?_
        refine j_get (n := 229) 0 dX11_ways_226 f_X11_211 rfl rfl rfl ?_
        refine j_iconst (n := 230) (1) dX11_ways_229 rfl (by decide) ?_
        refine j_iadd (n := 231) dX11_ways_230 rfl ?_
        refine j_top (nI (n + 1)) (by rw [hM]; exact nI_inc n) ?_
        refine j_put (n := 234) 0 dX11_ways_231 f_X11_211 rfl rfl rfl (Nat.le_of_ble_eq_true rfl) rfl rfl ?_
        refine j_ws (ws' := rW G A (va_up M 37 (n + 1)) Z R4 P) rfl ?_
        refine j_nmM (fun M2 n1 n2 => ?_)
        refine j_iload_n (n := 235) dX11_ways_234 rfl rfl ?_
        refine j_iload (n := 237) dX11_ways_235 rfl rfl ?_
        refine j_iadd (n := 238) dX11_ways_237 rfl ?_
        refine j_top (nI (i + a)) (nI_add i a) ?_
        refine j_istore_n (n := 239) dX11_ways_238 rfl (by decide) ?_
        refine j_iload_n (n := 240) dX11_ways_239 rfl rfl ?_
        refine j_iload (n := 242) dX11_ways_240 rfl rfl ?_
        refine j_iadd (n := 243) dX11_ways_242 rfl ?_
        refine j_top (nI (j + b)) (nI_add j b) ?_
        refine j_istore_n (n := 244) dX11_ways_243 rfl (by decide) ?_
        refine j_iconst (n := 245) (1) dX11_ways_244 rfl (by decide) ?_
        refine j_istore (n := 247) dX11_ways_245 rfl (by decide) ?_
        refine j_keep [0, 2, 3, 4, 5, 6, 7] rfl ?_
        exact hyes ht M2 R4 ⟨n1, fun k x1 x2 x3 => by rw [d1 k x3]; exact hb3.2 k x1 x2 x3⟩ n2 (by rw [d1 24 (by omega), b1 24 (by omega), a2]) (by rw [d1 25 (by omega), b2, a1 25 (by omega)]) (by rw [d2, b1 26 (by omega), a1 26 (by omega)])
      · refine j_goto 247 dX11_ways_182 (by decide) ?_
        refine j_keep [0, 2, 3, 4, 5, 6, 7] rfl ?_
        exact hno (fun h => c2 (hq.mpr h))
    · have h2 : ¬ j + b ≤ yc := fun q => c1 (nI_le q (by omega))
      have h3 := hto (by omega)
      refine j_goto 247 dX11_ways_124 (by decide) ?_
      refine hno (by rw [h3]; exact fun h => by cases h)
theorem wr_1 {i j n v : Nat} (hW : WCX M R C X Y xc yc) (hM : M 37 = n) (hn : n < 40) (hi : i < xc) (hj : j ≤ yc) (hT : TT C X Y xc yc i j = some v)
    (hk : ∀ (M' : Nat → Nat) (R' : Nat → Nat → Int32), WYB M R M' R' → M' 37 = n + 1 → R' 24 = upd (R 24) n (pcX X i (shX (fsh C X Y xc yc i j))) → R' 25 = upd (R 25) n (pcX Y j (shY (fsh C X Y xc yc i j))) → R' 26 = upd (R 26) n (nI ((chn C (pcX X i (shX (fsh C X Y xc yc i j))) (pcX Y j (shY (fsh C X Y xc yc i j)))).getD 0)) → JJ G Y_X11_ways 3 0 0 post 42 [(0, .ref (A 0)), (2, .int (nI (i + shX (fsh C X Y xc yc i j)))), (3, .int (nI (j + shY (fsh C X Y xc yc i j))))] [] (rW G A M' Z R' P) 0 0) :
    JJ G Y_X11_ways 3 0 0 post 58 [(0, .ref (A 0)), (2, .int (nI i)), (3, .int (nI j))] [] (rW G A M Z R P) 0 0 := by
  have hl := hW.2.2.2.2.2.2.2.2.2.2 i j (by omega) hj
  rw [hT] at hl
  have hx40 := hW.2.2.2.2.2.2.1
  have hy40 := hW.2.2.2.2.2.2.2.1
  have hok : CTok C := by rw [← hW.2.1]; exact hW.1.1
  have hv : v ≤ 100000 := BD_TT hok hx40 v hT
  have hall := fsh_tst hi hT
  have hyes : ∀ sh, fsh C X Y xc yc i j = sh → ∀ (M' : Nat → Nat) (R' : Nat → Nat → Int32), WYB M R M' R' → M' 37 = n + 1 → R' 24 = upd (R 24) n (pcX X i (shX sh)) → R' 25 = upd (R 25) n (pcX Y j (shY sh)) → R' 26 = upd (R 26) n (nI ((chn C (pcX X i (shX sh)) (pcX Y j (shY sh))).getD 0)) → JJ G Y_X11_ways 3 0 0 post 247 [(0, .ref (A 0)), (2, .int (nI (i + shX sh))), (3, .int (nI (j + shY sh))), (4, .int (nI v)), (5, .int 1), (6, .int (nI (shX sh))), (7, .int (nI (shY sh)))] [] (rW G A M' Z R' P) 0 0 := by
    intro sh e M' R' h1 h2 h3 h4 h5
    subst e
    exact wr_247 (sh_ab _).1 (sh_ab _).2 (hk M' R' h1 h2 h3 h4 h5)
  have f0 : tst C X Y xc yc i j 0 = some v → fsh C X Y xc yc i j = 0 := fun h => by unfold fsh; rw [if_pos (by rw [h, hT])]
  have f1 : ¬ tst C X Y xc yc i j 0 = some v → tst C X Y xc yc i j 1 = some v → fsh C X Y xc yc i j = 1 := fun h0 h => by unfold fsh; rw [if_neg (by rw [hT]; exact h0), if_pos (by rw [h, hT])]
  have f2 : ¬ tst C X Y xc yc i j 0 = some v → ¬ tst C X Y xc yc i j 1 = some v → tst C X Y xc yc i j 2 = some v → fsh C X Y xc yc i j = 2 := fun h0 h1 h => by unfold fsh; rw [if_neg (by rw [hT]; exact h0), if_neg (by rw [hT]; exact h1), if_pos (by rw [h, hT])]
  have f3 : ¬ tst C X Y xc yc i j 0 = some v → ¬ tst C X Y xc yc i j 1 = some v → ¬ tst C X Y xc yc i j 2 = some v → fsh C X Y xc yc i j = 3 := fun h0 h1 h2 => by unfold fsh; rw [if_neg (by rw [hT]; exact h0), if_neg (by rw [hT]; exact h1), if_neg (by rw [hT]; exact h2)]
  refine j_aload_n (n := 59) dX11_ways_58 rfl rfl ?_
  refine j_get (n := 62) 0 dX11_ways_59 f_X11_57 rfl rfl rfl ?_
  refine j_bipush (n := 64) (41) dX11_ways_62 rfl (by decide) ?_
  refine j_iload_n (n := 65) dX11_ways_64 rfl rfl ?_
  refine j_imul (n := 66) dX11_ways_65 rfl ?_
  refine j_iload_n (n := 67) dX11_ways_66 rfl rfl ?_
  refine j_iadd (n := 68) dX11_ways_67 rfl ?_
  refine j_iald (n := 69) 15 (41 * i + j) dX11_ways_68 rfl rfl (k41' i j) (by omega) (by omega) ?_
  refine j_top (nI v) hl ?_
  refine j_istore (n := 71) dX11_ways_69 rfl (by decide) ?_
  refine j_iconst (n := 72) (0) dX11_ways_71 rfl (by decide) ?_
  refine j_istore (n := 74) dX11_ways_72 rfl (by decide) ?_
  refine j_iconst (n := 75) (1) dX11_ways_74 rfl (by decide) ?_
  refine j_istore (n := 77) dX11_ways_75 rfl (by decide) ?_
  refine j_iload (n := 79) dX11_ways_77 rfl rfl ?_
  refine j_iconst (n := 80) (2) dX11_ways_79 rfl (by decide) ?_
  refine j_icmp_gt (n := 83) 259 dX11_ways_80 (by decide) rfl (fun c => ?_) (fun c => ?_)
  · exact absurd (show nI 2 < nI 1 from c) (by decide)
  · refine j_iload (n := 85) dX11_ways_83 rfl rfl ?_
    refine j_if_ne (n := 88) 259 dX11_ways_85 (by decide) rfl (fun c1 => ?_) (fun c1 => ?_)
    · exact absurd rfl c1
    · refine j_iconst (n := 89) (1) dX11_ways_88 rfl (by decide) ?_
      refine j_istore (n := 91) dX11_ways_89 rfl (by decide) ?_
      refine j_iload (n := 93) dX11_ways_91 rfl rfl ?_
      refine j_iconst (n := 94) (2) dX11_ways_93 rfl (by decide) ?_
      refine j_icmp_gt (n := 97) 253 dX11_ways_94 (by decide) rfl (fun c2 => ?_) (fun c2 => ?_)
      · exact absurd (show nI 2 < nI 1 from c2) (by decide)
      · refine j_iload (n := 99) dX11_ways_97 rfl rfl ?_
        refine j_if_ne (n := 102) 253 dX11_ways_99 (by decide) rfl (fun c3 => ?_) (fun c3 => ?_)
        · exact absurd rfl c3
        · refine wr_s (sh := 0) hW hM hn hv (fun h => hyes 0 (f0 h)) (fun h0 => ?_) (by omega) hj
          refine j_iinc (n := 250) (nI (1 + 1)) dX11_ways_247 rfl rfl (nI_inc 1) (by decide) ?_
          refine j_goto 91 dX11_ways_250 (by decide) ?_
          refine j_iload (n := 93) dX11_ways_91 rfl rfl ?_
          refine j_iconst (n := 94) (2) dX11_ways_93 rfl (by decide) ?_
          refine j_icmp_gt (n := 97) 253 dX11_ways_94 (by decide) rfl (fun c4 => ?_) (fun c4 => ?_)
          · exact absurd (show nI 2 < nI 2 from c4) (by decide)
          · refine j_iload (n := 99) dX11_ways_97 rfl rfl ?_
            refine j_if_ne (n := 102) 253 dX11_ways_99 (by decide) rfl (fun c5 => ?_) (fun c5 => ?_)
            · exact absurd rfl c5
            · refine wr_s (sh := 1) hW hM hn hv (fun h => hyes 1 (f1 h0 h)) (fun h1 => ?_) (by omega) hj
              refine j_iinc (n := 250) (nI (2 + 1)) dX11_ways_247 rfl rfl (nI_inc 2) (by decide) ?_
              refine j_goto 91 dX11_ways_250 (by decide) ?_
              refine j_iload (n := 93) dX11_ways_91 rfl rfl ?_
              refine j_iconst (n := 94) (2) dX11_ways_93 rfl (by decide) ?_
              refine j_icmp_gt (n := 97) 253 dX11_ways_94 (by decide) rfl (fun c6 => ?_) (fun c6 => ?_)
              · refine j_iinc (n := 256) (nI (1 + 1)) dX11_ways_253 rfl rfl (nI_inc 1) (by decide) ?_
                refine j_goto 77 dX11_ways_256 (by decide) ?_
                refine j_iload (n := 79) dX11_ways_77 rfl rfl ?_
                refine j_iconst (n := 80) (2) dX11_ways_79 rfl (by decide) ?_
                refine j_icmp_gt (n := 83) 259 dX11_ways_80 (by decide) rfl (fun c7 => ?_) (fun c7 => ?_)
                · exact absurd (show nI 2 < nI 2 from c7) (by decide)
                · refine j_iload (n := 85) dX11_ways_83 rfl rfl ?_
                  refine j_if_ne (n := 88) 259 dX11_ways_85 (by decide) rfl (fun c8 => ?_) (fun c8 => ?_)
                  · exact absurd rfl c8
                  · refine j_iconst (n := 89) (1) dX11_ways_88 rfl (by decide) ?_
                    refine j_istore (n := 91) dX11_ways_89 rfl (by decide) ?_
                    refine j_iload (n := 93) dX11_ways_91 rfl rfl ?_
                    refine j_iconst (n := 94) (2) dX11_ways_93 rfl (by decide) ?_
                    refine j_icmp_gt (n := 97) 253 dX11_ways_94 (by decide) rfl (fun c9 => ?_) (fun c9 => ?_)
                    · exact absurd (show nI 2 < nI 1 from c9) (by decide)
                    · refine j_iload (n := 99) dX11_ways_97 rfl rfl ?_
                      refine j_if_ne (n := 102) 253 dX11_ways_99 (by decide) rfl (fun c10 => ?_) (fun c10 => ?_)
                      · exact absurd rfl c10
                      · refine wr_s (sh := 2) hW hM hn hv (fun h => hyes 2 (f2 h0 h1 h)) (fun h2 => ?_) (by omega) hj
                        refine j_iinc (n := 250) (nI (1 + 1)) dX11_ways_247 rfl rfl (nI_inc 1) (by decide) ?_
                        refine j_goto 91 dX11_ways_250 (by decide) ?_
                        refine j_iload (n := 93) dX11_ways_91 rfl rfl ?_
                        refine j_iconst (n := 94) (2) dX11_ways_93 rfl (by decide) ?_
                        refine j_icmp_gt (n := 97) 253 dX11_ways_94 (by decide) rfl (fun c11 => ?_) (fun c11 => ?_)
                        · exact absurd (show nI 2 < nI 2 from c11) (by decide)
                        · refine j_iload (n := 99) dX11_ways_97 rfl rfl ?_
                          refine j_if_ne (n := 102) 253 dX11_ways_99 (by decide) rfl (fun c12 => ?_) (fun c12 => ?_)
                          · exact absurd rfl c12
                          · refine wr_s (sh := 3) hW hM hn hv (fun h => hyes 3 (f3 h0 h1 h2)) (fun h3 => ?_) (by omega) hj
                            rw [f3 h0 h1 h2] at hall
                            exact absurd hall h3
              · exact absurd (show nI 2 < nI 3 by decide) c6
theorem wr_loop (hk : ∀ (n : Nat) (M' : Nat → Nat) (R' : Nat → Nat → Int32), n = wayN C X Y xc yc → WYB M R M' R' → M' 37 = n → (∀ k, k < n → R' 24 k = wmi C X Y xc yc k ∧ R' 25 k = wot C X Y xc yc k ∧ R' 26 k = wco C X Y xc yc k) → JJ G Y_X11_ways 3 0 0 post 262 [(0, .ref (A 0))] [] (rW G A M' Z R' P) 0 0) :
    ∀ (f n : Nat), n + f = 40 → wayN C X Y xc yc = wcount C X Y xc yc f n → ∀ (v : Nat) (M' : Nat → Nat) (R' : Nat → Nat → Int32), (wpos C X Y xc yc n).1 ≤ xc → (wpos C X Y xc yc n).2 ≤ yc → TT C X Y xc yc (wpos C X Y xc yc n).1 (wpos C X Y xc yc n).2 = some v → WCX M' R' C X Y xc yc → WYB M R M' R' → M' 37 = n → (∀ k, k < n → R' 24 k = wmi C X Y xc yc k ∧ R' 25 k = wot C X Y xc yc k ∧ R' 26 k = wco C X Y xc yc k) →
      JJ G Y_X11_ways 3 0 0 post 42 [(0, .ref (A 0)), (2, .int (nI (wpos C X Y xc yc n).1)), (3, .int (nI (wpos C X Y xc yc n).2))] [] (rW G A M' Z R' P) 0 0 := by
  have key : ∀ (n : Nat) (M' : Nat → Nat) (R' : Nat → Nat → Int32), (wpos C X Y xc yc n).1 = xc → (wpos C X Y xc yc n).2 = yc → WCX M' R' C X Y xc yc → n = wayN C X Y xc yc → WYB M R M' R' → M' 37 = n → (∀ k, k < n → R' 24 k = wmi C X Y xc yc k ∧ R' 25 k = wot C X Y xc yc k ∧ R' 26 k = wco C X Y xc yc k) → JJ G Y_X11_ways 3 0 0 post 42 [(0, .ref (A 0)), (2, .int (nI (wpos C X Y xc yc n).1)), (3, .int (nI (wpos C X Y xc yc n).2))] [] (rW G A M' Z R' P) 0 0 := by
    intro n M' R' e1 e2 hW hN hB hM hag
    have ex := hW.2.2.2.2.1
    have ey := hW.2.2.2.2.2.1
    have hx40 := hW.2.2.2.2.2.2.1
    have hy40 := hW.2.2.2.2.2.2.2.1
    rw [e1, e2]
    refine j_iload_n (n := 43) dX11_ways_42 rfl rfl ?_
    refine j_aload_n (n := 44) dX11_ways_43 rfl rfl ?_
    refine j_get (n := 47) 0 dX11_ways_44 f_X11_177 rfl rfl rfl ?_
    rw [ex]
    refine j_icmp_lt (n := 50) 58 dX11_ways_47 (by decide) rfl (fun c => ?_) (fun c => ?_)
    · exact absurd c (nI_nlt (Nat.le_refl _) (by omega))
    · refine j_iload_n (n := 51) dX11_ways_50 rfl rfl ?_
      refine j_aload_n (n := 52) dX11_ways_51 rfl rfl ?_
      refine j_get (n := 55) 0 dX11_ways_52 f_X11_180 rfl rfl rfl ?_
      rw [ey]
      refine j_icmp_ge (n := 58) 262 dX11_ways_55 (by decide) rfl (fun c1 => ?_) (fun c1 => ?_)
      · refine j_keep [0] rfl ?_
        exact hk n M' R' hN hB hM hag
      · exact absurd (nI_le (Nat.le_refl _) (by omega)) c1
  intro f
  induction f with
  | zero =>
    intro n hn hN v M' R' hix hjy hT hW hB hM hag
    have hx40 := hW.2.2.2.2.2.2.1
    have hge := wpos_ge C X Y xc yc n
    have e1 : (wpos C X Y xc yc n).1 = xc := by omega
    have e2 : (wpos C X Y xc yc n).2 = yc := by
      rw [e1, TT_end] at hT
      unfold rowZ at hT
      split at hT
      · assumption
      · cases hT
    exact key n M' R' e1 e2 hW hN.symm hB hM hag
  | succ f ih =>
    intro n hn hN v M' R' hix hjy hT hW hB hM hag
    have hx40 := hW.2.2.2.2.2.2.1
    have hy40 := hW.2.2.2.2.2.2.2.1
    have hwc : wcount C X Y xc yc (f + 1) n = if wend C X Y xc yc n = true then n else wcount C X Y xc yc f (n + 1) := rfl
    rcases Nat.lt_or_ge (wpos C X Y xc yc n).1 xc with h | h
    · have hin := TT_in (xc - (wpos C X Y xc yc n).1) _ _ v (by omega) hT
      have hj : (wpos C X Y xc yc n).2 < yc := by omega
      have hwe : wend C X Y xc yc n = false := by unfold wend; rw [decide_eq_false (by omega), decide_eq_false (by omega)]; rfl
      rw [hwc, if_neg (by rw [hwe]; exact Bool.noConfusion)] at hN
      have ht := fsh_tst h hT
      obtain ⟨cst, wv, t1, t2, t3⟩ := oAdd_some ht
      have hwp : wpos C X Y xc yc (n + 1) = ((wpos C X Y xc yc n).1 + shX (fsh C X Y xc yc (wpos C X Y xc yc n).1 (wpos C X Y xc yc n).2), (wpos C X Y xc yc n).2 + shY (fsh C X Y xc yc (wpos C X Y xc yc n).1 (wpos C X Y xc yc n).2)) := rfl
      have b1 : (wpos C X Y xc yc (n + 1)).1 ≤ xc := by
        rw [hwp]
        rcases Nat.lt_or_ge xc ((wpos C X Y xc yc n).1 + shX (fsh C X Y xc yc (wpos C X Y xc yc n).1 (wpos C X Y xc yc n).2)) with z | z
        · rw [TT_out z] at t2; cases t2
        · exact z
      have b2 : (wpos C X Y xc yc (n + 1)).2 ≤ yc := TT_yc b1 t2
      have ih := ih (n + 1) (by omega) hN wv
      have hmi : wmi C X Y xc yc n = pcX X (wpos C X Y xc yc n).1 (shX (fsh C X Y xc yc (wpos C X Y xc yc n).1 (wpos C X Y xc yc n).2)) := rfl
      have hot : wot C X Y xc yc n = pcX Y (wpos C X Y xc yc n).2 (shY (fsh C X Y xc yc (wpos C X Y xc yc n).1 (wpos C X Y xc yc n).2)) := rfl
      have hco : wco C X Y xc yc n = nI ((chn C (wmi C X Y xc yc n) (wot C X Y xc yc n)).getD 0) := rfl
      have ex := hW.2.2.2.2.1
      refine j_iload_n (n := 43) dX11_ways_42 rfl rfl ?_
      refine j_aload_n (n := 44) dX11_ways_43 rfl rfl ?_
      refine j_get (n := 47) 0 dX11_ways_44 f_X11_177 rfl rfl rfl ?_
      rw [ex]
      refine j_icmp_lt (n := 50) 58 dX11_ways_47 (by decide) rfl (fun c => ?_) (fun c => ?_)
      · refine wr_1 hW hM (by omega) h (by omega) hT (fun M2 R2 k1 k2 k3 k4 k5 => ?_)
        refine ih M2 R2 b1 b2 t2 (hW.cg k1) (hB.tr k1) k2 (fun k hk => ?_)
        rw [k3, k4, k5]
        by_cases ek : k = n
        · subst ek; rw [pk_us, pk_us, pk_us]; exact ⟨hmi.symm, hot.symm, by rw [hco, hmi, hot]⟩
        · rw [pk_un ek, pk_un ek, pk_un ek]; exact hag k (by omega)
      · exact absurd (nI_lt h (by omega)) c
    · have e1 : (wpos C X Y xc yc n).1 = xc := by omega
      have e2 : (wpos C X Y xc yc n).2 = yc := by
        rw [e1, TT_end] at hT
        unfold rowZ at hT
        split at hT
        · assumption
        · cases hT
      have hwe : wend C X Y xc yc n = true := by unfold wend; rw [decide_eq_true (by omega)]; rfl
      rw [hwc, if_pos hwe] at hN
      exact key n M' R' e1 e2 hW hN.symm hB hM hag
end RL
def WYX (M : Nat → Nat) (R : Nat → Nat → Int32) (M' : Nat → Nat) (R' : Nat → Nat → Int32) : Prop := (∀ i, i ≠ 22 → i ≠ 23 → i ≠ 37 → M' i = M i) ∧ ∀ i, i ≠ 13 → i ≠ 14 → i ≠ 15 → i ≠ 24 → i ≠ 25 → i ≠ 26 → R' i = R i
section RM
variable {G : GT} {A M : Nat → Nat} {Z : Nat → Int32} {R : Nat → Nat → Int32} {P ws : va_W} {el : Nat → Nat} {et : Nat → Nat → Int32} {ns : Option (Nat × (Nat → Int32))}
theorem r_ways {e : Int32} (hI : RNI M R) (hE : RET M R el et) (hN : RNM Z R ns) : JM G Y_X11_ways 3 0 0 [.ref (A 0), .int e] (rW G A M Z R P) (Qi (fun r u => r = (wyA (rCT M R) (R 2) (M 27) (R 21) el et ns e (M 37, R 24, R 25, R 26)).1 ∧ ∃ (M' : Nat → Nat) (R' : Nat → Nat → Int32), u = rW G A M' Z R' P ∧ WYX M R M' R' ∧ wyEq (M' 37, R' 24, R' 25, R' 26) (wyA (rCT M R) (R 2) (M 27) (R 21) el et ns e (M 37, R 24, R 25, R 26)).2)) := by
  have h27 := hE.1
  have hrf : WYX M R M R := ⟨fun _ _ _ _ => rfl, fun _ _ _ _ _ _ _ => rfl⟩
  unfold wyA
  refine JM.of [(0, .ref (A 0)), (1, .int e)] rfl rfl (by simp) (Nat.le_of_ble_eq_true rfl) (by decide +kernel) ?_
  refine j_aload_n (n := 1) dX11_ways_0 rfl rfl ?_
  refine j_iload_n (n := 2) dX11_ways_1 rfl rfl ?_
  refine j_callVe (n := 5) (Y1 := Y_X11_isEntry) 0 dX11_ways_2 m_X11_205 cy_X11_isEntry ci_X11_isEntry (r_isEntry h27) rfl rfl rfl rfl rfl (by omega) (by omega) (by omega) (Nat.le_of_ble_eq_true rfl) ?_
  refine j_if_ne (n := 8) 11 dX11_ways_5 (by decide) rfl (fun c => ?_) (fun c => ?_)
  · have c := b01_n0 c
    obtain ⟨j, hj, rfl, hs⟩ := stnd_j h27 c
    rw [if_neg (by rw [c]; exact Bool.noConfusion), nI_clamp (show j < 2 ^ 31 by omega)]
    rcases hN with ⟨z, rfl⟩ | ⟨z, l, t, rfl, hn⟩
    · refine j_aload_n (n := 12) dX11_ways_11 rfl rfl ?_
      refine j_get (n := 15) 0 dX11_ways_12 f_X11_158 rfl rfl rfl ?_
      refine j_if_eq (n := 18) 31 dX11_ways_15 (by decide) rfl (fun c2 => ?_) (fun c2 => ?_)
      · refine j_iconst (n := 32) (-1) dX11_ways_31 rfl (by decide) ?_
        exact j_iret dX11_ways_32 rfl rfl (by omega) (by omega) (⟨rfl, M, R, rfl, hrf, wyEq.rf _⟩)
      · exact absurd z c2
    · refine j_aload_n (n := 12) dX11_ways_11 rfl rfl ?_
      refine j_get (n := 15) 0 dX11_ways_12 f_X11_158 rfl rfl rfl ?_
      refine j_if_eq (n := 18) 31 dX11_ways_15 (by decide) rfl (fun c2 => ?_) (fun c2 => ?_)
      · exact absurd (z.symm.trans c2) (by decide)
      · obtain ⟨hx, -⟩ := hE.2 j hj
        refine j_aload_n (n := 19) dX11_ways_18 rfl rfl ?_
        refine j_sipush (n := 22) (200) dX11_ways_19 rfl (by decide) ?_
        refine j_iload_n (n := 23) dX11_ways_22 rfl rfl ?_
        refine j_callVi (n := 26) (Y1 := Y_X11_reckon) 0 dX11_ways_23 m_X11_199 cy_X11_reckon ci_X11_reckon (r_reckon hI (k1 := 200) (k2 := j) (by omega) (by omega) hn hx) rfl rfl rfl rfl rfl (by omega) (by omega) (by omega) (Nat.le_of_ble_eq_true rfl) (fun z1 w hh => ?_)
        obtain ⟨rfl, M2, R2, rfl, hS, hB⟩ := hh
        obtain ⟨e1, e2, hf, hg, hsc⟩ := hS
        have hBD : BD (dst (rCT M R) (R 2) l t (el j) (et j)) := BD_dst hI.1 hn.2.1
        dsimp only
        have hX2 : WYX M R M2 R2 := ⟨fun i a b c => hsc.1 i a b, fun i a b c _ _ _ => hsc.2 i a b c⟩
        have l1 := seeN_le (R 2) t l
        have l2 := seeN_le (R 2) (et j) (el j)
        have b1 := hn.2.1
        have b2 := hx.2.1
        have hwyS : wyS (rCT M R) (R 2) l t (el j) (et j) = (wayN (rCT M R) (seeF (R 2) t l) (seeF (R 2) (et j) (el j)) (seeN (R 2) t l) (seeN (R 2) (et j) (el j)), wmi (rCT M R) (seeF (R 2) t l) (seeF (R 2) (et j) (el j)) (seeN (R 2) t l) (seeN (R 2) (et j) (el j)), wot (rCT M R) (seeF (R 2) t l) (seeF (R 2) (et j) (el j)) (seeN (R 2) t l) (seeN (R 2) (et j) (el j)), wco (rCT M R) (seeF (R 2) t l) (seeF (R 2) (et j) (el j)) (seeN (R 2) t l) (seeN (R 2) (et j) (el j))) := rfl
        have hTT : dst (rCT M R) (R 2) l t (el j) (et j) = TT (rCT M R) (seeF (R 2) t l) (seeF (R 2) (et j) (el j)) (seeN (R 2) t l) (seeN (R 2) (et j) (el j)) 0 0 := rfl
        cases hd : dst (rCT M R) (R 2) l t (el j) (et j) with
        | none =>
          refine j_ldc (n := 28) dX11_ways_26 rfl k_X11_134 ?_
          refine j_icmp_lt (n := 31) 33 dX11_ways_28 (by decide) rfl (fun c3 => ?_) (fun c3 => ?_)
          · exact absurd (show nI 1000000 < nI 1000000 from c3) (nI_nlt (by omega) (by omega))
          · refine j_iconst (n := 32) (-1) dX11_ways_31 rfl (by decide) ?_
            exact j_iret dX11_ways_32 rfl rfl (by omega) (by omega) (⟨rfl, M2, R2, rfl, hX2, by rw [hsc.1 37 (by omega) (by omega), hsc.2 24 (by omega) (by omega) (by omega), hsc.2 25 (by omega) (by omega) (by omega), hsc.2 26 (by omega) (by omega) (by omega)]; exact wyEq.rf _⟩)
        | some v =>
          have hv := hBD v hd
          rw [hTT] at hd
          dsimp only
          rw [hwyS]
          have hXf : SGS (R2 13) (seeN (R 2) t l) := fun k hk => by rw [hf k hk]; exact seeF_sg hn.2.2.2.2 k hk
          have hYf : SGS (R2 14) (seeN (R 2) (et j) (el j)) := fun k hk => by rw [hg k hk]; exact seeF_sg hx.2.2.2.2 k hk
          obtain ⟨hI2, eC⟩ := hI.sc hsc
          have hW : WCX M2 R2 (rCT M R) (R2 13) (R2 14) (seeN (R 2) t l) (seeN (R 2) (et j) (el j)) := by
            refine ⟨hI2, eC, rfl, rfl, e1, e2, by omega, by omega, hXf, hYf, fun i j' hi hj' => ?_⟩
            have := hB i j' (by rw [e1]; exact hi) (by rw [e2]; exact hj')
            rw [e1, e2, eC] at this
            exact this
          have hT2 : TT (rCT M R) (R2 13) (R2 14) (seeN (R 2) t l) (seeN (R 2) (et j) (el j)) 0 0 = some v := by
            rw [← hd]; exact TT_congr' hf hg 0 0
          have eN : wayN (rCT M R) (R2 13) (R2 14) (seeN (R 2) t l) (seeN (R 2) (et j) (el j)) = wayN (rCT M R) (seeF (R 2) t l) (seeF (R 2) (et j) (el j)) (seeN (R 2) t l) (seeN (R 2) (et j) (el j)) := wayN_congr hf hg
          refine j_ldc (n := 28) dX11_ways_26 rfl k_X11_134 ?_
          refine j_icmp_lt (n := 31) 33 dX11_ways_28 (by decide) rfl (fun c3 => ?_) (fun c3 => ?_)
          · refine j_aload_n (n := 34) dX11_ways_33 rfl rfl ?_
            refine j_iconst (n := 35) (0) dX11_ways_34 rfl (by decide) ?_
            refine j_put (n := 38) 0 dX11_ways_35 f_X11_211 rfl rfl rfl (Nat.le_of_ble_eq_true rfl) rfl rfl ?_
            refine j_ws (ws' := rW G A (va_up M2 37 0) Z R2 P) rfl ?_
            refine j_nmM (fun M3 n1 n2 => ?_)
            refine j_iconst (n := 39) (0) dX11_ways_38 rfl (by decide) ?_
            refine j_istore_n (n := 40) dX11_ways_39 rfl (by decide) ?_
            refine j_iconst (n := 41) (0) dX11_ways_40 rfl (by decide) ?_
            refine j_istore_n (n := 42) dX11_ways_41 rfl (by decide) ?_
            refine j_keep [0, 2, 3] rfl ?_
            have hb0 : WYB M2 R2 M3 R2 := ⟨n1, fun _ _ _ _ => rfl⟩
            refine wr_loop (M := M2) (R := R2) (fun n M' R' hn' hB' hM' hag => ?_) 40 0 (by omega) rfl v M3 R2 (Nat.zero_le _) (Nat.zero_le _) hT2 (hW.cg hb0) hb0 n2 (fun k hk => by omega)
            refine j_aload_n (n := 263) dX11_ways_262 rfl rfl ?_
            refine j_get (n := 266) 0 dX11_ways_263 f_X11_211 rfl rfl rfl ?_
            refine j_top (nI (wayN (rCT M R) (seeF (R 2) t l) (seeF (R 2) (et j) (el j)) (seeN (R 2) t l) (seeN (R 2) (et j) (el j)))) (by rw [hM', hn', eN]) ?_
            refine j_iret dX11_ways_266 rfl rfl (by omega) (by omega) ⟨rfl, M', R', rfl, ⟨fun i a b c => by rw [hB'.1 i c]; exact hsc.1 i a b, fun i a b c a' b' c' => by rw [hB'.2 i a' b' c']; exact hsc.2 i a b c⟩, by rw [hM', hn', eN], fun k hk => ?_⟩
            have hk' : k < wayN (rCT M R) (R2 13) (R2 14) (seeN (R 2) t l) (seeN (R 2) (et j) (el j)) := by rw [eN]; exact hk
            obtain ⟨q1, q2, q3⟩ := hag k (by rw [hn']; exact hk')
            obtain ⟨p1, p2, p3⟩ := wmi_congr hf hg hT2 hk'
            exact ⟨q1.trans p1, q2.trans p2, q3.trans p3⟩
          · exact absurd (show nI v < nI 1000000 from nI_lt (by omega) (by omega)) c3
  · rw [if_pos (b01_0 c)]
    refine j_bipush (n := 10) (-2) dX11_ways_8 rfl (by decide) ?_
    exact j_iret dX11_ways_10 rfl rfl (by omega) (by omega) (⟨rfl, M, R, rfl, hrf, wyEq.rf _⟩)
end RM

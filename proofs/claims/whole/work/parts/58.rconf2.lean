/-! the reference: confuse -/
section R9
variable {G : GT} {A M : Nat → Nat} {Z : Nat → Int32} {R : Nat → Nat → Int32} {P ws : va_W}
/-- only the confusions and their nodes differ -/
def RCH (M : Nat → Nat) (R : Nat → Nat → Int32) (M' : Nat → Nat) (R' : Nat → Nat → Int32) : Prop := (∀ i, i ≠ 4 → i ≠ 8 → M' i = M i) ∧ ∀ i, i < 4 ∨ 9 < i → R' i = R i
theorem RCH.rf (M : Nat → Nat) (R : Nat → Nat → Int32) : RCH M R M R := ⟨fun _ _ _ => rfl, fun _ _ => rfl⟩
abbrev CFP (G : GT) (A M : Nat → Nat) (Z : Nat → Int32) (R : Nat → Nat → Int32) (P : va_W) (S : Int32 × CT × Bool) : OT := Qi (fun r w => r = S.1 ∧ ∃ (M' : Nat → Nat) (R' : Nat → Nat → Int32), w = rW G A M' Z R' P ∧ rCT M' R' = S.2.1 ∧ RNI M' R' ∧ RCH M R M' R')
theorem cf_end {S : Int32 × CT × Bool} {M1 : Nat → Nat} {R1 : Nat → Nat → Int32} {p q c e : Int32} (hok : CTok (rCT M1 R1)) (hS : rCT M1 R1 = S.2.1) (hc : RCH M R M1 R1) : JJ G Y_X11_confuse 3 0 0 (CFP G A M Z R P S) 202 [(0, .ref (A 0)), (1, .int p), (2, .int q), (3, .int c), (4, .int e), (5, .int S.1)] [] (rW G A M1 Z R1 P) 0 0 := by
  refine j_aload_n (n := 203) dX11_confuse_202 rfl rfl ?_
  refine j_callVv (n := 206) (Y1 := Y_X11_makeNodes) 0 dX11_confuse_203 m_X11_103 cy_X11_makeNodes ci_X11_makeNodes (r_makeNodes hok) rfl rfl rfl rfl rfl (by omega) (by omega) (by omega) (Nat.le_of_ble_eq_true rfl) (fun w h => ?_)
  obtain ⟨o, t, cs, rfl, hN, hX⟩ := h
  refine j_iload (n := 208) dX11_confuse_206 rfl rfl ?_
  have hI : RNI (va_up M1 8 (nd (rCT M1 R1)).2) (nR R1 o t cs) := ⟨hok, rfl, hN, hX⟩
  have hC : RCH M R (va_up M1 8 (nd (rCT M1 R1)).2) (nR R1 o t cs) := by
    refine ⟨fun i h4 h8 => ?_, fun i hi => ?_⟩
    · rw [va_up_ne _ _ h8]; exact hc.1 i h4 h8
    · unfold nR
      rw [va_up_ne _ _ (by omega), va_up_ne _ _ (by omega), va_up_ne _ _ (by omega)]; exact hc.2 i hi
  exact j_iret dX11_confuse_208 rfl rfl (by omega) (by omega) (⟨rfl, _, _, rfl, hS, hI, hC⟩)
theorem cf_bad {p q c : Int32} {S : Int32 × CT × Bool} (hI : RNI M R) (hS : S = (-2, rCT M R, false)) : JJ G Y_X11_confuse 3 0 0 (CFP G A M Z R P S) 29 [(0, .ref (A 0)), (1, .int p), (2, .int q), (3, .int c)] [] (rW G A M Z R P) 0 0 := by
  refine j_bipush (n := 31) (-2) dX11_confuse_29 rfl (by decide) ?_
  subst hS
  exact j_iret dX11_confuse_31 rfl rfl (by omega) (by omega) (⟨rfl, M, R, rfl, rfl, hI, RCH.rf M R⟩)
theorem cf_forget {p q c : Int32} (hI : RNI M R) (hc : c = -1) (hk : okCon p q c = true) : JJ G Y_X11_confuse 3 0 0 (CFP G A M Z R P (forgetS (rCT M R) p q)) 38 [(0, .ref (A 0)), (1, .int p), (2, .int q), (3, .int c)] [.int (oI (fnd (rCT M R) p q))] (rW G A M Z R P) 0 0 := by
  have h60 : M 4 ≤ 60 := hI.1.1
  subst hc
  have hok := conS_ok (p := p) (q := q) (c := -1) hI.1
  rw [show conS (rCT M R) p q (-1) = forgetS (rCT M R) p q by unfold conS; rw [if_pos hk, if_pos rfl]] at hok
  cases hf : fnd (rCT M R) p q with
  | none =>
    have hS : forgetS (rCT M R) p q = (-1, rCT M R, false) := by unfold forgetS; rw [hf]
    rw [hS]
    refine j_istore (n := 40) dX11_confuse_38 rfl (by decide) ?_
    refine j_iload (n := 42) dX11_confuse_40 rfl rfl ?_
    refine j_iconst (n := 43) (-1) dX11_confuse_42 rfl (by decide) ?_
    refine j_icmp_ne (n := 46) 50 dX11_confuse_43 (by decide) rfl (fun c1 => ?_) (fun c1 => ?_)
    · exact absurd rfl c1
    · refine j_iconst (n := 47) (-1) dX11_confuse_46 rfl (by decide) ?_
      refine j_goto 57 dX11_confuse_47 (by decide) ?_
      refine j_istore (n := 59) dX11_confuse_57 rfl (by decide) ?_
      refine j_iload_n (n := 60) dX11_confuse_59 rfl rfl ?_
      refine j_iconst (n := 61) (-1) dX11_confuse_60 rfl (by decide) ?_
      refine j_icmp_ne (n := 64) 133 dX11_confuse_61 (by decide) rfl (fun c2 => ?_) (fun c2 => ?_)
      · exact absurd rfl c2
      · refine j_iload (n := 66) dX11_confuse_64 rfl rfl ?_
        refine j_iconst (n := 67) (-1) dX11_confuse_66 rfl (by decide) ?_
        refine j_icmp_ne (n := 70) 72 dX11_confuse_67 (by decide) rfl (fun c3 => ?_) (fun c3 => ?_)
        · exact absurd rfl c3
        · refine j_iconst (n := 71) (-1) dX11_confuse_70 rfl (by decide) ?_
          exact j_iret dX11_confuse_71 rfl rfl (by omega) (by omega) (⟨rfl, M, R, rfl, rfl, hI, RCH.rf M R⟩)
  | some i =>
    have hlt := fndA_lt (M 4) 0 i hf
    have hi : i < M 4 := by omega
    obtain ⟨n, hn⟩ : ∃ n, M 4 = n + 1 := ⟨M 4 - 1, by omega⟩
    have hS : forgetS (rCT M R) p q = (R 6 i, (M 4 - 1, upd (R 4) i (R 4 (M 4 - 1)), upd (R 5) i (R 5 (M 4 - 1)), upd (R 6) i (R 6 (M 4 - 1))), true) := by unfold forgetS; rw [hf]
    rw [hS] at hok ⊢
    rw [hn, Nat.add_sub_cancel] at hok ⊢
    have hend := fun e => cf_end (G := G) (A := A) (Z := Z) (P := P) (M := M) (R := R) (S := (R 6 i, (n, upd (R 4) i (R 4 n), upd (R 5) i (R 5 n), upd (R 6) i (R 6 n)), true)) (M1 := va_up M 4 n) (R1 := va_up (va_up (va_up R 4 (upd (R 4) i (R 4 n))) 5 (upd (R 5) i (R 5 n))) 6 (upd (R 6) i (R 6 n))) (p := p) (q := q) (c := -1) (e := e) hok rfl ⟨fun j h4 h8 => va_up_ne _ _ h4, fun j hj => by rw [va_up_ne _ _ (by omega), va_up_ne _ _ (by omega), va_up_ne _ _ (by omega)]⟩
    refine j_istore (n := 40) dX11_confuse_38 rfl (by decide) ?_
    refine j_iload (n := 42) dX11_confuse_40 rfl rfl ?_
    refine j_iconst (n := 43) (-1) dX11_confuse_42 rfl (by decide) ?_
    refine j_icmp_ne (n := 46) 50 dX11_confuse_43 (by decide) rfl (fun c1 => ?_) (fun c1 => ?_)
    · refine j_aload_n (n := 51) dX11_confuse_50 rfl rfl ?_
      refine j_get (n := 54) 0 dX11_confuse_51 f_X11_26 rfl rfl rfl ?_
      refine j_iload (n := 56) dX11_confuse_54 rfl rfl ?_
      refine j_iald (n := 57) 6 i dX11_confuse_56 rfl rfl rfl (by omega) (by omega) ?_
      refine j_istore (n := 59) dX11_confuse_57 rfl (by decide) ?_
      refine j_iload_n (n := 60) dX11_confuse_59 rfl rfl ?_
      refine j_iconst (n := 61) (-1) dX11_confuse_60 rfl (by decide) ?_
      refine j_icmp_ne (n := 64) 133 dX11_confuse_61 (by decide) rfl (fun c2 => ?_) (fun c2 => ?_)
      · exact absurd rfl c2
      · refine j_iload (n := 66) dX11_confuse_64 rfl rfl ?_
        refine j_iconst (n := 67) (-1) dX11_confuse_66 rfl (by decide) ?_
        refine j_icmp_ne (n := 70) 72 dX11_confuse_67 (by decide) rfl (fun c3 => ?_) (fun c3 => ?_)
        · refine j_aload_n (n := 73) dX11_confuse_72 rfl rfl ?_
          refine j_dup (n := 74) dX11_confuse_73 rfl rfl ?_
          refine j_get (n := 77) 0 dX11_confuse_74 f_X11_117 rfl rfl rfl ?_
          refine j_iconst (n := 78) (1) dX11_confuse_77 rfl (by decide) ?_
          refine j_isub (n := 79) dX11_confuse_78 rfl ?_
          refine j_top (nI n) (by rw [hn]; exact nI_sub1 n) ?_
          refine j_put (n := 82) 0 dX11_confuse_79 f_X11_117 rfl rfl rfl (Nat.le_of_ble_eq_true rfl) rfl rfl ?_
          refine j_ws (ws' := rW G A (va_up M 4 n) Z R P) rfl ?_
          refine j_aload_n (n := 83) dX11_confuse_82 rfl rfl ?_
          refine j_get (n := 86) 0 dX11_confuse_83 f_X11_20 rfl rfl rfl ?_
          refine j_iload (n := 88) dX11_confuse_86 rfl rfl ?_
          refine j_aload_n (n := 89) dX11_confuse_88 rfl rfl ?_
          refine j_get (n := 92) 0 dX11_confuse_89 f_X11_20 rfl rfl rfl ?_
          refine j_aload_n (n := 93) dX11_confuse_92 rfl rfl ?_
          refine j_get (n := 96) 0 dX11_confuse_93 f_X11_117 rfl rfl rfl ?_
          refine j_iald (n := 97) 4 n dX11_confuse_96 rfl rfl rfl (by omega) (by omega) ?_
          refine j_iast (n := 98) 4 i dX11_confuse_97 rfl rfl rfl (by omega) (by omega) ?_
          refine j_ws (ws' := rW G A (va_up M 4 n) Z (va_up R 4 (upd (R 4) i (R 4 n))) P) rfl ?_
          refine j_aload_n (n := 99) dX11_confuse_98 rfl rfl ?_
          refine j_get (n := 102) 0 dX11_confuse_99 f_X11_23 rfl rfl rfl ?_
          refine j_iload (n := 104) dX11_confuse_102 rfl rfl ?_
          refine j_aload_n (n := 105) dX11_confuse_104 rfl rfl ?_
          refine j_get (n := 108) 0 dX11_confuse_105 f_X11_23 rfl rfl rfl ?_
          refine j_aload_n (n := 109) dX11_confuse_108 rfl rfl ?_
          refine j_get (n := 112) 0 dX11_confuse_109 f_X11_117 rfl rfl rfl ?_
          refine j_iald (n := 113) 5 n dX11_confuse_112 rfl rfl rfl (by omega) (by omega) ?_
          refine j_iast (n := 114) 5 i dX11_confuse_113 rfl rfl rfl (by omega) (by omega) ?_
          refine j_ws (ws' := rW G A (va_up M 4 n) Z (va_up (va_up R 4 (upd (R 4) i (R 4 n))) 5 (upd (R 5) i (R 5 n))) P) rfl ?_
          refine j_aload_n (n := 115) dX11_confuse_114 rfl rfl ?_
          refine j_get (n := 118) 0 dX11_confuse_115 f_X11_26 rfl rfl rfl ?_
          refine j_iload (n := 120) dX11_confuse_118 rfl rfl ?_
          refine j_aload_n (n := 121) dX11_confuse_120 rfl rfl ?_
          refine j_get (n := 124) 0 dX11_confuse_121 f_X11_26 rfl rfl rfl ?_
          refine j_aload_n (n := 125) dX11_confuse_124 rfl rfl ?_
          refine j_get (n := 128) 0 dX11_confuse_125 f_X11_117 rfl rfl rfl ?_
          refine j_iald (n := 129) 6 n dX11_confuse_128 rfl rfl rfl (by omega) (by omega) ?_
          refine j_iast (n := 130) 6 i dX11_confuse_129 rfl rfl rfl (by omega) (by omega) ?_
          refine j_ws (ws' := rW G A (va_up M 4 n) Z (va_up (va_up (va_up R 4 (upd (R 4) i (R 4 n))) 5 (upd (R 5) i (R 5 n))) 6 (upd (R 6) i (R 6 n))) P) rfl ?_
          refine j_goto 202 dX11_confuse_130 (by decide) ?_
          exact hend _
        · exact absurd c3 (nI_nm1 (by omega))
    · exact absurd c1 (nI_nm1 (by omega))
theorem cf_tell {p q c : Int32} (hI : RNI M R) (hc : ¬ c = -1) (hk : okCon p q c = true) : JJ G Y_X11_confuse 3 0 0 (CFP G A M Z R P (tellS (rCT M R) p q c)) 38 [(0, .ref (A 0)), (1, .int p), (2, .int q), (3, .int c)] [.int (oI (fnd (rCT M R) p q))] (rW G A M Z R P) 0 0 := by
  have h60 : M 4 ≤ 60 := hI.1.1
  have hok := conS_ok (p := p) (q := q) (c := c) hI.1
  rw [show conS (rCT M R) p q c = tellS (rCT M R) p q c by unfold conS; rw [if_pos hk, if_neg hc]] at hok
  cases hf : fnd (rCT M R) p q with
  | none =>
    have hS : tellS (rCT M R) p q c = if 60 ≤ M 4 then (-3, rCT M R, false) else (-1, (M 4 + 1, upd (R 4) (M 4) p, upd (R 5) (M 4) q, upd (R 6) (M 4) c), true) := by unfold tellS; rw [hf]
    rw [hS] at hok ⊢
    refine j_istore (n := 40) dX11_confuse_38 rfl (by decide) ?_
    refine j_iload (n := 42) dX11_confuse_40 rfl rfl ?_
    refine j_iconst (n := 43) (-1) dX11_confuse_42 rfl (by decide) ?_
    refine j_icmp_ne (n := 46) 50 dX11_confuse_43 (by decide) rfl (fun c1 => ?_) (fun c1 => ?_)
    · exact absurd rfl c1
    · refine j_iconst (n := 47) (-1) dX11_confuse_46 rfl (by decide) ?_
      refine j_goto 57 dX11_confuse_47 (by decide) ?_
      refine j_istore (n := 59) dX11_confuse_57 rfl (by decide) ?_
      refine j_iload_n (n := 60) dX11_confuse_59 rfl rfl ?_
      refine j_iconst (n := 61) (-1) dX11_confuse_60 rfl (by decide) ?_
      refine j_icmp_ne (n := 64) 133 dX11_confuse_61 (by decide) rfl (fun c2 => ?_) (fun c2 => ?_)
      · refine j_iload (n := 135) dX11_confuse_133 rfl rfl ?_
        refine j_iconst (n := 136) (-1) dX11_confuse_135 rfl (by decide) ?_
        refine j_icmp_eq (n := 139) 150 dX11_confuse_136 (by decide) rfl (fun c3 => ?_) (fun c3 => ?_)
        · refine j_aload_n (n := 151) dX11_confuse_150 rfl rfl ?_
          refine j_get (n := 154) 0 dX11_confuse_151 f_X11_117 rfl rfl rfl ?_
          refine j_bipush (n := 156) (60) dX11_confuse_154 rfl (by decide) ?_
          refine j_icmp_ne (n := 159) 162 dX11_confuse_156 (by decide) rfl (fun c4 => ?_) (fun c4 => ?_)
          · have h1 : ¬ 60 ≤ M 4 := fun q => c4 (show nI (M 4) = nI 60 by rw [show M 4 = 60 by omega])
            rw [if_neg h1] at hok ⊢
            have hend := fun e => cf_end (G := G) (A := A) (Z := Z) (P := P) (M := M) (R := R) (S := (-1, (M 4 + 1, upd (R 4) (M 4) p, upd (R 5) (M 4) q, upd (R 6) (M 4) c), true)) (M1 := va_up M 4 (M 4 + 1)) (R1 := va_up (va_up (va_up R 4 (upd (R 4) (M 4) p)) 5 (upd (R 5) (M 4) q)) 6 (upd (R 6) (M 4) c)) (p := p) (q := q) (c := c) (e := e) hok rfl ⟨fun j h4 h8 => va_up_ne _ _ h4, fun j hj => by rw [va_up_ne _ _ (by omega), va_up_ne _ _ (by omega), va_up_ne _ _ (by omega)]⟩
            refine j_aload_n (n := 163) dX11_confuse_162 rfl rfl ?_
            refine j_get (n := 166) 0 dX11_confuse_163 f_X11_20 rfl rfl rfl ?_
            refine j_aload_n (n := 167) dX11_confuse_166 rfl rfl ?_
            refine j_get (n := 170) 0 dX11_confuse_167 f_X11_117 rfl rfl rfl ?_
            refine j_iload_n (n := 171) dX11_confuse_170 rfl rfl ?_
            refine j_iast (n := 172) 4 (M 4) dX11_confuse_171 rfl rfl rfl (by omega) (by omega) ?_
            refine j_ws (ws' := rW G A M Z (va_up R 4 (upd (R 4) (M 4) p)) P) rfl ?_
            refine j_aload_n (n := 173) dX11_confuse_172 rfl rfl ?_
            refine j_get (n := 176) 0 dX11_confuse_173 f_X11_23 rfl rfl rfl ?_
            refine j_aload_n (n := 177) dX11_confuse_176 rfl rfl ?_
            refine j_get (n := 180) 0 dX11_confuse_177 f_X11_117 rfl rfl rfl ?_
            refine j_iload_n (n := 181) dX11_confuse_180 rfl rfl ?_
            refine j_iast (n := 182) 5 (M 4) dX11_confuse_181 rfl rfl rfl (by omega) (by omega) ?_
            refine j_ws (ws' := rW G A M Z (va_up (va_up R 4 (upd (R 4) (M 4) p)) 5 (upd (R 5) (M 4) q)) P) rfl ?_
            refine j_aload_n (n := 183) dX11_confuse_182 rfl rfl ?_
            refine j_get (n := 186) 0 dX11_confuse_183 f_X11_26 rfl rfl rfl ?_
            refine j_aload_n (n := 187) dX11_confuse_186 rfl rfl ?_
            refine j_get (n := 190) 0 dX11_confuse_187 f_X11_117 rfl rfl rfl ?_
            refine j_iload_n (n := 191) dX11_confuse_190 rfl rfl ?_
            refine j_iast (n := 192) 6 (M 4) dX11_confuse_191 rfl rfl rfl (by omega) (by omega) ?_
            refine j_ws (ws' := rW G A M Z (va_up (va_up (va_up R 4 (upd (R 4) (M 4) p)) 5 (upd (R 5) (M 4) q)) 6 (upd (R 6) (M 4) c)) P) rfl ?_
            refine j_aload_n (n := 193) dX11_confuse_192 rfl rfl ?_
            refine j_dup (n := 194) dX11_confuse_193 rfl rfl ?_
            refine j_get (n := 197) 0 dX11_confuse_194 f_X11_117 rfl rfl rfl ?_
            refine j_iconst (n := 198) (1) dX11_confuse_197 rfl (by decide) ?_
            refine j_iadd (n := 199) dX11_confuse_198 rfl ?_
            refine j_top (nI (M 4 + 1)) (nI_inc (M 4)) ?_
            refine j_put (n := 202) 0 dX11_confuse_199 f_X11_117 rfl rfl rfl (Nat.le_of_ble_eq_true rfl) rfl rfl ?_
            refine j_ws (ws' := rW G A (va_up M 4 (M 4 + 1)) Z (va_up (va_up (va_up R 4 (upd (R 4) (M 4) p)) 5 (upd (R 5) (M 4) q)) 6 (upd (R 6) (M 4) c)) P) rfl ?_
            exact hend _
          · have h1 : 60 ≤ M 4 := Nat.le_of_eq ((nI_eq (by omega) (by omega)).mp (show nI 60 = nI (M 4) from (show nI (M 4) = nI 60 from c4).symm))
            rw [if_pos h1]
            refine j_bipush (n := 161) (-3) dX11_confuse_159 rfl (by decide) ?_
            exact j_iret dX11_confuse_161 rfl rfl (by omega) (by omega) (⟨rfl, M, R, rfl, rfl, hI, RCH.rf M R⟩)
        · exact absurd rfl c3
      · exact absurd c2 hc
  | some i =>
    have hlt := fndA_lt (M 4) 0 i hf
    have hi : i < M 4 := by omega
    have hS : tellS (rCT M R) p q c = (R 6 i, (M 4, R 4, R 5, upd (R 6) i c), true) := by unfold tellS; rw [hf]
    rw [hS] at hok ⊢
    have hend := fun e => cf_end (G := G) (A := A) (Z := Z) (P := P) (M := M) (R := R) (S := (R 6 i, (M 4, R 4, R 5, upd (R 6) i c), true)) (M1 := M) (R1 := va_up R 6 (upd (R 6) i c)) (p := p) (q := q) (c := c) (e := e) hok rfl ⟨fun j h4 h8 => rfl, fun j hj => va_up_ne _ _ (by omega)⟩
    refine j_istore (n := 40) dX11_confuse_38 rfl (by decide) ?_
    refine j_iload (n := 42) dX11_confuse_40 rfl rfl ?_
    refine j_iconst (n := 43) (-1) dX11_confuse_42 rfl (by decide) ?_
    refine j_icmp_ne (n := 46) 50 dX11_confuse_43 (by decide) rfl (fun c1 => ?_) (fun c1 => ?_)
    · refine j_aload_n (n := 51) dX11_confuse_50 rfl rfl ?_
      refine j_get (n := 54) 0 dX11_confuse_51 f_X11_26 rfl rfl rfl ?_
      refine j_iload (n := 56) dX11_confuse_54 rfl rfl ?_
      refine j_iald (n := 57) 6 i dX11_confuse_56 rfl rfl rfl (by omega) (by omega) ?_
      refine j_istore (n := 59) dX11_confuse_57 rfl (by decide) ?_
      refine j_iload_n (n := 60) dX11_confuse_59 rfl rfl ?_
      refine j_iconst (n := 61) (-1) dX11_confuse_60 rfl (by decide) ?_
      refine j_icmp_ne (n := 64) 133 dX11_confuse_61 (by decide) rfl (fun c2 => ?_) (fun c2 => ?_)
      · refine j_iload (n := 135) dX11_confuse_133 rfl rfl ?_
        refine j_iconst (n := 136) (-1) dX11_confuse_135 rfl (by decide) ?_
        refine j_icmp_eq (n := 139) 150 dX11_confuse_136 (by decide) rfl (fun c3 => ?_) (fun c3 => ?_)
        · exact absurd c3 (nI_nm1 (by omega))
        · refine j_aload_n (n := 140) dX11_confuse_139 rfl rfl ?_
          refine j_get (n := 143) 0 dX11_confuse_140 f_X11_26 rfl rfl rfl ?_
          refine j_iload (n := 145) dX11_confuse_143 rfl rfl ?_
          refine j_iload_n (n := 146) dX11_confuse_145 rfl rfl ?_
          refine j_iast (n := 147) 6 i dX11_confuse_146 rfl rfl rfl (by omega) (by omega) ?_
          refine j_ws (ws' := rW G A M Z (va_up R 6 (upd (R 6) i c)) P) rfl ?_
          refine j_goto 202 dX11_confuse_147 (by decide) ?_
          exact hend _
      · exact absurd c2 hc
    · exact absurd c1 (nI_nm1 (by omega))
theorem r_confuse {p q c : Int32} (hI : RNI M R) : JM G Y_X11_confuse 3 0 0 [.ref (A 0), .int p, .int q, .int c] (rW G A M Z R P) (CFP G A M Z R P (conS (rCT M R) p q c)) := by
  have hbad : okCon p q c = false → conS (rCT M R) p q c = (-2, rCT M R, false) := fun h => if_neg (by rw [h]; exact Bool.noConfusion)
  refine JM.of [(0, .ref (A 0)), (1, .int p), (2, .int q), (3, .int c)] rfl rfl (by simp) (Nat.le_of_ble_eq_true rfl) (by decide +kernel) ?_
  refine j_iload_n (n := 1) dX11_confuse_0 rfl rfl ?_
  refine j_callSe (n := 4) (Y1 := Y_X11_isPiece) dX11_confuse_1 m_X11_120 cy_X11_isPiece cs_X11_isPiece (r_isPiece) rfl rfl rfl (by omega) (by omega) (by omega) (Nat.le_of_ble_eq_true rfl) ?_
  refine j_if_eq (n := 7) 29 dX11_confuse_4 (by decide) rfl (fun c1 => ?_) (fun c1 => ?_)
  · exact cf_bad hI (hbad (by unfold okCon; rw [b01_0 c1]; rfl))
  · refine j_iload_n (n := 8) dX11_confuse_7 rfl rfl ?_
    refine j_callSe (n := 11) (Y1 := Y_X11_isPiece) dX11_confuse_8 m_X11_120 cy_X11_isPiece cs_X11_isPiece (r_isPiece) rfl rfl rfl (by omega) (by omega) (by omega) (Nat.le_of_ble_eq_true rfl) ?_
    refine j_if_eq (n := 14) 29 dX11_confuse_11 (by decide) rfl (fun c2 => ?_) (fun c2 => ?_)
    · exact cf_bad hI (hbad (by unfold okCon; rw [b01_0 c2, Bool.and_false]; rfl))
    · refine j_iload_n (n := 15) dX11_confuse_14 rfl rfl ?_
      refine j_iload_n (n := 16) dX11_confuse_15 rfl rfl ?_
      refine j_icmp_eq (n := 19) 29 dX11_confuse_16 (by decide) rfl (fun c3 => ?_) (fun c3 => ?_)
      · exact cf_bad hI (hbad (by unfold okCon; rw [decide_eq_false (p := ¬ p = q) (fun h => h c3), Bool.and_false]; rfl))
      · refine j_iload_n (n := 20) dX11_confuse_19 rfl rfl ?_
        refine j_iconst (n := 21) (-1) dX11_confuse_20 rfl (by decide) ?_
        refine j_bipush (n := 23) (20) dX11_confuse_21 rfl (by decide) ?_
        refine j_callSe (n := 26) (Y1 := Y_X11_in) dX11_confuse_23 m_X11_106 cy_X11_in cs_X11_in (r_in) rfl rfl rfl (by omega) (by omega) (by omega) (Nat.le_of_ble_eq_true rfl) ?_
        rw [btw_and]
        refine j_if_ne (n := 29) 32 dX11_confuse_26 (by decide) rfl (fun c4 => ?_) (fun c4 => ?_)
        · have hk : okCon p q c = true := by unfold okCon; rw [b01_n0 c1, b01_n0 c2, decide_eq_true c3, b01_n0 c4]; rfl
          refine j_aload_n (n := 33) dX11_confuse_32 rfl rfl ?_
          refine j_iload_n (n := 34) dX11_confuse_33 rfl rfl ?_
          refine j_iload_n (n := 35) dX11_confuse_34 rfl rfl ?_
          refine j_callVe (n := 38) (Y1 := Y_X11_find) 0 dX11_confuse_35 m_X11_123 cy_X11_find ci_X11_find (r_find hI.1.1) rfl rfl rfl rfl rfl (by omega) (by omega) (by omega) (Nat.le_of_ble_eq_true rfl) ?_
          by_cases hc : c = -1
          · rw [show conS (rCT M R) p q c = forgetS (rCT M R) p q by unfold conS; rw [if_pos hk, if_pos hc]]
            exact cf_forget hI hc hk
          · rw [show conS (rCT M R) p q c = tellS (rCT M R) p q c by unfold conS; rw [if_pos hk, if_neg hc]]
            exact cf_tell hI hc hk
        · refine j_bipush (n := 31) (-2) dX11_confuse_29 rfl (by decide) ?_
          have hb := hbad (by unfold okCon; rw [b01_0 c4, Bool.and_false])
          rw [hb]
          exact j_iret dX11_confuse_31 rfl rfl (by omega) (by omega) (⟨rfl, M, R, rfl, rfl, hI, RCH.rf M R⟩)
end R9

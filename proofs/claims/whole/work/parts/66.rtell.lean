/-! the reference: far, about -/
theorem stnd_j {en : Nat} {es : Nat → Int32} {e : Int32} (hn : en ≤ 200) (h : stnd en es e = true) : ∃ j : Nat, j < en ∧ e = nI j ∧ ¬ es j = 0 := by
  unfold stnd at h
  rcases ix3 e (n := en) (by omega) with hi | hi | ⟨j, hj, rfl⟩
  · rw [decide_eq_false (p := ¬ (e < 0 ∨ nI en ≤ e)) (fun q => q (Or.inl hi))] at h; cases h
  · rw [decide_eq_false (p := ¬ (e < 0 ∨ nI en ≤ e)) (fun q => q (Or.inr hi))] at h; cases h
  · rw [nI_clamp (show j < 2 ^ 31 by omega)] at h
    refine ⟨j, hj, rfl, ?_⟩
    intro q
    rw [decide_eq_false (p := ¬ es j = 0) (fun z => z q), Bool.and_false] at h
    cases h
section RH
variable {G : GT} {A M : Nat → Nat} {Z : Nat → Int32} {R : Nat → Nat → Int32} {P ws : va_W} {el : Nat → Nat} {et : Nat → Nat → Int32} {rf rw : Nat → Nat} {rs : Nat → Int32} {ns : Option (Nat × (Nat → Int32))}
theorem r_far {e : Int32} (hI : RNI M R) (hE : RET M R el et) (hN : RNM Z R ns) : JM G Y_X11_far 3 0 0 [.ref (A 0), .int e] (rW G A M Z R P) (AKP G A M Z R P (farS (rCT M R) (R 2) (M 27) (R 21) el et ns e)) := by
  have h27 := hE.1
  unfold farS
  refine JM.of [(0, .ref (A 0)), (1, .int e)] rfl rfl (by simp) (Nat.le_of_ble_eq_true rfl) (by decide +kernel) ?_
  refine j_aload_n (n := 1) dX11_far_0 rfl rfl ?_
  refine j_iload_n (n := 2) dX11_far_1 rfl rfl ?_
  refine j_callVe (n := 5) (Y1 := Y_X11_isEntry) 0 dX11_far_2 m_X11_205 cy_X11_isEntry ci_X11_isEntry (r_isEntry h27) rfl rfl rfl rfl rfl (by omega) (by omega) (by omega) (Nat.le_of_ble_eq_true rfl) ?_
  refine j_if_ne (n := 8) 11 dX11_far_5 (by decide) rfl (fun c => ?_) (fun c => ?_)
  · have c := b01_n0 c
    obtain ⟨j, hj, rfl, hs⟩ := stnd_j h27 c
    rw [if_neg (by rw [c]; exact Bool.noConfusion), nI_clamp (show j < 2 ^ 31 by omega)]
    rcases hN with ⟨z, rfl⟩ | ⟨z, l, t, rfl, hn⟩
    · refine j_aload_n (n := 12) dX11_far_11 rfl rfl ?_
      refine j_get (n := 15) 0 dX11_far_12 f_X11_158 rfl rfl rfl ?_
      refine j_if_ne (n := 18) 20 dX11_far_15 (by decide) rfl (fun c2 => ?_) (fun c2 => ?_)
      · exact absurd z c2
      · refine j_iconst (n := 19) (-1) dX11_far_18 rfl (by decide) ?_
        exact j_iret dX11_far_19 rfl rfl (by omega) (by omega) (⟨rfl, M, R, rfl, RSC.rf M R⟩)
    · refine j_aload_n (n := 12) dX11_far_11 rfl rfl ?_
      refine j_get (n := 15) 0 dX11_far_12 f_X11_158 rfl rfl rfl ?_
      refine j_if_ne (n := 18) 20 dX11_far_15 (by decide) rfl (fun c2 => ?_) (fun c2 => ?_)
      · refine j_aload_n (n := 21) dX11_far_20 rfl rfl ?_
        refine j_sipush (n := 24) (200) dX11_far_21 rfl (by decide) ?_
        refine j_iload_n (n := 25) dX11_far_24 rfl rfl ?_
        refine j_callVi (n := 28) (Y1 := Y_X11_reckon) 0 dX11_far_25 m_X11_199 cy_X11_reckon ci_X11_reckon (r_reckon hI (k1 := 200) (k2 := j) (by omega) (by omega) hn (hE.2 j hj).1) rfl rfl rfl rfl rfl (by omega) (by omega) (by omega) (Nat.le_of_ble_eq_true rfl) (fun z1 w hh => ?_)
        obtain ⟨rfl, M2, R2, rfl, hS, -⟩ := hh
        have hB : BD (dst (rCT M R) (R 2) l t (el j) (et j)) := BD_dst hI.1 hn.2.1
        dsimp only
        generalize dst (rCT M R) (R 2) l t (el j) (et j) = D at hB ⊢
        cases D with
        | none =>
          refine j_istore_n (n := 29) dX11_far_28 rfl (by decide) ?_
          refine j_iload_n (n := 30) dX11_far_29 rfl rfl ?_
          refine j_ldc (n := 32) dX11_far_30 rfl k_X11_134 ?_
          refine j_icmp_lt (n := 35) 39 dX11_far_32 (by decide) rfl (fun c3 => ?_) (fun c3 => ?_)
          · exact absurd (show nI 1000000 < nI 1000000 from c3) (nI_nlt (by omega) (by omega))
          · refine j_iconst (n := 36) (-1) dX11_far_35 rfl (by decide) ?_
            refine j_goto 40 dX11_far_36 (by decide) ?_
            exact j_iret dX11_far_40 rfl rfl (by omega) (by omega) (⟨rfl, M2, R2, rfl, hS.2.2.2.2⟩)
        | some v =>
          have hv := hB v rfl
          have hw : nI v = wlim 536870911 (some v) := by
            show nI v = if v ≤ 536870911 then nI v else -1
            rw [if_pos (by omega)]
          refine j_istore_n (n := 29) dX11_far_28 rfl (by decide) ?_
          refine j_iload_n (n := 30) dX11_far_29 rfl rfl ?_
          refine j_ldc (n := 32) dX11_far_30 rfl k_X11_134 ?_
          refine j_icmp_lt (n := 35) 39 dX11_far_32 (by decide) rfl (fun c3 => ?_) (fun c3 => ?_)
          · refine j_iload_n (n := 40) dX11_far_39 rfl rfl ?_
            exact j_iret dX11_far_40 rfl rfl (by omega) (by omega) (⟨hw, M2, R2, rfl, hS.2.2.2.2⟩)
          · exact absurd (show nI v < nI 1000000 from nI_lt (by omega) (by omega)) c3
      · exact absurd (z.symm.trans c2) (by decide)
  · rw [if_pos (b01_0 c)]
    refine j_bipush (n := 10) (-2) dX11_far_8 rfl (by decide) ?_
    exact j_iret dX11_far_10 rfl rfl (by omega) (by omega) (⟨rfl, M, R, rfl, RSC.rf M R⟩)
theorem r_about {w : Int32} (hN : RNM Z R ns) (h12 : M 12 ≤ 8) : JM G Y_X11_about 4 0 0 [.ref (A 0), .int w] (rW G A M Z R P) (AKP G A M Z R P (abS (R 1) (R 2) (M 12) (R 10) ns w)) := by
  refine JM.of [(0, .ref (A 0)), (1, .int w)] rfl rfl (by simp) (Nat.le_of_ble_eq_true rfl) (by decide +kernel) ?_
  refine j_aload_n (n := 1) dX11_about_0 rfl rfl ?_
  refine j_get (n := 4) 0 dX11_about_1 f_X11_158 rfl rfl rfl ?_
  rcases hN with ⟨z, rfl⟩ | ⟨z, l, t, rfl, hn⟩
  · refine j_if_ne (n := 7) 9 dX11_about_4 (by decide) rfl (fun c => ?_) (fun c => ?_)
    · exact absurd z c
    · refine j_iconst (n := 8) (-1) dX11_about_7 rfl (by decide) ?_
      exact j_iret dX11_about_8 rfl rfl (by omega) (by omega) (⟨rfl, M, R, rfl, RSC.rf M R⟩)
  · have hab : abS (R 1) (R 2) (M 12) (R 10) (some (l, t)) w = abW (R 1) (R 2) (M 12) (R 10) l t w := rfl
    rw [hab]
    refine j_if_ne (n := 7) 9 dX11_about_4 (by decide) rfl (fun c => ?_) (fun c => ?_)
    · refine j_aload_n (n := 10) dX11_about_9 rfl rfl ?_
      refine j_sipush (n := 13) (200) dX11_about_10 rfl (by decide) ?_
      refine j_aload_n (n := 14) dX11_about_13 rfl rfl ?_
      refine j_get (n := 17) 0 dX11_about_14 f_X11_51 rfl rfl rfl ?_
      refine j_callVi (n := 20) (Y1 := Y_X11_see) 0 dX11_about_17 m_X11_162 cy_X11_see ci_X11_see (r_seeX (k := 200) (by omega) hn) rfl rfl rfl rfl rfl (by omega) (by omega) (by omega) (Nat.le_of_ble_eq_true rfl) (fun z1 u hh => ?_)
      obtain ⟨rfl, f, rfl, hf⟩ := hh
      obtain ⟨R1, hR1⟩ : ∃ R1, R1 = va_up R 13 f := ⟨_, rfl⟩
      have hs1 : RSC M R M R1 := by rw [hR1]; exact RSC.x
      have hf1 : ∀ i, i < seeN (R 2) t l → R1 13 i = seeF (R 2) t l i := by rw [hR1]; exact hf
      rw [← hR1]
      clear hR1 hf
      have hn1 := hn.sc hs1
      have r1 : R1 1 = R 1 := hs1.2 1 (by omega) (by omega) (by omega)
      have r2 : R1 2 = R 2 := hs1.2 2 (by omega) (by omega) (by omega)
      have r10 : R1 10 = R 10 := hs1.2 10 (by omega) (by omega) (by omega)
      have hle := seeN_le (R 2) t l
      have h40 := hn.2.1
      have hl := hn1.1
      unfold abW
      refine j_istore_n (n := 21) dX11_about_20 rfl (by decide) ?_
      refine j_iload_n (n := 22) dX11_about_21 rfl rfl ?_
      by_cases e0 : w = 0
      · subst e0
        refine j_tableIn 64 dX11_about_22 (by decide) (by decide) (off := 42) (by decide) (by decide) ?_
        refine j_aload_n (n := 65) dX11_about_64 rfl rfl ?_
        refine j_get (n := 68) 0 dX11_about_65 f_X11_44 rfl rfl rfl ?_
        refine j_sipush (n := 71) (200) dX11_about_68 rfl (by decide) ?_
        refine j_iald (n := 72) 12 200 dX11_about_71 rfl rfl rfl (by omega) (by omega) ?_
        exact j_iret dX11_about_72 rfl rfl (by omega) (by omega) (⟨hl, M, R1, rfl, hs1⟩)
      · by_cases e1 : w = 1
        · subst e1
          refine j_tableIn 73 dX11_about_22 (by decide) (by decide) (off := 51) (by decide) (by decide) ?_
          refine j_iload_n (n := 74) dX11_about_73 rfl rfl ?_
          exact j_iret dX11_about_74 rfl rfl (by omega) (by omega) (⟨rfl, M, R1, rfl, hs1⟩)
        · by_cases e2 : w = 2
          · subst e2
            refine j_tableIn 75 dX11_about_22 (by decide) (by decide) (off := 53) (by decide) (by decide) ?_
            refine j_aload_n (n := 76) dX11_about_75 rfl rfl ?_
            refine j_callVi (n := 79) (Y1 := Y_X11_scripts) 0 dX11_about_76 m_X11_166 cy_X11_scripts ci_X11_scripts (r_scripts hn1) rfl rfl rfl rfl rfl (by omega) (by omega) (by omega) (Nat.le_of_ble_eq_true rfl) (fun z2 u hh => ?_)
            obtain ⟨rfl, f2, rfl⟩ := hh
            rw [r1, r2]
            exact j_iret dX11_about_79 rfl rfl (by omega) (by omega) (⟨rfl, M, _, rfl, hs1.tr RSC.x⟩)
          · by_cases e3 : w = 3
            · subst e3
              refine j_tableIn 80 dX11_about_22 (by decide) (by decide) (off := 58) (by decide) (by decide) ?_
              refine j_aload_n (n := 81) dX11_about_80 rfl rfl ?_
              refine j_callVi (n := 84) (Y1 := Y_X11_isMixed) 0 dX11_about_81 m_X11_170 cy_X11_isMixed ci_X11_isMixed (r_isMixed hn1 h12) rfl rfl rfl rfl rfl (by omega) (by omega) (by omega) (Nat.le_of_ble_eq_true rfl) (fun z2 u hh => ?_)
              obtain ⟨rfl, f2, rfl⟩ := hh
              rw [r1, r2, r10]
              refine j_if_eq (n := 87) 91 dX11_about_84 (by decide) rfl (fun c3 => ?_) (fun c3 => ?_)
              · refine j_iconst (n := 92) (0) dX11_about_91 rfl (by decide) ?_
                exact j_iret dX11_about_92 rfl rfl (by omega) (by omega) (⟨c3.symm, M, _, rfl, hs1.tr RSC.x⟩)
              · have hb := b01_n0 c3
                refine j_iconst (n := 88) (1) dX11_about_87 rfl (by decide) ?_
                refine j_goto 92 dX11_about_88 (by decide) ?_
                exact j_iret dX11_about_92 rfl rfl (by omega) (by omega) (⟨by rw [if_neg (by decide), if_neg (by decide), if_neg (by decide), if_pos rfl, hb]; rfl, M, _, rfl, hs1.tr RSC.x⟩)
            · by_cases e4 : w = 4
              · subst e4
                refine j_tableIn 93 dX11_about_22 (by decide) (by decide) (off := 71) (by decide) (by decide) ?_
                refine j_aload_n (n := 94) dX11_about_93 rfl rfl ?_
                refine j_iconst (n := 95) (1) dX11_about_94 rfl (by decide) ?_
                refine j_callVe (n := 98) (Y1 := Y_X11_has) 0 dX11_about_95 m_X11_174 cy_X11_has ci_X11_has (r_has hn1) rfl rfl rfl rfl rfl (by omega) (by omega) (by omega) (Nat.le_of_ble_eq_true rfl) ?_
                rw [r2]
                refine j_if_eq (n := 101) 105 dX11_about_98 (by decide) rfl (fun c3 => ?_) (fun c3 => ?_)
                · refine j_iconst (n := 106) (0) dX11_about_105 rfl (by decide) ?_
                  exact j_iret dX11_about_106 rfl rfl (by omega) (by omega) (⟨c3.symm, M, R1, rfl, hs1⟩)
                · have hb := b01_n0 c3
                  refine j_iconst (n := 102) (1) dX11_about_101 rfl (by decide) ?_
                  refine j_goto 106 dX11_about_102 (by decide) ?_
                  exact j_iret dX11_about_106 rfl rfl (by omega) (by omega) (⟨by rw [if_neg (by decide), if_neg (by decide), if_neg (by decide), if_neg (by decide), if_pos rfl, hb]; rfl, M, R1, rfl, hs1⟩)
              · by_cases e5 : w = 5
                · subst e5
                  refine j_tableIn 107 dX11_about_22 (by decide) (by decide) (off := 85) (by decide) (by decide) ?_
                  refine j_aload_n (n := 108) dX11_about_107 rfl rfl ?_
                  refine j_iconst (n := 109) (2) dX11_about_108 rfl (by decide) ?_
                  refine j_callVe (n := 112) (Y1 := Y_X11_has) 0 dX11_about_109 m_X11_174 cy_X11_has ci_X11_has (r_has hn1) rfl rfl rfl rfl rfl (by omega) (by omega) (by omega) (Nat.le_of_ble_eq_true rfl) ?_
                  rw [r2]
                  refine j_if_eq (n := 115) 119 dX11_about_112 (by decide) rfl (fun c3 => ?_) (fun c3 => ?_)
                  · refine j_iconst (n := 120) (0) dX11_about_119 rfl (by decide) ?_
                    exact j_iret dX11_about_120 rfl rfl (by omega) (by omega) (⟨c3.symm, M, R1, rfl, hs1⟩)
                  · have hb := b01_n0 c3
                    refine j_iconst (n := 116) (1) dX11_about_115 rfl (by decide) ?_
                    refine j_goto 120 dX11_about_116 (by decide) ?_
                    exact j_iret dX11_about_120 rfl rfl (by omega) (by omega) (⟨by rw [if_neg (by decide), if_neg (by decide), if_neg (by decide), if_neg (by decide), if_neg (by decide), if_pos rfl, hb]; rfl, M, R1, rfl, hs1⟩)
                · by_cases e6 : w = 6
                  · subst e6
                    rw [if_neg (by decide), if_neg (by decide), if_neg (by decide), if_neg (by decide), if_neg (by decide), if_neg (by decide), if_pos rfl]
                    have h1 := hn.2.2.1
                    obtain ⟨m, hm, m1, m2⟩ := hn.2.2.2.2 0 (by omega)
                    obtain ⟨m', hm', m1', m2'⟩ := hn.2.2.2.2 (l - 1) (by omega)
                    have hx0 : R1 11 (40 * 200) = nI m := (hn1.2.2.2.1 0 (by omega)).trans hm
                    have hx1 : R1 11 (40 * 200 + (l - 1)) = nI m' := (hn1.2.2.2.1 (l - 1) (by omega)).trans hm'
                    have hp : padB (R 2) t l = (decide (R1 2 m = 1) || decide (R1 2 m' = 1)) := by
                      unfold padB
                      rw [decide_eq_true (show 0 < l by omega), hm, hm', how_in m1 m2, how_in m1' m2', r2]; rfl
                    have hix : (8000 : Int32) + nI l - 1 = nI (40 * 200 + (l - 1)) := by
                      rw [r8k, show (1 : Int32) = nI 1 from rfl, pk_sub (by omega)]; congr 1; omega
                    rw [hp]
                    refine j_tableIn 121 dX11_about_22 (by decide) (by decide) (off := 99) (by decide) (by decide) ?_
                    refine j_aload_n (n := 122) dX11_about_121 rfl rfl ?_
                    refine j_get (n := 125) 0 dX11_about_122 f_X11_13 rfl rfl rfl ?_
                    refine j_aload_n (n := 126) dX11_about_125 rfl rfl ?_
                    refine j_get (n := 129) 0 dX11_about_126 f_X11_41 rfl rfl rfl ?_
                    refine j_sipush (n := 132) (8000) dX11_about_129 rfl (by decide) ?_
                    refine j_bald (n := 133) 11 (40 * 200) dX11_about_132 rfl rfl rfl (by omega) (by omega) ?_
                    refine j_top (nI m) hx0 ?_
                    refine j_iald (n := 134) 2 m dX11_about_133 rfl rfl rfl (by omega) (by omega) ?_
                    refine j_iconst (n := 135) (1) dX11_about_134 rfl (by decide) ?_
                    refine j_icmp_eq (n := 138) 166 dX11_about_135 (by decide) rfl (fun c3 => ?_) (fun c3 => ?_)
                    · rw [decide_eq_true c3]
                      refine j_iconst (n := 167) (1) dX11_about_166 rfl (by decide) ?_
                      refine j_goto 171 dX11_about_167 (by decide) ?_
                      exact j_iret dX11_about_171 rfl rfl (by omega) (by omega) (⟨rfl, M, R1, rfl, hs1⟩)
                    · rw [decide_eq_false c3]
                      refine j_aload_n (n := 139) dX11_about_138 rfl rfl ?_
                      refine j_get (n := 142) 0 dX11_about_139 f_X11_13 rfl rfl rfl ?_
                      refine j_aload_n (n := 143) dX11_about_142 rfl rfl ?_
                      refine j_get (n := 146) 0 dX11_about_143 f_X11_41 rfl rfl rfl ?_
                      refine j_sipush (n := 149) (8000) dX11_about_146 rfl (by decide) ?_
                      refine j_aload_n (n := 150) dX11_about_149 rfl rfl ?_
                      refine j_get (n := 153) 0 dX11_about_150 f_X11_44 rfl rfl rfl ?_
                      refine j_sipush (n := 156) (200) dX11_about_153 rfl (by decide) ?_
                      refine j_iald (n := 157) 12 200 dX11_about_156 rfl rfl rfl (by omega) (by omega) ?_
                      refine j_top (nI l) hl ?_
                      refine j_iadd (n := 158) dX11_about_157 rfl ?_
                      refine j_iconst (n := 159) (1) dX11_about_158 rfl (by decide) ?_
                      refine j_isub (n := 160) dX11_about_159 rfl ?_
                      refine j_bald (n := 161) 11 (40 * 200 + (l - 1)) dX11_about_160 rfl rfl hix (by omega) (by omega) ?_
                      refine j_top (nI m') hx1 ?_
                      refine j_iald (n := 162) 2 m' dX11_about_161 rfl rfl rfl (by omega) (by omega) ?_
                      refine j_iconst (n := 163) (1) dX11_about_162 rfl (by decide) ?_
                      refine j_icmp_ne (n := 166) 170 dX11_about_163 (by decide) rfl (fun c4 => ?_) (fun c4 => ?_)
                      · rw [decide_eq_false c4]
                        refine j_iconst (n := 171) (0) dX11_about_170 rfl (by decide) ?_
                        exact j_iret dX11_about_171 rfl rfl (by omega) (by omega) (⟨rfl, M, R1, rfl, hs1⟩)
                      · rw [decide_eq_true c4]
                        refine j_iconst (n := 167) (1) dX11_about_166 rfl (by decide) ?_
                        refine j_goto 171 dX11_about_167 (by decide) ?_
                        exact j_iret dX11_about_171 rfl rfl (by omega) (by omega) (⟨rfl, M, R1, rfl, hs1⟩)
                  · rw [if_neg e0, if_neg e1, if_neg e2, if_neg e3, if_neg e4, if_neg e5, if_neg e6]
                    refine j_tableOut 172 dX11_about_22 (sw7 e0 e1 e2 e3 e4 e5 e6) (by decide) ?_
                    refine j_iload_n (n := 173) dX11_about_172 rfl rfl ?_
                    refine j_bipush (n := 175) (20) dX11_about_173 rfl (by decide) ?_
                    refine j_bipush (n := 177) (19) dX11_about_175 rfl (by decide) ?_
                    refine j_iload_n (n := 178) dX11_about_177 rfl rfl ?_
                    refine j_iadd (n := 179) dX11_about_178 rfl ?_
                    refine j_callSe (n := 182) (Y1 := Y_X11_in) dX11_about_179 m_X11_106 cy_X11_in cs_X11_in (r_in) rfl rfl rfl (by omega) (by omega) (by omega) (Nat.le_of_ble_eq_true rfl) ?_
                    rw [btw_20 (by omega)]
                    refine j_if_eq (n := 185) 197 dX11_about_182 (by decide) rfl (fun c5 => ?_) (fun c5 => ?_)
                    · have c5 := Decidable.not_not.mp (of_decide_eq_false (b01_0 c5))
                      have hres : (-1 : Int32) = if w < 20 then -1 else atF (seeN (R 2) t l) (seeF (R 2) t l) (w - 20) := by
                        rcases c5 with q | q
                        · rw [if_pos q]
                        · split
                          · rfl
                          · unfold atF; rw [if_pos q]
                      refine j_iconst (n := 198) (-1) dX11_about_197 rfl (by decide) ?_
                      exact j_iret dX11_about_198 rfl rfl (by omega) (by omega) (⟨hres, M, R1, rfl, hs1⟩)
                    · have c5 := of_decide_eq_true (b01_n0 c5)
                      have d1 : ¬ w < 20 := fun q => c5 (Or.inl q)
                      have d2 : ¬ (w - 20 < 0 ∨ nI (seeN (R 2) t l) ≤ w - 20) := fun q => c5 (Or.inr q)
                      have h0 : ¬ w < 0 := fun q => d1 (Int32.lt_of_lt_of_le q (by decide))
                      obtain ⟨n, hnn, rfl⟩ := nI_of h0
                      have h20 : 20 ≤ n := Decidable.byContradiction (fun q => d1 (show nI n < nI 20 from nI_lt (by omega) (by omega)))
                      have e20 : nI n - 20 = nI (n - 20) := pk_sub (b := 20) h20
                      rw [e20] at d2 ⊢
                      have hlt : n - 20 < seeN (R 2) t l := Decidable.byContradiction (fun q => d2 (Or.inr (nI_le (by omega) (by omega))))
                      rw [if_neg d1]
                      unfold atF
                      rw [if_neg d2, nI_clamp (show n - 20 < 2 ^ 31 by omega)]
                      refine j_aload_n (n := 186) dX11_about_185 rfl rfl ?_
                      refine j_get (n := 189) 0 dX11_about_186 f_X11_51 rfl rfl rfl ?_
                      refine j_iload_n (n := 190) dX11_about_189 rfl rfl ?_
                      refine j_bipush (n := 192) (20) dX11_about_190 rfl (by decide) ?_
                      refine j_isub (n := 193) dX11_about_192 rfl ?_
                      refine j_iald (n := 194) 13 (n - 20) dX11_about_193 rfl rfl e20 (by omega) (by omega) ?_
                      refine j_goto 198 dX11_about_194 (by decide) ?_
                      exact j_iret dX11_about_198 rfl rfl (by omega) (by omega) (⟨hf1 (n - 20) hlt, M, R1, rfl, hs1⟩)
    · exact absurd (z.symm.trans c) (by decide)
end RH

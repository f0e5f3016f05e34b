/-! the reference: count -/
def RRG (R : Nat → Nat → Int32) (rf rw : Nat → Nat) (rs : Nat → Int32) : Prop := ∀ j, j < 4 → R 16 j = nI (rf j) ∧ R 17 j = nI (rw j) ∧ R 18 j = rs j ∧ (rs j = 0 ∨ rs j = 1)
theorem crS_neg {rf rw : Nat → Nat} {rs : Nat → Int32} {w : Int32} (h : w < 0) : crS rf rw rs w = -1 := by
  unfold crS
  rw [if_pos]
  have a1 := neg_toInt h
  refine Int32.lt_iff_toInt_lt.mpr ?_
  rw [show (10 : Int32).toInt = 10 from rfl]
  omega
theorem crS_nat {rf rw : Nat → Nat} {rs : Nat → Int32} {n : Nat} (hn : n < 2 ^ 31) : crS rf rw rs (nI n) = if n < 10 then -1 else if 4 ≤ n % 10 then -1 else if n / 10 = 1 then nI (rf (n % 10)) else if n / 10 = 2 then nI (rw (n % 10)) else if n / 10 = 3 then rs (n % 10) else -1 := by
  have e1 : nI n / 10 = nI (n / 10) := pk_div (d := 10) hn (by omega) (by omega)
  have e2 : nI n - nI n / 10 * 10 = nI (n % 10) := pk_rem (d := 10) hn (by omega) (by omega)
  unfold crS
  rw [e2, e1]
  by_cases h1 : n < 10
  · rw [if_pos h1, if_pos (show nI n < 10 from nI_lt (b := 10) h1 (by omega))]
  · rw [if_neg h1, if_neg (show ¬ nI n < 10 from nI_nlt (b := 10) (by omega) hn)]
    by_cases h2 : 4 ≤ n % 10
    · rw [if_pos h2, if_pos (Or.inr (show 4 ≤ nI (n % 10) from nI_le (a := 4) h2 (by omega)))]
    · rw [if_neg h2, if_neg (fun q => q.elim (nI_pos (by omega)) (show ¬ 4 ≤ nI (n % 10) from nI_ge (b := 4) (by omega) (by omega))), nI_clamp (by omega)]
      have e3 : ∀ k : Nat, k < 4 → ((nI (n / 10) = nI k) = (n / 10 = k)) := fun k hk => propext (nI_eq (by omega) (by omega))
      simp only [show (nI (n / 10) = 1) = (n / 10 = 1) from e3 1 (by omega), show (nI (n / 10) = 2) = (n / 10 = 2) from e3 2 (by omega), show (nI (n / 10) = 3) = (n / 10 = 3) from e3 3 (by omega)]
section RC
variable {G : GT} {A M : Nat → Nat} {Z : Nat → Int32} {R : Nat → Nat → Int32} {P ws : va_W}
theorem rcnt_loop (h27 : M 27 ≤ 200) : ∀ (k i : Nat), i + k = M 27 → JJ G Y_X11_count 1 0 0 (Qi (fun r u => r = nI (cntS (R 21) (M 27)) ∧ u = rW G A M Z R P)) 57 [(0, .ref (A 0)), (1, .int 3), (2, .int (nI (cntS (R 21) i))), (3, .int (nI i))] [] (rW G A M Z R P) 0 0 := by
  intro k
  induction k with
  | zero =>
    intro i hi
    obtain rfl : i = M 27 := by omega
    refine j_iload_n (n := 58) dX11_count_57 rfl rfl ?_
    refine j_aload_n (n := 59) dX11_count_58 rfl rfl ?_
    refine j_get (n := 62) 0 dX11_count_59 f_X11_190 rfl rfl rfl ?_
    refine j_icmp_ge (n := 65) 88 dX11_count_62 (by decide) rfl (fun c => ?_) (fun c => ?_)
    · refine j_iload_n (n := 89) dX11_count_88 rfl rfl ?_
      exact j_iret dX11_count_89 rfl rfl (by omega) (by omega) (⟨rfl, rfl⟩)
    · exact absurd (nI_le (Nat.le_refl _) (by omega)) c
  | succ k ih =>
    intro i hi
    have ih := ih (i + 1) (by omega)
    have hun : cntS (R 21) (i + 1) = cntS (R 21) i + if R 21 i = 0 then 0 else 1 := rfl
    rw [hun] at ih
    refine j_iload_n (n := 58) dX11_count_57 rfl rfl ?_
    refine j_aload_n (n := 59) dX11_count_58 rfl rfl ?_
    refine j_get (n := 62) 0 dX11_count_59 f_X11_190 rfl rfl rfl ?_
    refine j_icmp_ge (n := 65) 88 dX11_count_62 (by decide) rfl (fun c => ?_) (fun c => ?_)
    · exact absurd c (nI_ge (show i < M 27 by omega) (by omega))
    · refine j_iload_n (n := 66) dX11_count_65 rfl rfl ?_
      refine j_aload_n (n := 67) dX11_count_66 rfl rfl ?_
      refine j_get (n := 70) 0 dX11_count_67 f_X11_76 rfl rfl rfl ?_
      refine j_iload_n (n := 71) dX11_count_70 rfl rfl ?_
      refine j_zald (n := 72) 21 i dX11_count_71 rfl rfl rfl (by omega) (by omega) ?_
      refine j_if_eq (n := 75) 79 dX11_count_72 (by decide) rfl (fun c2 => ?_) (fun c2 => ?_)
      · rw [if_pos c2] at ih
        refine j_iconst (n := 80) (0) dX11_count_79 rfl (by decide) ?_
        refine j_iadd (n := 81) dX11_count_80 rfl ?_
        refine j_top (nI (cntS (R 21) i + 0)) (Int32.add_zero _) ?_
        refine j_istore_n (n := 82) dX11_count_81 rfl (by decide) ?_
        refine j_iinc (n := 85) (nI (i + 1)) dX11_count_82 rfl rfl (nI_inc i) (by decide) ?_
        refine j_goto 57 dX11_count_85 (by decide) ?_
        exact ih
      · rw [if_neg c2] at ih
        refine j_iconst (n := 76) (1) dX11_count_75 rfl (by decide) ?_
        refine j_goto 80 dX11_count_76 (by decide) ?_
        refine j_iadd (n := 81) dX11_count_80 rfl ?_
        refine j_top (nI (cntS (R 21) i + 1)) (nI_inc _) ?_
        refine j_istore_n (n := 82) dX11_count_81 rfl (by decide) ?_
        refine j_iinc (n := 85) (nI (i + 1)) dX11_count_82 rfl rfl (nI_inc i) (by decide) ?_
        refine j_goto 57 dX11_count_85 (by decide) ?_
        exact ih
theorem btw_c {n lo : Nat} (hn : n < 2 ^ 31) (hl : lo < 1000) : btw (nI n) (nI lo) (nI (lo + 3)) = decide (lo ≤ n ∧ n ≤ lo + 3) := by
  rw [btw_and]
  exact decide_eq_decide.mpr ⟨fun h => ⟨(nI_leI (by omega) hn).mp h.1, (nI_leI hn (by omega)).mp h.2⟩, fun h => ⟨(nI_leI (by omega) hn).mpr h.1, (nI_leI hn (by omega)).mpr h.2⟩⟩
theorem r_countB {w : Int32} {rf rw : Nat → Nat} {rs : Nat → Int32} (hG : RRG R rf rw rs) (hw : ¬ w = 3) : JJ G Y_X11_count 1 0 0 (Qi (fun r u => r = crS rf rw rs w ∧ u = rW G A M Z R P)) 100 [(0, .ref (A 0)), (1, .int w), (2, .int 0)] [] (rW G A M Z R P) 0 0 := by
  by_cases hneg : w < 0
  · rw [crS_neg hneg]
    have hb : ∀ lo hi : Int32, 0 ≤ lo → btw w lo hi = false := by
      intro lo hi h
      unfold btw
      rw [decide_eq_false (p := ¬ w < lo) (fun q => q (Int32.lt_of_lt_of_le hneg h))]; rfl
    refine j_iload_n (n := 101) dX11_count_100 rfl rfl ?_
    refine j_bipush (n := 103) (10) dX11_count_101 rfl (by decide) ?_
    refine j_bipush (n := 105) (13) dX11_count_103 rfl (by decide) ?_
    refine j_callSe (n := 108) (Y1 := Y_X11_in) dX11_count_105 m_X11_106 cy_X11_in cs_X11_in (r_in) rfl rfl rfl (by omega) (by omega) (by omega) (Nat.le_of_ble_eq_true rfl) ?_
    rw [hb 10 13 (by decide)]
    refine j_if_eq (n := 111) 121 dX11_count_108 (by decide) rfl (fun c => ?_) (fun c => ?_)
    · refine j_iload_n (n := 122) dX11_count_121 rfl rfl ?_
      refine j_bipush (n := 124) (20) dX11_count_122 rfl (by decide) ?_
      refine j_bipush (n := 126) (23) dX11_count_124 rfl (by decide) ?_
      refine j_callSe (n := 129) (Y1 := Y_X11_in) dX11_count_126 m_X11_106 cy_X11_in cs_X11_in (r_in) rfl rfl rfl (by omega) (by omega) (by omega) (Nat.le_of_ble_eq_true rfl) ?_
      rw [hb 20 23 (by decide)]
      refine j_if_eq (n := 132) 142 dX11_count_129 (by decide) rfl (fun c2 => ?_) (fun c2 => ?_)
      · refine j_iload_n (n := 143) dX11_count_142 rfl rfl ?_
        refine j_bipush (n := 145) (30) dX11_count_143 rfl (by decide) ?_
        refine j_bipush (n := 147) (33) dX11_count_145 rfl (by decide) ?_
        refine j_callSe (n := 150) (Y1 := Y_X11_in) dX11_count_147 m_X11_106 cy_X11_in cs_X11_in (r_in) rfl rfl rfl (by omega) (by omega) (by omega) (Nat.le_of_ble_eq_true rfl) ?_
        rw [hb 30 33 (by decide)]
        refine j_if_eq (n := 153) 173 dX11_count_150 (by decide) rfl (fun c3 => ?_) (fun c3 => ?_)
        · refine j_iconst (n := 174) (-1) dX11_count_173 rfl (by decide) ?_
          exact j_iret dX11_count_174 rfl rfl (by omega) (by omega) (⟨rfl, rfl⟩)
        · exact absurd rfl c3
      · exact absurd rfl c2
    · exact absurd rfl c
  · obtain ⟨n, hn, rfl⟩ := nI_of hneg
    rw [crS_nat hn]
    refine j_iload_n (n := 101) dX11_count_100 rfl rfl ?_
    refine j_bipush (n := 103) (10) dX11_count_101 rfl (by decide) ?_
    refine j_bipush (n := 105) (13) dX11_count_103 rfl (by decide) ?_
    refine j_callSe (n := 108) (Y1 := Y_X11_in) dX11_count_105 m_X11_106 cy_X11_in cs_X11_in (r_in) rfl rfl rfl (by omega) (by omega) (by omega) (Nat.le_of_ble_eq_true rfl) ?_
    rw [show btw (nI n) 10 13 = decide (10 ≤ n ∧ n ≤ 10 + 3) from btw_c (lo := 10) hn (by omega)]
    refine j_if_eq (n := 111) 121 dX11_count_108 (by decide) rfl (fun c => ?_) (fun c => ?_)
    · have c := of_decide_eq_false (b01_0 c)
      refine j_iload_n (n := 122) dX11_count_121 rfl rfl ?_
      refine j_bipush (n := 124) (20) dX11_count_122 rfl (by decide) ?_
      refine j_bipush (n := 126) (23) dX11_count_124 rfl (by decide) ?_
      refine j_callSe (n := 129) (Y1 := Y_X11_in) dX11_count_126 m_X11_106 cy_X11_in cs_X11_in (r_in) rfl rfl rfl (by omega) (by omega) (by omega) (Nat.le_of_ble_eq_true rfl) ?_
      rw [show btw (nI n) 20 23 = decide (20 ≤ n ∧ n ≤ 20 + 3) from btw_c (lo := 20) hn (by omega)]
      refine j_if_eq (n := 132) 142 dX11_count_129 (by decide) rfl (fun c2 => ?_) (fun c2 => ?_)
      · have c2 := of_decide_eq_false (b01_0 c2)
        refine j_iload_n (n := 143) dX11_count_142 rfl rfl ?_
        refine j_bipush (n := 145) (30) dX11_count_143 rfl (by decide) ?_
        refine j_bipush (n := 147) (33) dX11_count_145 rfl (by decide) ?_
        refine j_callSe (n := 150) (Y1 := Y_X11_in) dX11_count_147 m_X11_106 cy_X11_in cs_X11_in (r_in) rfl rfl rfl (by omega) (by omega) (by omega) (Nat.le_of_ble_eq_true rfl) ?_
        rw [show btw (nI n) 30 33 = decide (30 ≤ n ∧ n ≤ 30 + 3) from btw_c (lo := 30) hn (by omega)]
        refine j_if_eq (n := 153) 173 dX11_count_150 (by decide) rfl (fun c3 => ?_) (fun c3 => ?_)
        · have c3 := of_decide_eq_false (b01_0 c3)
          refine j_iconst (n := 174) (-1) dX11_count_173 rfl (by decide) ?_
          have hres : (-1 : Int32) = if n < 10 then -1 else if 4 ≤ n % 10 then -1 else if n / 10 = 1 then nI (rf (n % 10)) else if n / 10 = 2 then nI (rw (n % 10)) else if n / 10 = 3 then rs (n % 10) else -1 := by
            by_cases h1 : n < 10
            · rw [if_pos h1]
            · rw [if_neg h1]
              by_cases h2 : 4 ≤ n % 10
              · rw [if_pos h2]
              · rw [if_neg h2, if_neg (by omega), if_neg (by omega), if_neg (by omega)]
          exact j_iret dX11_count_174 rfl rfl (by omega) (by omega) (⟨hres, rfl⟩)
        · have c3 := of_decide_eq_true (b01_n0 c3)
          obtain ⟨-, -, g3, g4⟩ := hG (n - 30) (by omega)
          rw [if_neg (by omega), if_neg (by omega), if_neg (by omega), if_neg (by omega), if_pos (by omega), show n % 10 = n - 30 by omega]
          refine j_aload_n (n := 154) dX11_count_153 rfl rfl ?_
          refine j_get (n := 157) 0 dX11_count_154 f_X11_66 rfl rfl rfl ?_
          refine j_iload_n (n := 158) dX11_count_157 rfl rfl ?_
          refine j_bipush (n := 160) (30) dX11_count_158 rfl (by decide) ?_
          refine j_isub (n := 161) dX11_count_160 rfl ?_
          refine j_zald (n := 162) 18 (n - 30) dX11_count_161 rfl rfl (pk_sub (b := 30) (by omega)) (by omega) (by omega) ?_
          refine j_top (rs (n - 30)) g3 ?_
          refine j_if_eq (n := 165) 169 dX11_count_162 (by decide) rfl (fun c4 => ?_) (fun c4 => ?_)
          · refine j_iconst (n := 170) (0) dX11_count_169 rfl (by decide) ?_
            refine j_goto 174 dX11_count_170 (by decide) ?_
            exact j_iret dX11_count_174 rfl rfl (by omega) (by omega) (⟨c4.symm, rfl⟩)
          · refine j_iconst (n := 166) (1) dX11_count_165 rfl (by decide) ?_
            refine j_goto 174 dX11_count_166 (by decide) ?_
            exact j_iret dX11_count_174 rfl rfl (by omega) (by omega) (⟨(g4.resolve_left c4).symm, rfl⟩)
      · have c2 := of_decide_eq_true (b01_n0 c2)
        obtain ⟨-, g2, -⟩ := hG (n - 20) (by omega)
        rw [if_neg (by omega), if_neg (by omega), if_neg (by omega), if_pos (by omega), show n % 10 = n - 20 by omega]
        refine j_aload_n (n := 133) dX11_count_132 rfl rfl ?_
        refine j_get (n := 136) 0 dX11_count_133 f_X11_63 rfl rfl rfl ?_
        refine j_iload_n (n := 137) dX11_count_136 rfl rfl ?_
        refine j_bipush (n := 139) (20) dX11_count_137 rfl (by decide) ?_
        refine j_isub (n := 140) dX11_count_139 rfl ?_
        refine j_iald (n := 141) 17 (n - 20) dX11_count_140 rfl rfl (pk_sub (b := 20) (by omega)) (by omega) (by omega) ?_
        exact j_iret dX11_count_141 rfl rfl (by omega) (by omega) (⟨g2, rfl⟩)
    · have c := of_decide_eq_true (b01_n0 c)
      obtain ⟨g1, -⟩ := hG (n - 10) (by omega)
      rw [if_neg (by omega), if_neg (by omega), if_pos (by omega), show n % 10 = n - 10 by omega]
      refine j_aload_n (n := 112) dX11_count_111 rfl rfl ?_
      refine j_get (n := 115) 0 dX11_count_112 f_X11_60 rfl rfl rfl ?_
      refine j_iload_n (n := 116) dX11_count_115 rfl rfl ?_
      refine j_bipush (n := 118) (10) dX11_count_116 rfl (by decide) ?_
      refine j_isub (n := 119) dX11_count_118 rfl ?_
      refine j_iald (n := 120) 16 (n - 10) dX11_count_119 rfl rfl (pk_sub (b := 10) (by omega)) (by omega) (by omega) ?_
      exact j_iret dX11_count_120 rfl rfl (by omega) (by omega) (⟨g1, rfl⟩)
theorem r_count {w : Int32} {rf rw : Nat → Nat} {rs : Nat → Int32} (hI : RNI M R) (h27 : M 27 ≤ 200) (hG : RRG R rf rw rs) : JE G Y_X11_count 1 0 0 [.ref (A 0), .int w] (rW G A M Z R P) (cnS (rCT M R) (M 12) (M 27) (M 3) (R 21) rf rw rs w) (rW G A M Z R P) := by
  have hm := hI.2.1
  unfold cnS
  refine JM.of [(0, .ref (A 0)), (1, .int w)] rfl rfl (by simp) (Nat.le_of_ble_eq_true rfl) (by decide +kernel) ?_
  refine j_iconst (n := 1) (0) dX11_count_0 rfl (by decide) ?_
  refine j_istore_n (n := 2) dX11_count_1 rfl (by decide) ?_
  refine j_iload_n (n := 3) dX11_count_2 rfl rfl ?_
  by_cases e0 : w = 0
  · subst e0
    refine j_tableIn 40 dX11_count_3 (by decide) (by decide) (off := 37) (by decide) (by decide) ?_
    refine j_aload_n (n := 41) dX11_count_40 rfl rfl ?_
    refine j_get (n := 44) 0 dX11_count_41 f_X11_117 rfl rfl rfl ?_
    exact j_iret dX11_count_44 rfl rfl (by omega) (by omega) (⟨rfl, rfl⟩)
  · by_cases e1 : w = 1
    · subst e1
      refine j_tableIn 45 dX11_count_3 (by decide) (by decide) (off := 42) (by decide) (by decide) ?_
      refine j_aload_n (n := 46) dX11_count_45 rfl rfl ?_
      refine j_get (n := 49) 0 dX11_count_46 f_X11_141 rfl rfl rfl ?_
      exact j_iret dX11_count_49 rfl rfl (by omega) (by omega) (⟨rfl, rfl⟩)
    · by_cases e2 : w = 2
      · subst e2
        refine j_tableIn 50 dX11_count_3 (by decide) (by decide) (off := 47) (by decide) (by decide) ?_
        refine j_aload_n (n := 51) dX11_count_50 rfl rfl ?_
        refine j_get (n := 54) 0 dX11_count_51 f_X11_190 rfl rfl rfl ?_
        exact j_iret dX11_count_54 rfl rfl (by omega) (by omega) (⟨rfl, rfl⟩)
      · by_cases e3 : w = 3
        · subst e3
          refine j_tableIn 55 dX11_count_3 (by decide) (by decide) (off := 52) (by decide) (by decide) ?_
          refine j_iconst (n := 56) (0) dX11_count_55 rfl (by decide) ?_
          refine j_istore_n (n := 57) dX11_count_56 rfl (by decide) ?_
          exact rcnt_loop h27 (M 27) 0 (by omega)
        · by_cases e4 : w = 4
          · subst e4
            refine j_tableIn 90 dX11_count_3 (by decide) (by decide) (off := 87) (by decide) (by decide) ?_
            refine j_aload_n (n := 91) dX11_count_90 rfl rfl ?_
            refine j_get (n := 94) 0 dX11_count_91 f_X11_110 rfl rfl rfl ?_
            exact j_iret dX11_count_94 rfl rfl (by omega) (by omega) (⟨rfl, rfl⟩)
          · by_cases e5 : w = 5
            · subst e5
              refine j_tableIn 95 dX11_count_3 (by decide) (by decide) (off := 92) (by decide) (by decide) ?_
              refine j_aload_n (n := 96) dX11_count_95 rfl rfl ?_
              refine j_get (n := 99) 0 dX11_count_96 f_X11_131 rfl rfl rfl ?_
              exact j_iret dX11_count_99 rfl rfl (by omega) (by omega) (⟨by rw [hm]; rfl, rfl⟩)
            · rw [if_neg e0, if_neg e1, if_neg e2, if_neg e3, if_neg e4, if_neg e5]
              refine j_tableOut 100 dX11_count_3 (sw6 e0 e1 e2 e3 e4 e5) (by decide) ?_
              exact r_countB hG e3
end RC

/-! the reference: entry -/
def RET (M : Nat → Nat) (R : Nat → Nat → Int32) (el : Nat → Nat) (et : Nat → Nat → Int32) : Prop := M 27 ≤ 200 ∧ ∀ e, e < M 27 → RTX R e (el e) (et e) ∧ (R 21 e = 0 ∨ R 21 e = 1)
theorem btw_20 {l : Nat} {w : Int32} (hl : l ≤ 40) : btw w 20 (19 + nI l) = decide (¬ (w < 20 ∨ (w - 20 < 0 ∨ nI l ≤ w - 20))) := by
  by_cases h : w < 20
  · unfold btw
    rw [decide_eq_false (p := ¬ w < 20) (fun q => q h), decide_eq_false (p := ¬ (w < 20 ∨ (w - 20 < 0 ∨ nI l ≤ w - 20))) (fun q => q (Or.inl h))]; rfl
  · have h0 : ¬ w < 0 := fun q => h (Int32.lt_of_lt_of_le q (by decide))
    obtain ⟨n, hn, rfl⟩ := nI_of h0
    have h20 : 20 ≤ n := Decidable.byContradiction (fun q => h (show nI n < nI 20 from nI_lt (by omega) (by omega)))
    rw [show nI n - 20 = nI (n - 20) from pk_sub (b := 20) h20, show (19 : Int32) + nI l = nI (19 + l) from nI_add 19 l]
    unfold btw
    rw [decide_eq_true h, Bool.true_and]
    by_cases h2 : n ≤ 19 + l
    · rw [decide_eq_true (p := ¬ nI (19 + l) < nI n) (nI_nlt h2 (by omega)), decide_eq_true]
      exact fun q => q.elim h (fun q => q.elim (nI_pos (by omega)) (nI_ge (by omega) (by omega)))
    · rw [decide_eq_false (p := ¬ nI (19 + l) < nI n) (fun q => q (nI_lt (by omega) hn)), decide_eq_false]
      exact fun q => q (Or.inr (Or.inr (nI_le (by omega) (by omega))))
section RD
variable {G : GT} {A M : Nat → Nat} {Z : Nat → Int32} {R : Nat → Nat → Int32} {P ws : va_W}
theorem r_entry {e w : Int32} {el : Nat → Nat} {et : Nat → Nat → Int32} (hE : RET M R el et) : JM G Y_X11_entry 2 0 0 [.ref (A 0), .int e, .int w] (rW G A M Z R P) (Qi (fun r u => r = etS (R 2) (M 27) (R 19) (R 20) (R 21) el et e w ∧ ∃ R' : Nat → Nat → Int32, u = rW G A M Z R' P ∧ RSC M R M R')) := by
  have h27 := hE.1
  unfold etS
  refine JM.of [(0, .ref (A 0)), (1, .int e), (2, .int w)] rfl rfl (by simp) (Nat.le_of_ble_eq_true rfl) (by decide +kernel) ?_
  refine j_iload_n (n := 1) dX11_entry_0 rfl rfl ?_
  refine j_iconst (n := 2) (0) dX11_entry_1 rfl (by decide) ?_
  refine j_aload_n (n := 3) dX11_entry_2 rfl rfl ?_
  refine j_get (n := 6) 0 dX11_entry_3 f_X11_190 rfl rfl rfl ?_
  refine j_iconst (n := 7) (1) dX11_entry_6 rfl (by decide) ?_
  refine j_isub (n := 8) dX11_entry_7 rfl ?_
  refine j_callSe (n := 11) (Y1 := Y_X11_in) dX11_entry_8 m_X11_106 cy_X11_in cs_X11_in (r_in) rfl rfl rfl (by omega) (by omega) (by omega) (Nat.le_of_ble_eq_true rfl) ?_
  rcases ix3 e (n := M 27) (by omega) with hi | hi | ⟨j, hj, rfl⟩
  · rw [btw_lo hi, if_pos (Or.inl hi)]
    refine j_if_ne (n := 14) 16 dX11_entry_11 (by decide) rfl (fun c => ?_) (fun c => ?_)
    · exact absurd rfl c
    · refine j_iconst (n := 15) (-1) dX11_entry_14 rfl (by decide) ?_
      exact j_iret dX11_entry_15 rfl rfl (by omega) (by omega) (⟨rfl, R, rfl, RSC.rf M R⟩)
  · rw [btw_hi (by omega) hi, if_pos (Or.inr hi)]
    refine j_if_ne (n := 14) 16 dX11_entry_11 (by decide) rfl (fun c => ?_) (fun c => ?_)
    · exact absurd rfl c
    · refine j_iconst (n := 15) (-1) dX11_entry_14 rfl (by decide) ?_
      exact j_iret dX11_entry_15 rfl rfl (by omega) (by omega) (⟨rfl, R, rfl, RSC.rf M R⟩)
  · rw [btw_in (by omega) hj, if_neg (fun q => q.elim (nI_pos (by omega)) (nI_ge hj (by omega))), nI_clamp (show j < 2 ^ 31 by omega)]
    obtain ⟨hx, h01⟩ := hE.2 j hj
    have hl := hx.1
    have hl40 := hx.2.1
    unfold etW
    refine j_if_ne (n := 14) 16 dX11_entry_11 (by decide) rfl (fun c => ?_) (fun c => ?_)
    · refine j_iload_n (n := 17) dX11_entry_16 rfl rfl ?_
      by_cases e0 : w = 0
      · subst e0
        refine j_tableIn 52 dX11_entry_17 (by decide) (by decide) (off := 35) (by decide) (by decide) ?_
        refine j_aload_n (n := 53) dX11_entry_52 rfl rfl ?_
        refine j_get (n := 56) 0 dX11_entry_53 f_X11_70 rfl rfl rfl ?_
        refine j_iload_n (n := 57) dX11_entry_56 rfl rfl ?_
        refine j_iald (n := 58) 19 j dX11_entry_57 rfl rfl rfl (by omega) (by omega) ?_
        exact j_iret dX11_entry_58 rfl rfl (by omega) (by omega) (⟨rfl, R, rfl, RSC.rf M R⟩)
      · by_cases e1 : w = 1
        · subst e1
          refine j_tableIn 59 dX11_entry_17 (by decide) (by decide) (off := 42) (by decide) (by decide) ?_
          refine j_aload_n (n := 60) dX11_entry_59 rfl rfl ?_
          refine j_get (n := 63) 0 dX11_entry_60 f_X11_73 rfl rfl rfl ?_
          refine j_iload_n (n := 64) dX11_entry_63 rfl rfl ?_
          refine j_iald (n := 65) 20 j dX11_entry_64 rfl rfl rfl (by omega) (by omega) ?_
          exact j_iret dX11_entry_65 rfl rfl (by omega) (by omega) (⟨rfl, R, rfl, RSC.rf M R⟩)
        · by_cases e2 : w = 2
          · subst e2
            refine j_tableIn 66 dX11_entry_17 (by decide) (by decide) (off := 49) (by decide) (by decide) ?_
            refine j_aload_n (n := 67) dX11_entry_66 rfl rfl ?_
            refine j_get (n := 70) 0 dX11_entry_67 f_X11_44 rfl rfl rfl ?_
            refine j_iload_n (n := 71) dX11_entry_70 rfl rfl ?_
            refine j_iald (n := 72) 12 j dX11_entry_71 rfl rfl rfl (by omega) (by omega) ?_
            exact j_iret dX11_entry_72 rfl rfl (by omega) (by omega) (⟨hl, R, rfl, RSC.rf M R⟩)
          · by_cases e3 : w = 3
            · subst e3
              refine j_tableIn 73 dX11_entry_17 (by decide) (by decide) (off := 56) (by decide) (by decide) ?_
              refine j_aload_n (n := 74) dX11_entry_73 rfl rfl ?_
              refine j_iload_n (n := 75) dX11_entry_74 rfl rfl ?_
              refine j_aload_n (n := 76) dX11_entry_75 rfl rfl ?_
              refine j_get (n := 79) 0 dX11_entry_76 f_X11_54 rfl rfl rfl ?_
              refine j_callVi (n := 82) (Y1 := Y_X11_see) 0 dX11_entry_79 m_X11_162 cy_X11_see ci_X11_see (r_seeY (by omega) hx) rfl rfl rfl rfl rfl (by omega) (by omega) (by omega) (Nat.le_of_ble_eq_true rfl) (fun z u hh => ?_)
              obtain ⟨rfl, f, rfl, -⟩ := hh
              exact j_iret dX11_entry_82 rfl rfl (by omega) (by omega) (⟨rfl, _, rfl, RSC.y⟩)
            · by_cases e4 : w = 4
              · subst e4
                refine j_tableIn 83 dX11_entry_17 (by decide) (by decide) (off := 66) (by decide) (by decide) ?_
                refine j_aload_n (n := 84) dX11_entry_83 rfl rfl ?_
                refine j_get (n := 87) 0 dX11_entry_84 f_X11_76 rfl rfl rfl ?_
                refine j_iload_n (n := 88) dX11_entry_87 rfl rfl ?_
                refine j_zald (n := 89) 21 j dX11_entry_88 rfl rfl rfl (by omega) (by omega) ?_
                refine j_if_eq (n := 92) 96 dX11_entry_89 (by decide) rfl (fun c4 => ?_) (fun c4 => ?_)
                · refine j_iconst (n := 97) (0) dX11_entry_96 rfl (by decide) ?_
                  exact j_iret dX11_entry_97 rfl rfl (by omega) (by omega) (⟨c4.symm, R, rfl, RSC.rf M R⟩)
                · refine j_iconst (n := 93) (1) dX11_entry_92 rfl (by decide) ?_
                  refine j_goto 97 dX11_entry_93 (by decide) ?_
                  exact j_iret dX11_entry_97 rfl rfl (by omega) (by omega) (⟨(h01.resolve_left c4).symm, R, rfl, RSC.rf M R⟩)
              · rw [if_neg e0, if_neg e1, if_neg e2, if_neg e3, if_neg e4]
                refine j_tableOut 98 dX11_entry_17 (sw5 e0 e1 e2 e3 e4) (by decide) ?_
                refine j_iload_n (n := 99) dX11_entry_98 rfl rfl ?_
                refine j_bipush (n := 101) (20) dX11_entry_99 rfl (by decide) ?_
                refine j_bipush (n := 103) (19) dX11_entry_101 rfl (by decide) ?_
                refine j_aload_n (n := 104) dX11_entry_103 rfl rfl ?_
                refine j_get (n := 107) 0 dX11_entry_104 f_X11_44 rfl rfl rfl ?_
                refine j_iload_n (n := 108) dX11_entry_107 rfl rfl ?_
                refine j_iald (n := 109) 12 j dX11_entry_108 rfl rfl rfl (by omega) (by omega) ?_
                refine j_top (nI (el j)) hl ?_
                refine j_iadd (n := 110) dX11_entry_109 rfl ?_
                refine j_callSe (n := 113) (Y1 := Y_X11_in) dX11_entry_110 m_X11_106 cy_X11_in cs_X11_in (r_in) rfl rfl rfl (by omega) (by omega) (by omega) (Nat.le_of_ble_eq_true rfl) ?_
                rw [btw_20 hl40]
                refine j_if_eq (n := 116) 133 dX11_entry_113 (by decide) rfl (fun c5 => ?_) (fun c5 => ?_)
                · have c5 := Decidable.not_not.mp (of_decide_eq_false (b01_0 c5))
                  have hres : (-1 : Int32) = if w < 20 then -1 else atF (el j) (et j) (w - 20) := by
                    rcases c5 with q | q
                    · rw [if_pos q]
                    · split
                      · rfl
                      · unfold atF; rw [if_pos q]
                  refine j_iconst (n := 134) (-1) dX11_entry_133 rfl (by decide) ?_
                  exact j_iret dX11_entry_134 rfl rfl (by omega) (by omega) (⟨hres, R, rfl, RSC.rf M R⟩)
                · have c5 := of_decide_eq_true (b01_n0 c5)
                  have d1 : ¬ w < 20 := fun q => c5 (Or.inl q)
                  have d2 : ¬ (w - 20 < 0 ∨ nI (el j) ≤ w - 20) := fun q => c5 (Or.inr q)
                  have h0 : ¬ w < 0 := fun q => d1 (Int32.lt_of_lt_of_le q (by decide))
                  obtain ⟨n, hn, rfl⟩ := nI_of h0
                  have h20 : 20 ≤ n := Decidable.byContradiction (fun q => d1 (show nI n < nI 20 from nI_lt (by omega) (by omega)))
                  have e20 : nI n - 20 = nI (n - 20) := pk_sub (b := 20) h20
                  rw [e20] at d2 ⊢
                  have hlt : n - 20 < el j := Decidable.byContradiction (fun q => d2 (Or.inr (nI_le (by omega) (by omega))))
                  rw [if_neg d1]
                  unfold atF
                  rw [if_neg d2, nI_clamp (show n - 20 < 2 ^ 31 by omega)]
                  have hix : (40 : Int32) * nI j + nI n - 20 = nI (40 * j + (n - 20)) := by
                    rw [r40, show nI (40 * j + n) - 20 = nI (40 * j + n - 20) from pk_sub (b := 20) (by omega)]
                    congr 1; omega
                  refine j_aload_n (n := 117) dX11_entry_116 rfl rfl ?_
                  refine j_get (n := 120) 0 dX11_entry_117 f_X11_41 rfl rfl rfl ?_
                  refine j_bipush (n := 122) (40) dX11_entry_120 rfl (by decide) ?_
                  refine j_iload_n (n := 123) dX11_entry_122 rfl rfl ?_
                  refine j_imul (n := 124) dX11_entry_123 rfl ?_
                  refine j_iload_n (n := 125) dX11_entry_124 rfl rfl ?_
                  refine j_iadd (n := 126) dX11_entry_125 rfl ?_
                  refine j_bipush (n := 128) (20) dX11_entry_126 rfl (by decide) ?_
                  refine j_isub (n := 129) dX11_entry_128 rfl ?_
                  refine j_bald (n := 130) 11 (40 * j + (n - 20)) dX11_entry_129 rfl rfl hix (by omega) (by omega) ?_
                  refine j_goto 134 dX11_entry_130 (by decide) ?_
                  exact j_iret dX11_entry_134 rfl rfl (by omega) (by omega) (⟨hx.2.2.2.1 (n - 20) hlt, R, rfl, RSC.rf M R⟩)
    · exact absurd (show b01 true = 0 from c) (by decide)
end RD

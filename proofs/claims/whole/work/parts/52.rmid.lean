/-! the reference: rule, entries, pieces -/
theorem btw_rng (x lo hi : Int32) : btw x lo hi = decide (¬ (x < lo ∨ hi < x)) := by
  unfold btw
  by_cases h1 : x < lo
  · rw [decide_eq_false (p := ¬ x < lo) (fun q => q h1), decide_eq_false (p := ¬ (x < lo ∨ hi < x)) (fun q => q (Or.inl h1))]; rfl
  · by_cases h2 : hi < x
    · rw [decide_eq_false (p := ¬ hi < x) (fun q => q h2), Bool.and_false, decide_eq_false (p := ¬ (x < lo ∨ hi < x)) (fun q => q (Or.inr h2))]
    · rw [decide_eq_true h1, decide_eq_true h2, decide_eq_true (p := ¬ (x < lo ∨ hi < x)) (fun q => q.elim h1 h2)]; rfl
section R3
variable {G : GT} {A M : Nat → Nat} {Z : Nat → Int32} {R : Nat → Nat → Int32} {P ws : va_W}
theorem r_rule {q a b s : Int32} (hs : s = 0 ∨ s = 1) : JE G Y_X11_rule 2 0 0 [.ref (A 0), .int q, .int a, .int b, .int s] (rW G A M Z R P) (if okRul q a b = true then 1 else -2) (rW G A M Z (if okRul q a b = true then va_up (va_up (va_up R 16 (upd (R 16) q.toNatClampNeg a)) 17 (upd (R 17) q.toNatClampNeg b)) 18 (upd (R 18) q.toNatClampNeg s) else R) P) := by
  refine JM.of [(0, .ref (A 0)), (1, .int q), (2, .int a), (3, .int b), (4, .int s)] rfl rfl (by simp) (Nat.le_of_ble_eq_true rfl) (by decide +kernel) ?_
  refine j_iload_n (n := 1) dX11_rule_0 rfl rfl ?_
  refine j_callSe (n := 4) (Y1 := Y_X11_isRegister) dX11_rule_1 m_X11_187 cy_X11_isRegister cs_X11_isRegister (r_isRegister) rfl rfl rfl (by omega) (by omega) (by omega) (Nat.le_of_ble_eq_true rfl) ?_
  rw [btw_03]
  refine j_if_eq (n := 7) 29 dX11_rule_4 (by decide) rfl (fun c => ?_) (fun c => ?_)
  · have hb : okRul q a b = false := by unfold okRul; rw [b01_0 c]; rfl
    rw [hb]
    refine j_bipush (n := 31) (-2) dX11_rule_29 rfl (by decide) ?_
    exact j_iret dX11_rule_31 rfl rfl (by omega) (by omega) (⟨rfl, rfl⟩)
  · have c := b01_n0 c
    have hok : okRul q a b = decide (¬ (a < 0 ∨ b < a ∨ 200 < b)) := by unfold okRul; rw [c]; rfl
    refine j_iload_n (n := 8) dX11_rule_7 rfl rfl ?_
    refine j_iconst (n := 9) (0) dX11_rule_8 rfl (by decide) ?_
    refine j_sipush (n := 12) (200) dX11_rule_9 rfl (by decide) ?_
    refine j_callSe (n := 15) (Y1 := Y_X11_in) dX11_rule_12 m_X11_106 cy_X11_in cs_X11_in (r_in) rfl rfl rfl (by omega) (by omega) (by omega) (Nat.le_of_ble_eq_true rfl) ?_
    rw [btw_rng]
    refine j_if_eq (n := 18) 29 dX11_rule_15 (by decide) rfl (fun c1 => ?_) (fun c1 => ?_)
    · have c1 := of_decide_eq_false (b01_0 c1)
      have c1 := Decidable.not_not.mp c1
      have hb : okRul q a b = false := by
        rw [hok]
        refine decide_eq_false (fun h => h ?_)
        rcases c1 with c1 | c1
        · exact Or.inl c1
        · by_cases h2 : b < a
          · exact Or.inr (Or.inl h2)
          · exact Or.inr (Or.inr (Int32.lt_of_lt_of_le c1 (Int32.not_lt.mp h2)))
      rw [hb]
      refine j_bipush (n := 31) (-2) dX11_rule_29 rfl (by decide) ?_
      exact j_iret dX11_rule_31 rfl rfl (by omega) (by omega) (⟨rfl, rfl⟩)
    · have c1 := of_decide_eq_true (b01_n0 c1)
      refine j_iload_n (n := 19) dX11_rule_18 rfl rfl ?_
      refine j_iload_n (n := 20) dX11_rule_19 rfl rfl ?_
      refine j_sipush (n := 23) (200) dX11_rule_20 rfl (by decide) ?_
      refine j_callSe (n := 26) (Y1 := Y_X11_in) dX11_rule_23 m_X11_106 cy_X11_in cs_X11_in (r_in) rfl rfl rfl (by omega) (by omega) (by omega) (Nat.le_of_ble_eq_true rfl) ?_
      rw [btw_rng]
      refine j_if_ne (n := 29) 32 dX11_rule_26 (by decide) rfl (fun c2 => ?_) (fun c2 => ?_)
      · have c2 := of_decide_eq_true (b01_n0 c2)
        have hb : okRul q a b = true := by
          rw [hok]
          exact decide_eq_true (fun h => h.elim (fun h => c1 (Or.inl h)) (fun h => c2 h))
        rw [hb]
        have hq := of_decide_eq_true c
        rcases ix3 q (n := 4) (by omega) with h | h | ⟨j, hj, rfl⟩
        · exact absurd (Or.inl h) hq
        · exact absurd (Or.inr (show 4 ≤ q from h)) hq
        · rw [nI_clamp (show j < 2 ^ 31 by omega)]
          have hn : vp_nar .boolean s = s := by rcases hs with rfl | rfl <;> rfl
          refine j_aload_n (n := 33) dX11_rule_32 rfl rfl ?_
          refine j_get (n := 36) 0 dX11_rule_33 f_X11_60 rfl rfl rfl ?_
          refine j_iload_n (n := 37) dX11_rule_36 rfl rfl ?_
          refine j_iload_n (n := 38) dX11_rule_37 rfl rfl ?_
          refine j_iast (n := 39) 16 j dX11_rule_38 rfl rfl rfl (by omega) (by omega) ?_
          refine j_aload_n (n := 40) dX11_rule_39 rfl rfl ?_
          refine j_get (n := 43) 0 dX11_rule_40 f_X11_63 rfl rfl rfl ?_
          refine j_iload_n (n := 44) dX11_rule_43 rfl rfl ?_
          refine j_iload_n (n := 45) dX11_rule_44 rfl rfl ?_
          refine j_iast (n := 46) 17 j dX11_rule_45 rfl rfl rfl (by omega) (by omega) ?_
          refine j_aload_n (n := 47) dX11_rule_46 rfl rfl ?_
          refine j_get (n := 50) 0 dX11_rule_47 f_X11_66 rfl rfl rfl ?_
          refine j_iload_n (n := 51) dX11_rule_50 rfl rfl ?_
          refine j_iload (n := 53) dX11_rule_51 rfl rfl ?_
          refine j_zast (n := 54) 18 j dX11_rule_53 rfl rfl rfl (by omega) (by omega) ?_
          rw [hn]
          refine j_iconst (n := 55) (1) dX11_rule_54 rfl (by decide) ?_
          exact j_iret dX11_rule_55 rfl rfl (by omega) (by omega) (⟨rfl, rfl⟩)
      · have c2 := Decidable.not_not.mp (of_decide_eq_false (b01_0 c2))
        have hb : okRul q a b = false := by
          rw [hok]
          exact decide_eq_false (fun h => h (Or.inr c2))
        rw [hb]
        refine j_bipush (n := 31) (-2) dX11_rule_29 rfl (by decide) ?_
        exact j_iret dX11_rule_31 rfl rfl (by omega) (by omega) (⟨rfl, rfl⟩)
theorem r_isIn {e : Nat} {q : Int32} (he : e < 200) : JE G Y_X11_isIn 0 0 0 [.ref (A 0), .int (nI e), .int q] (rW G A M Z R P) (b01 (decide (¬ R 21 e = 0) && decide (R 19 e = q))) (rW G A M Z R P) := by
  refine JM.of [(0, .ref (A 0)), (1, .int (nI e)), (2, .int q)] rfl rfl (by simp) (Nat.le_of_ble_eq_true rfl) (by decide +kernel) ?_
  refine j_aload_n (n := 1) dX11_isIn_0 rfl rfl ?_
  refine j_get (n := 4) 0 dX11_isIn_1 f_X11_76 rfl rfl rfl ?_
  refine j_iload_n (n := 5) dX11_isIn_4 rfl rfl ?_
  refine j_zald (n := 6) 21 e dX11_isIn_5 rfl rfl rfl (by omega) (by omega) ?_
  refine j_if_eq (n := 9) 23 dX11_isIn_6 (by decide) rfl (fun c => ?_) (fun c => ?_)
  · rw [decide_eq_false (fun h => h c)]
    refine j_iconst (n := 24) (0) dX11_isIn_23 rfl (by decide) ?_
    exact j_iret dX11_isIn_24 rfl rfl (by omega) (by omega) (⟨rfl, rfl⟩)
  · rw [decide_eq_true c]
    refine j_aload_n (n := 10) dX11_isIn_9 rfl rfl ?_
    refine j_get (n := 13) 0 dX11_isIn_10 f_X11_70 rfl rfl rfl ?_
    refine j_iload_n (n := 14) dX11_isIn_13 rfl rfl ?_
    refine j_iald (n := 15) 19 e dX11_isIn_14 rfl rfl rfl (by omega) (by omega) ?_
    refine j_iload_n (n := 16) dX11_isIn_15 rfl rfl ?_
    refine j_icmp_ne (n := 19) 23 dX11_isIn_16 (by decide) rfl (fun c2 => ?_) (fun c2 => ?_)
    · rw [decide_eq_false c2]
      refine j_iconst (n := 24) (0) dX11_isIn_23 rfl (by decide) ?_
      exact j_iret dX11_isIn_24 rfl rfl (by omega) (by omega) (⟨rfl, rfl⟩)
    · rw [decide_eq_true c2]
      refine j_iconst (n := 20) (1) dX11_isIn_19 rfl (by decide) ?_
      refine j_goto 24 dX11_isIn_20 (by decide) ?_
      exact j_iret dX11_isIn_24 rfl rfl (by omega) (by omega) (⟨rfl, rfl⟩)
theorem r_isEntry {e : Int32} (h7 : M 27 ≤ 200) : JE G Y_X11_isEntry 1 0 0 [.ref (A 0), .int e] (rW G A M Z R P) (b01 (stnd (M 27) (R 21) e)) (rW G A M Z R P) := by
  unfold stnd
  refine JM.of [(0, .ref (A 0)), (1, .int e)] rfl rfl (by simp) (Nat.le_of_ble_eq_true rfl) (by decide +kernel) ?_
  refine j_iload_n (n := 1) dX11_isEntry_0 rfl rfl ?_
  refine j_iconst (n := 2) (0) dX11_isEntry_1 rfl (by decide) ?_
  refine j_aload_n (n := 3) dX11_isEntry_2 rfl rfl ?_
  refine j_get (n := 6) 0 dX11_isEntry_3 f_X11_190 rfl rfl rfl ?_
  refine j_iconst (n := 7) (1) dX11_isEntry_6 rfl (by decide) ?_
  refine j_isub (n := 8) dX11_isEntry_7 rfl ?_
  refine j_callSe (n := 11) (Y1 := Y_X11_in) dX11_isEntry_8 m_X11_106 cy_X11_in cs_X11_in (r_in) rfl rfl rfl (by omega) (by omega) (by omega) (Nat.le_of_ble_eq_true rfl) ?_
  rcases ix3 e (n := M 27) (by omega) with hi | hi | ⟨j, hj, rfl⟩
  · rw [btw_lo hi, decide_eq_false (p := ¬ (e < 0 ∨ nI (M 27) ≤ e)) (fun q => q (Or.inl hi))]
    refine j_if_eq (n := 14) 27 dX11_isEntry_11 (by decide) rfl (fun c => ?_) (fun c => ?_)
    · refine j_iconst (n := 28) (0) dX11_isEntry_27 rfl (by decide) ?_
      exact j_iret dX11_isEntry_28 rfl rfl (by omega) (by omega) (⟨rfl, rfl⟩)
    · exact absurd rfl c
  · rw [btw_hi (by omega) hi, decide_eq_false (p := ¬ (e < 0 ∨ nI (M 27) ≤ e)) (fun q => q (Or.inr hi))]
    refine j_if_eq (n := 14) 27 dX11_isEntry_11 (by decide) rfl (fun c => ?_) (fun c => ?_)
    · refine j_iconst (n := 28) (0) dX11_isEntry_27 rfl (by decide) ?_
      exact j_iret dX11_isEntry_28 rfl rfl (by omega) (by omega) (⟨rfl, rfl⟩)
    · exact absurd rfl c
  · rw [btw_in (by omega) hj, decide_eq_true (p := ¬ (nI j < 0 ∨ nI (M 27) ≤ nI j)) (fun q => q.elim (nI_pos (by omega)) (nI_ge hj (by omega))), nI_clamp (show j < 2 ^ 31 by omega)]
    refine j_if_eq (n := 14) 27 dX11_isEntry_11 (by decide) rfl (fun c => ?_) (fun c => ?_)
    · exact absurd (show b01 true = 0 from c) (by decide)
    · refine j_aload_n (n := 15) dX11_isEntry_14 rfl rfl ?_
      refine j_get (n := 18) 0 dX11_isEntry_15 f_X11_76 rfl rfl rfl ?_
      refine j_iload_n (n := 19) dX11_isEntry_18 rfl rfl ?_
      refine j_zald (n := 20) 21 j dX11_isEntry_19 rfl rfl rfl (by omega) (by omega) ?_
      refine j_if_eq (n := 23) 27 dX11_isEntry_20 (by decide) rfl (fun c2 => ?_) (fun c2 => ?_)
      · rw [decide_eq_false (fun h => h c2)]
        refine j_iconst (n := 28) (0) dX11_isEntry_27 rfl (by decide) ?_
        exact j_iret dX11_isEntry_28 rfl rfl (by omega) (by omega) (⟨rfl, rfl⟩)
      · rw [decide_eq_true c2]
        refine j_iconst (n := 24) (1) dX11_isEntry_23 rfl (by decide) ?_
        refine j_goto 28 dX11_isEntry_24 (by decide) ?_
        exact j_iret dX11_isEntry_28 rfl rfl (by omega) (by omega) (⟨rfl, rfl⟩)
theorem r_strike {e : Int32} (h7 : M 27 ≤ 200) : JE G Y_X11_strike 2 0 0 [.ref (A 0), .int e] (rW G A M Z R P) (if stnd (M 27) (R 21) e = true then 1 else -2) (rW G A M Z (if stnd (M 27) (R 21) e = true then va_up R 21 (upd (R 21) e.toNatClampNeg 0) else R) P) := by
  refine JM.of [(0, .ref (A 0)), (1, .int e)] rfl rfl (by simp) (Nat.le_of_ble_eq_true rfl) (by decide +kernel) ?_
  refine j_aload_n (n := 1) dX11_strike_0 rfl rfl ?_
  refine j_iload_n (n := 2) dX11_strike_1 rfl rfl ?_
  refine j_callVe (n := 5) (Y1 := Y_X11_isEntry) 0 dX11_strike_2 m_X11_205 cy_X11_isEntry ci_X11_isEntry (r_isEntry h7) rfl rfl rfl rfl rfl (by omega) (by omega) (by omega) (Nat.le_of_ble_eq_true rfl) ?_
  refine j_if_ne (n := 8) 11 dX11_strike_5 (by decide) rfl (fun c => ?_) (fun c => ?_)
  · have c := b01_n0 c
    rw [c]
    rcases ix3 e (n := M 27) (by omega) with hi | hi | ⟨j, hj, rfl⟩
    · unfold stnd at c
      rw [decide_eq_false (p := ¬ (e < 0 ∨ nI (M 27) ≤ e)) (fun q => q (Or.inl hi))] at c; cases c
    · unfold stnd at c
      rw [decide_eq_false (p := ¬ (e < 0 ∨ nI (M 27) ≤ e)) (fun q => q (Or.inr hi))] at c; cases c
    · rw [nI_clamp (show j < 2 ^ 31 by omega)]
      refine j_aload_n (n := 12) dX11_strike_11 rfl rfl ?_
      refine j_get (n := 15) 0 dX11_strike_12 f_X11_76 rfl rfl rfl ?_
      refine j_iload_n (n := 16) dX11_strike_15 rfl rfl ?_
      refine j_iconst (n := 17) (0) dX11_strike_16 rfl (by decide) ?_
      refine j_zast (n := 18) 21 j dX11_strike_17 rfl rfl rfl (by omega) (by omega) ?_
      rw [show vp_nar .boolean 0 = 0 from rfl]
      refine j_iconst (n := 19) (1) dX11_strike_18 rfl (by decide) ?_
      exact j_iret dX11_strike_19 rfl rfl (by omega) (by omega) (⟨rfl, rfl⟩)
  · rw [b01_0 c]
    refine j_bipush (n := 10) (-2) dX11_strike_8 rfl (by decide) ?_
    exact j_iret dX11_strike_10 rfl rfl (by omega) (by omega) (⟨rfl, rfl⟩)
theorem r_piece {i a N k0 ax : Nat} {f : Nat → Int32} (h0 : ws[k0]? = some (ax, arI G N f)) (ha : a = 1 ∨ a = 2) (hi : i + a ≤ N) (hN : N ≤ 40) : JE G Y_X11_piece 0 0 0 [.ref ax, .int (nI i), .int (nI a)] ws (pcX f i a) ws := by
  unfold pcX p2
  refine JM.of [(0, .ref ax), (1, .int (nI i)), (2, .int (nI a))] rfl rfl (by simp) (Nat.le_of_ble_eq_true rfl) (by decide +kernel) ?_
  refine j_iload_n (n := 1) dX11_piece_0 rfl rfl ?_
  refine j_iconst (n := 2) (1) dX11_piece_1 rfl (by decide) ?_
  rcases ha with rfl | rfl
  · rw [if_pos rfl]
    refine j_icmp_ne (n := 5) 11 dX11_piece_2 (by decide) rfl (fun c => ?_) (fun c => ?_)
    · exact absurd rfl c
    · refine j_aload_n (n := 6) dX11_piece_5 rfl rfl ?_
      refine j_iload_n (n := 7) dX11_piece_6 rfl rfl ?_
      refine j_iald (n := 8) _ i dX11_piece_7 rfl h0 rfl (by omega) (by omega) ?_
      refine j_goto 24 dX11_piece_8 (by decide) ?_
      exact j_iret dX11_piece_24 rfl rfl (by omega) (by omega) (⟨rfl, rfl⟩)
  · rw [if_neg (by decide)]
    refine j_icmp_ne (n := 5) 11 dX11_piece_2 (by decide) rfl (fun c => ?_) (fun c => ?_)
    · refine j_sipush (n := 14) (256) dX11_piece_11 rfl (by decide) ?_
      refine j_aload_n (n := 15) dX11_piece_14 rfl rfl ?_
      refine j_iload_n (n := 16) dX11_piece_15 rfl rfl ?_
      refine j_iald (n := 17) _ i dX11_piece_16 rfl h0 rfl (by omega) (by omega) ?_
      refine j_imul (n := 18) dX11_piece_17 rfl ?_
      refine j_aload_n (n := 19) dX11_piece_18 rfl rfl ?_
      refine j_iload_n (n := 20) dX11_piece_19 rfl rfl ?_
      refine j_iconst (n := 21) (1) dX11_piece_20 rfl (by decide) ?_
      refine j_iadd (n := 22) dX11_piece_21 rfl ?_
      refine j_iald (n := 23) _ (i + 1) dX11_piece_22 rfl h0 (nI_inc i) (by omega) (by omega) ?_
      refine j_iadd (n := 24) dX11_piece_23 rfl ?_
      exact j_iret dX11_piece_24 rfl rfl (by omega) (by omega) (⟨rfl, rfl⟩)
    · exact absurd c (by decide)
end R3

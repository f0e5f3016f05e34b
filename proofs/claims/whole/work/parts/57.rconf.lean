/-! the reference: chainOf, chain, confuse -/
theorem conS_ok {C : CT} {p q c : Int32} (h : CTok C) : CTok (conS C p q c).2.1 := by
  unfold conS
  split
  · rename_i hok
    unfold okCon at hok
    simp only [Bool.and_eq_true, decide_eq_true_eq] at hok
    obtain ⟨⟨⟨h1, h2⟩, h3⟩, h4, h5⟩ := hok
    split
    · unfold forgetS
      split
      · exact h
      · rename_i i hi
        have hlt := fndA_lt C.1 0 i hi
        refine ⟨by have := h.1; show C.1 - 1 ≤ 60; omega, fun k hk => ?_⟩
        have hk : k < C.1 - 1 := hk
        show pcB (upd C.2.1 i (C.2.1 (C.1 - 1)) k) = true ∧ pcB (upd C.2.2.1 i (C.2.2.1 (C.1 - 1)) k) = true ∧ ¬ upd C.2.1 i (C.2.1 (C.1 - 1)) k = upd C.2.2.1 i (C.2.2.1 (C.1 - 1)) k ∧ ∃ d : Nat, d ≤ 20 ∧ upd C.2.2.2 i (C.2.2.2 (C.1 - 1)) k = nI d
        by_cases e : k = i
        · subst e; rw [pk_us, pk_us, pk_us]; exact h.2 _ (by omega)
        · rw [pk_un e, pk_un e, pk_un e]; exact h.2 _ (by omega)
    · rename_i hc
      have hcn : ∃ d : Nat, d ≤ 20 ∧ c = nI d := by
        have h0 : ¬ c < 0 := by
          intro q
          have a1 := Int32.lt_iff_toInt_lt.mp q
          have a2 := Int32.le_iff_toInt_le.mp h4
          have a3 : (0 : Int32).toInt = 0 := rfl
          have a4 : (-1 : Int32).toInt = -1 := rfl
          rw [a3] at a1
          rw [a4] at a2
          exact hc (Int32.toInt_inj.mp (by rw [a4]; omega))
        obtain ⟨d, hd, rfl⟩ := nI_of h0
        exact ⟨d, (nI_leI hd (by omega)).mp (show nI d ≤ nI 20 from h5), rfl⟩
      unfold tellS
      split
      · rename_i i hi
        have hlt := fndA_lt C.1 0 i hi
        refine ⟨h.1, fun k hk => ?_⟩
        obtain ⟨g1, g2, g3, g4⟩ := h.2 k hk
        refine ⟨g1, g2, g3, ?_⟩
        show ∃ d : Nat, d ≤ 20 ∧ upd C.2.2.2 i c k = nI d
        by_cases e : k = i
        · subst e; rw [pk_us]; exact hcn
        · rw [pk_un e]; exact g4
      · split
        · exact h
        · rename_i hn
          refine ⟨by show C.1 + 1 ≤ 60; omega, fun k hk => ?_⟩
          have hk : k < C.1 + 1 := hk
          show pcB (upd C.2.1 C.1 p k) = true ∧ pcB (upd C.2.2.1 C.1 q k) = true ∧ ¬ upd C.2.1 C.1 p k = upd C.2.2.1 C.1 q k ∧ ∃ d : Nat, d ≤ 20 ∧ upd C.2.2.2 C.1 c k = nI d
          by_cases e : k = C.1
          · subst e; rw [pk_us, pk_us, pk_us]; exact ⟨h1, h2, h3, hcn⟩
          · rw [pk_un e, pk_un e, pk_un e]; exact h.2 _ (by omega)
  · exact h
/-- the reference's nodes are those of its confusions -/
def RNI (M : Nat → Nat) (R : Nat → Nat → Int32) : Prop := CTok (rCT M R) ∧ M 8 = (nd (rCT M R)).2 ∧ NDI (R 7) (R 8) (nd (rCT M R)) ∧ MX 1000000 120 (nd (rCT M R)).2 (R 9) (DD (rCT M R))
theorem chn_tbc {C : CT} {p q : Int32} (h : ¬ p = q) : chn C p q = tbc C p q := by unfold chn; rw [if_neg h]
section R8
variable {G : GT} {A M : Nat → Nat} {Z : Nat → Int32} {R : Nat → Nat → Int32} {P ws : va_W}
theorem r_chainOf {x y : Int32} (hI : RNI M R) (hx : pcB x = true) (hy : pcB y = true) : JE G Y_X11_chainOf 1 0 0 [.ref (A 0), .int x, .int y] (rW G A M Z R P) (ec 1000000 (chn (rCT M R) x y)) (rW G A M Z R P) := by
  obtain ⟨hok, hm, hN, hX⟩ := hI
  have hnl := nd_le hok
  obtain ⟨n1, e1, k1⟩ := pcN_of hx
  obtain ⟨n2, e2, k2⟩ := pcN_of hy
  have q1 := hN n1 k1
  have q2 := hN n2 k2
  rw [← e1] at q1
  rw [← e2] at q2
  have con1 := r_nodeOf (G := G) (A := A) (M := M) (Z := Z) (R := R) (P := P) k1
  have con2 := r_nodeOf (G := G) (A := A) (M := M) (Z := Z) (R := R) (P := P) k2
  rw [q1, ← e1] at con1
  rw [q2, ← e2] at con2
  clear q1 q2 e1 e2 k1 k2
  refine JM.of [(0, .ref (A 0)), (1, .int x), (2, .int y)] rfl rfl (by simp) (Nat.le_of_ble_eq_true rfl) (by decide +kernel) ?_
  refine j_iload_n (n := 1) dX11_chainOf_0 rfl rfl ?_
  refine j_iload_n (n := 2) dX11_chainOf_1 rfl rfl ?_
  refine j_icmp_ne (n := 5) 7 dX11_chainOf_2 (by decide) rfl (fun c => ?_) (fun c => ?_)
  · rw [chn_tbc c]
    unfold tbc iN
    refine j_aload_n (n := 8) dX11_chainOf_7 rfl rfl ?_
    refine j_iload_n (n := 9) dX11_chainOf_8 rfl rfl ?_
    refine j_callVe (n := 12) (Y1 := Y_X11_nodeOf) 0 dX11_chainOf_9 m_X11_127 cy_X11_nodeOf ci_X11_nodeOf con1 rfl rfl rfl rfl rfl (by omega) (by omega) (by omega) (Nat.le_of_ble_eq_true rfl) ?_
    refine j_istore_n (n := 13) dX11_chainOf_12 rfl (by decide) ?_
    refine j_aload_n (n := 14) dX11_chainOf_13 rfl rfl ?_
    refine j_iload_n (n := 15) dX11_chainOf_14 rfl rfl ?_
    refine j_callVe (n := 18) (Y1 := Y_X11_nodeOf) 0 dX11_chainOf_15 m_X11_127 cy_X11_nodeOf ci_X11_nodeOf con2 rfl rfl rfl rfl rfl (by omega) (by omega) (by omega) (Nat.le_of_ble_eq_true rfl) ?_
    rcases idxF_cases (nd (rCT M R)).1 x (nd (rCT M R)).2 with ⟨f1, -⟩ | ⟨a, ha, f1, -⟩
    · rw [f1, if_pos (Or.inl rfl)]
      refine j_istore (n := 20) dX11_chainOf_18 rfl (by decide) ?_
      refine j_iload_n (n := 21) dX11_chainOf_20 rfl rfl ?_
      refine j_iconst (n := 22) (-1) dX11_chainOf_21 rfl (by decide) ?_
      refine j_icmp_eq (n := 25) 31 dX11_chainOf_22 (by decide) rfl (fun c1 => ?_) (fun c1 => ?_)
      · refine j_ldc (n := 33) dX11_chainOf_31 rfl k_X11_134 ?_
        refine j_goto 48 dX11_chainOf_33 (by decide) ?_
        exact j_iret dX11_chainOf_48 rfl rfl (by omega) (by omega) (⟨rfl, rfl⟩)
      · exact absurd rfl c1
    · rcases idxF_cases (nd (rCT M R)).1 y (nd (rCT M R)).2 with ⟨f2, -⟩ | ⟨b, hb, f2, -⟩
      · rw [f1, f2, if_pos (Or.inr rfl)]
        refine j_istore (n := 20) dX11_chainOf_18 rfl (by decide) ?_
        refine j_iload_n (n := 21) dX11_chainOf_20 rfl rfl ?_
        refine j_iconst (n := 22) (-1) dX11_chainOf_21 rfl (by decide) ?_
        refine j_icmp_eq (n := 25) 31 dX11_chainOf_22 (by decide) rfl (fun c1 => ?_) (fun c1 => ?_)
        · exact absurd c1 (nI_nm1 (by omega))
        · refine j_iload (n := 27) dX11_chainOf_25 rfl rfl ?_
          refine j_iconst (n := 28) (-1) dX11_chainOf_27 rfl (by decide) ?_
          refine j_icmp_ne (n := 31) 36 dX11_chainOf_28 (by decide) rfl (fun c2 => ?_) (fun c2 => ?_)
          · exact absurd rfl c2
          · refine j_ldc (n := 33) dX11_chainOf_31 rfl k_X11_134 ?_
            refine j_goto 48 dX11_chainOf_33 (by decide) ?_
            exact j_iret dX11_chainOf_48 rfl rfl (by omega) (by omega) (⟨rfl, rfl⟩)
      · rw [f1, f2, if_neg (fun h => h.elim (nI_nm1 (by omega)) (nI_nm1 (by omega))), nI_clamp (show a < 2 ^ 31 by omega), nI_clamp (show b < 2 ^ 31 by omega)]
        refine j_istore (n := 20) dX11_chainOf_18 rfl (by decide) ?_
        refine j_iload_n (n := 21) dX11_chainOf_20 rfl rfl ?_
        refine j_iconst (n := 22) (-1) dX11_chainOf_21 rfl (by decide) ?_
        refine j_icmp_eq (n := 25) 31 dX11_chainOf_22 (by decide) rfl (fun c1 => ?_) (fun c1 => ?_)
        · exact absurd c1 (nI_nm1 (by omega))
        · refine j_iload (n := 27) dX11_chainOf_25 rfl rfl ?_
          refine j_iconst (n := 28) (-1) dX11_chainOf_27 rfl (by decide) ?_
          refine j_icmp_ne (n := 31) 36 dX11_chainOf_28 (by decide) rfl (fun c2 => ?_) (fun c2 => ?_)
          · refine j_aload_n (n := 37) dX11_chainOf_36 rfl rfl ?_
            refine j_get (n := 40) 0 dX11_chainOf_37 f_X11_35 rfl rfl rfl ?_
            refine j_bipush (n := 42) (120) dX11_chainOf_40 rfl (by decide) ?_
            refine j_iload_n (n := 43) dX11_chainOf_42 rfl rfl ?_
            refine j_imul (n := 44) dX11_chainOf_43 rfl ?_
            refine j_iload (n := 46) dX11_chainOf_44 rfl rfl ?_
            refine j_iadd (n := 47) dX11_chainOf_46 rfl ?_
            refine j_iald (n := 48) 9 (120 * a + b) dX11_chainOf_47 rfl rfl (r120 a b) (by omega) (by omega) ?_
            exact j_iret dX11_chainOf_48 rfl rfl (by omega) (by omega) (⟨hX a b ha hb, rfl⟩)
          · exact absurd c2 (nI_nm1 (by omega))
  · rw [show chn (rCT M R) x y = some 0 from if_pos c]
    refine j_iconst (n := 6) (0) dX11_chainOf_5 rfl (by decide) ?_
    exact j_iret dX11_chainOf_6 rfl rfl (by omega) (by omega) (⟨rfl, rfl⟩)
theorem r_chain {p q : Int32} (hI : RNI M R) : JE G Y_X11_chain 3 0 0 [.ref (A 0), .int p, .int q] (rW G A M Z R P) (chS (rCT M R) p q) (rW G A M Z R P) := by
  unfold chS
  refine JM.of [(0, .ref (A 0)), (1, .int p), (2, .int q)] rfl rfl (by simp) (Nat.le_of_ble_eq_true rfl) (by decide +kernel) ?_
  refine j_iload_n (n := 1) dX11_chain_0 rfl rfl ?_
  refine j_callSe (n := 4) (Y1 := Y_X11_isPiece) dX11_chain_1 m_X11_120 cy_X11_isPiece cs_X11_isPiece (r_isPiece) rfl rfl rfl (by omega) (by omega) (by omega) (Nat.le_of_ble_eq_true rfl) ?_
  refine j_if_eq (n := 7) 14 dX11_chain_4 (by decide) rfl (fun c => ?_) (fun c => ?_)
  · rw [if_neg (fun h => Bool.false_ne_true ((b01_0 c).symm.trans h.1))]
    refine j_bipush (n := 16) (-2) dX11_chain_14 rfl (by decide) ?_
    exact j_iret dX11_chain_16 rfl rfl (by omega) (by omega) (⟨rfl, rfl⟩)
  · refine j_iload_n (n := 8) dX11_chain_7 rfl rfl ?_
    refine j_callSe (n := 11) (Y1 := Y_X11_isPiece) dX11_chain_8 m_X11_120 cy_X11_isPiece cs_X11_isPiece (r_isPiece) rfl rfl rfl (by omega) (by omega) (by omega) (Nat.le_of_ble_eq_true rfl) ?_
    refine j_if_ne (n := 14) 17 dX11_chain_11 (by decide) rfl (fun c1 => ?_) (fun c1 => ?_)
    · rw [if_pos ⟨b01_n0 c, b01_n0 c1⟩]
      refine j_aload_n (n := 18) dX11_chain_17 rfl rfl ?_
      refine j_iload_n (n := 19) dX11_chain_18 rfl rfl ?_
      refine j_iload_n (n := 20) dX11_chain_19 rfl rfl ?_
      refine j_callVe (n := 23) (Y1 := Y_X11_chainOf) 0 dX11_chain_20 m_X11_138 cy_X11_chainOf ci_X11_chainOf (r_chainOf hI (b01_n0 c) (b01_n0 c1)) rfl rfl rfl rfl rfl (by omega) (by omega) (by omega) (Nat.le_of_ble_eq_true rfl) ?_
      by_cases e : p = q
      · rw [if_pos e, show chn (rCT M R) p q = some 0 from if_pos e]
        refine j_istore_n (n := 24) dX11_chain_23 rfl (by decide) ?_
        refine j_iload_n (n := 25) dX11_chain_24 rfl rfl ?_
        refine j_ldc (n := 27) dX11_chain_25 rfl k_X11_134 ?_
        refine j_icmp_lt (n := 30) 34 dX11_chain_27 (by decide) rfl (fun c3 => ?_) (fun c3 => ?_)
        · refine j_iload_n (n := 35) dX11_chain_34 rfl rfl ?_
          exact j_iret dX11_chain_35 rfl rfl (by omega) (by omega) (⟨rfl, rfl⟩)
        · exact absurd (by decide) c3
      · rw [if_neg e, chn_tbc e]
        cases ht : tbc (rCT M R) p q with
        | none =>
          refine j_istore_n (n := 24) dX11_chain_23 rfl (by decide) ?_
          refine j_iload_n (n := 25) dX11_chain_24 rfl rfl ?_
          refine j_ldc (n := 27) dX11_chain_25 rfl k_X11_134 ?_
          refine j_icmp_lt (n := 30) 34 dX11_chain_27 (by decide) rfl (fun c3 => ?_) (fun c3 => ?_)
          · exact absurd (show nI 1000000 < nI 1000000 from c3) (nI_nlt (by omega) (by omega))
          · refine j_iconst (n := 31) (-1) dX11_chain_30 rfl (by decide) ?_
            refine j_goto 35 dX11_chain_31 (by decide) ?_
            exact j_iret dX11_chain_35 rfl rfl (by omega) (by omega) (⟨rfl, rfl⟩)
        | some v =>
          have hv := tbc_le hI.1 ht
          refine j_istore_n (n := 24) dX11_chain_23 rfl (by decide) ?_
          refine j_iload_n (n := 25) dX11_chain_24 rfl rfl ?_
          refine j_ldc (n := 27) dX11_chain_25 rfl k_X11_134 ?_
          refine j_icmp_lt (n := 30) 34 dX11_chain_27 (by decide) rfl (fun c3 => ?_) (fun c3 => ?_)
          · refine j_iload_n (n := 35) dX11_chain_34 rfl rfl ?_
            exact j_iret dX11_chain_35 rfl rfl (by omega) (by omega) (⟨rfl, rfl⟩)
          · exact absurd (show nI v < nI 1000000 from nI_lt (by omega) (by omega)) c3
    · rw [if_neg (fun h => Bool.false_ne_true ((b01_0 c1).symm.trans h.2))]
      refine j_bipush (n := 16) (-2) dX11_chain_14 rfl (by decide) ?_
      exact j_iret dX11_chain_16 rfl rfl (by omega) (by omega) (⟨rfl, rfl⟩)
end R8

/-! Text: look, has, isPadded, isSeenAs, scriptBits, the constructor -/
abbrev SQ : Type := (Nat → Int32) × Nat × Bool × Nat
def seeStep (hw : Nat → Int32) (c : Int32) (q : SQ) : SQ :=
  if howF hw c = 0 then (upd q.1 q.2.1 c, q.2.1 + 1, q.2.2.1, q.2.2.2)
  else if howF hw c = 2 then (if q.2.2.1 = true then revF q.1 q.2.2.2 q.2.1 else q.1, q.2.1, !q.2.2.1, q.2.1)
  else q
def seeS (hw t s : Nat → Int32) : Nat → SQ
  | 0 => (s, 0, false, 0)
  | k + 1 => seeStep hw (t k) (seeS hw t s k)
def seeE (q : SQ) : Nat → Int32 := if q.2.2.1 = true then revF q.1 q.2.2.2 q.2.1 else q.1
theorem seeS_le (hw t s : Nat → Int32) (k : Nat) : (seeS hw t s k).2.1 ≤ k ∧ (seeS hw t s k).2.2.2 ≤ (seeS hw t s k).2.1 := by
  induction k with
  | zero => exact ⟨Nat.le_refl _, Nat.le_refl _⟩
  | succ k ih =>
    unfold seeS seeStep
    split
    · exact ⟨by dsimp only; omega, by dsimp only; omega⟩
    · split
      · exact ⟨by dsimp only; omega, Nat.le_refl _⟩
      · exact ⟨by omega, ih.2⟩
theorem set_norm {α : Type} {ws : List α} {k k2 : Nat} {a b a' b' : α} (h : k ≠ k2) : (((ws.set k a).set k2 b).set k2 b').set k a' = (ws.set k a').set k2 b' := by
  rw [List.set_set, List.set_comm _ _ h, List.set_set, List.set_comm _ _ (Ne.symm h)]
theorem set_nrm2 {α : Type} {ws : List α} {k k2 : Nat} {a b b' : α} : ((ws.set k a).set k2 b).set k2 b' = (ws.set k a).set k2 b' := by
  rw [List.set_set]
section LK
variable {G : GT} {ws : va_W} {pre : va_W}
/-- a Text's own cell -/
abbrev txO (a1 a2 a3 a4 len cnt : Nat) (st pst : Int32) : va_E := .inr (8, [.ref a1, .int (nI len), .ref a2, .int (nI cnt), .int st, .ref a3, .ref a4, .int pst])
abbrev stO (b1 b2 : Nat) (stamp : Int32) : va_E := .inr (7, [.ref b1, .ref b2, .int stamp])
abbrev arI (G : GT) (n : Nat) (f : Nat → Int32) : va_E := .inl (gI G, n, .inl f)
theorem look_loop {a0 a1 a2 a3 a4 b0 b1 b2 len : Nat} {t s hw : Nat → Int32} {stamp : Int32} {e0 : va_E} {k0 k1 k2 m0 m2 : Nat} (h0 : ws[k0]? = some (a0, e0)) (h1 : ws[k1]? = some (a1, arI G len t)) (h2 : ws[k2]? = some (a2, arI G len s)) (g0 : ws[m0]? = some (b0, stO b1 b2 stamp)) (g2 : ws[m2]? = some (b2, arI G 127 hw)) (n01 : k0 ≠ k1) (n02 : k0 ≠ k2) (n12 : k1 ≠ k2) (n03 : k0 ≠ m0) (n04 : k0 ≠ m2) (n23 : k2 ≠ m0) (n24 : k2 ≠ m2) (hl : len ≤ 40) : ∀ (n i : Nat), i + n = len → JJ G Y_X8_look 2 0 0 (Qv (fun w => w = (ws.set k0 (a0, txO a1 a2 a3 a4 len (seeS hw t s len).2.1 stamp (-1))).set k2 (a2, arI G len (seeE (seeS hw t s len))))) 37 [(0, .ref a0), (1, .ref b0), (2, .int (b01 (seeS hw t s i).2.2.1)), (3, .int (nI (seeS hw t s i).2.2.2)), (4, .int (nI i))] [] ((ws.set k0 (a0, txO a1 a2 a3 a4 len (seeS hw t s i).2.1 stamp (-1))).set k2 (a2, arI G len (seeS hw t s i).1)) 0 0 := by
  intro n
  induction n with
  | zero =>
    intro i hi
    obtain rfl : i = len := by omega
    obtain ⟨q1, q2⟩ := seeS_le hw t s i
    have hu : seeE (seeS hw t s i) = if (seeS hw t s i).2.2.1 = true then revF (seeS hw t s i).1 (seeS hw t s i).2.2.2 (seeS hw t s i).2.1 else (seeS hw t s i).1 := rfl
    generalize seeS hw t s i = Q at q1 q2 hu ⊢
    obtain ⟨f, cn, tu, fr⟩ := Q
    dsimp only at q1 q2 hu ⊢
    have h0' : ((ws.set k0 (a0, txO a1 a2 a3 a4 i cn stamp (-1))).set k2 (a2, arI G i f))[k0]? = some (a0, txO a1 a2 a3 a4 i cn stamp (-1)) := gs_ne (by omega) (gs_eq h0)
    have h2' : ((ws.set k0 (a0, txO a1 a2 a3 a4 i cn stamp (-1))).set k2 (a2, arI G i f))[k2]? = some (a2, arI G i f) := gs_eq (gs_ne (by omega) h2)
    refine j_iload (n := 39) dX8_look_37 rfl rfl ?_
    refine j_aload_n (n := 40) dX8_look_39 rfl rfl ?_
    refine j_get (n := 43) _ dX8_look_40 f_X8_18 rfl h0' rfl ?_
    refine j_icmp_ge (n := 46) 129 dX8_look_43 (by decide) rfl (fun c => ?_) (fun c => ?_)
    · refine j_iload_n (n := 130) dX8_look_129 rfl rfl ?_
      refine j_if_eq (n := 133) 138 dX8_look_130 (by decide) rfl (fun c2 => ?_) (fun c2 => ?_)
      · have e := b01_0 c2
        subst e
        exact j_vret dX8_look_138 rfl (by omega) (by omega) (by rw [hu]; rfl)
      · have e := b01_n0 c2
        subst e
        refine j_aload_n (n := 134) dX8_look_133 rfl rfl ?_
        refine j_iload_n (n := 135) dX8_look_134 rfl rfl ?_
        refine j_callVv (n := 138) (Y1 := Y_X8_turnFrom) _ dX8_look_135 m_X8_61 cy_X8_turnFrom ci_X8_turnFrom (c_turnFrom _ h0' _ h2' (by omega) q2 (by omega) (by omega)) rfl rfl rfl h0' rfl (by omega) (by omega) (by omega) (Nat.le_of_ble_eq_true rfl) (fun w h => ?_)
        subst h
        exact j_vret dX8_look_138 rfl (by omega) (by omega) (by rw [hu, set_nrm2]; rfl)
    · exact absurd (nI_le (Nat.le_refl i) (by omega)) c
  | succ n ih =>
    intro i hi
    obtain ⟨q1, q2⟩ := seeS_le hw t s i
    have ih := ih (i + 1) (by omega)
    have hstep : seeS hw t s (i + 1) = seeStep hw (t i) (seeS hw t s i) := rfl
    rw [hstep] at ih
    generalize seeS hw t s i = Q at q1 q2 ih ⊢
    obtain ⟨f, cn, tu, fr⟩ := Q
    dsimp only at q1 q2 ⊢
    have h0' : ((ws.set k0 (a0, txO a1 a2 a3 a4 len cn stamp (-1))).set k2 (a2, arI G len f))[k0]? = some (a0, txO a1 a2 a3 a4 len cn stamp (-1)) := gs_ne (by omega) (gs_eq h0)
    have h1' : ((ws.set k0 (a0, txO a1 a2 a3 a4 len cn stamp (-1))).set k2 (a2, arI G len f))[k1]? = some (a1, arI G len t) := gs_ne (by omega) (gs_ne (by omega) h1)
    have h2' : ((ws.set k0 (a0, txO a1 a2 a3 a4 len cn stamp (-1))).set k2 (a2, arI G len f))[k2]? = some (a2, arI G len f) := gs_eq (gs_ne (by omega) h2)
    have g0' : ((ws.set k0 (a0, txO a1 a2 a3 a4 len cn stamp (-1))).set k2 (a2, arI G len f))[m0]? = some (b0, stO b1 b2 stamp) := gs_ne (by omega) (gs_ne (by omega) g0)
    have g2' : ((ws.set k0 (a0, txO a1 a2 a3 a4 len cn stamp (-1))).set k2 (a2, arI G len f))[m2]? = some (b2, arI G 127 hw) := gs_ne (by omega) (gs_ne (by omega) g2)
    refine j_iload (n := 39) dX8_look_37 rfl rfl ?_
    refine j_aload_n (n := 40) dX8_look_39 rfl rfl ?_
    refine j_get (n := 43) _ dX8_look_40 f_X8_18 rfl h0' rfl ?_
    refine j_icmp_ge (n := 46) 129 dX8_look_43 (by decide) rfl (fun c => ?_) (fun c => ?_)
    · exact absurd c (nI_ge (show i < len by omega) (by omega))
    · refine j_aload_n (n := 47) dX8_look_46 rfl rfl ?_
      refine j_aload_n (n := 48) dX8_look_47 rfl rfl ?_
      refine j_get (n := 51) _ dX8_look_48 f_X8_30 rfl h0' rfl ?_
      refine j_iload (n := 53) dX8_look_51 rfl rfl ?_
      refine j_iald (n := 54) _ i dX8_look_53 rfl h1' rfl (by omega) (by omega) ?_
      refine j_callVe (n := 57) (Y1 := Y_X7_howOf) _ dX8_look_54 m_X8_57 cy_X7_howOf ci_X7_howOf (c_howOf _ g0' _ g2') rfl rfl rfl g0' rfl (by omega) (by omega) (by omega) (Nat.le_of_ble_eq_true rfl) ?_
      refine j_istore (n := 59) dX8_look_57 rfl (by decide) ?_
      refine j_iload (n := 61) dX8_look_59 rfl rfl ?_
      refine j_if_ne (n := 64) 93 dX8_look_61 (by decide) rfl (fun c2 => ?_) (fun c2 => ?_)
      · refine j_iload (n := 95) dX8_look_93 rfl rfl ?_
        refine j_iconst (n := 96) (2) dX8_look_95 rfl (by decide) ?_
        refine j_icmp_ne (n := 99) 123 dX8_look_96 (by decide) rfl (fun c3 => ?_) (fun c3 => ?_)
        · have e : seeStep hw (t i) (f, cn, tu, fr) = (f, cn, tu, fr) := by
            unfold seeStep; rw [if_neg c2, if_neg c3]
          rw [e] at ih
          refine j_iinc (n := 126) (nI (i + 1)) dX8_look_123 rfl rfl (nI_inc i) (by decide) ?_
          refine j_goto 37 dX8_look_126 (by decide) ?_
          refine j_keep [0, 1, 2, 3, 4] rfl ?_
          exact ih
        · have e : seeStep hw (t i) (f, cn, tu, fr) = (if tu = true then revF f fr cn else f, cn, !tu, cn) := by
            unfold seeStep; rw [if_neg c2, if_pos c3]
          rw [e] at ih
          refine j_iload_n (n := 100) dX8_look_99 rfl rfl ?_
          refine j_if_eq (n := 103) 108 dX8_look_100 (by decide) rfl (fun c4 => ?_) (fun c4 => ?_)
          · have et := b01_0 c4
            subst et
            refine j_iload_n (n := 109) dX8_look_108 rfl rfl ?_
            refine j_if_ne (n := 112) 116 dX8_look_109 (by decide) rfl (fun c5 => ?_) (fun c5 => ?_)
            · exact absurd c4 c5
            · refine j_iconst (n := 113) (1) dX8_look_112 rfl (by decide) ?_
              refine j_goto 117 dX8_look_113 (by decide) ?_
              refine j_istore_n (n := 118) dX8_look_117 rfl (by decide) ?_
              refine j_aload_n (n := 119) dX8_look_118 rfl rfl ?_
              refine j_get (n := 122) _ dX8_look_119 f_X8_43 rfl h0' rfl ?_
              refine j_istore_n (n := 123) dX8_look_122 rfl (by decide) ?_
              refine j_iinc (n := 126) (nI (i + 1)) dX8_look_123 rfl rfl (nI_inc i) (by decide) ?_
              refine j_goto 37 dX8_look_126 (by decide) ?_
              refine j_keep [0, 1, 2, 3, 4] rfl ?_
              exact ih
          · have et := b01_n0 c4
            subst et
            refine j_aload_n (n := 104) dX8_look_103 rfl rfl ?_
            refine j_iload_n (n := 105) dX8_look_104 rfl rfl ?_
            refine j_callVv (n := 108) (Y1 := Y_X8_turnFrom) _ dX8_look_105 m_X8_61 cy_X8_turnFrom ci_X8_turnFrom (c_turnFrom _ h0' _ h2' (by omega) q2 (by omega) (by omega)) rfl rfl rfl h0' rfl (by omega) (by omega) (by omega) (Nat.le_of_ble_eq_true rfl) (fun w h => ?_)
            subst h
            refine j_iload_n (n := 109) dX8_look_108 rfl rfl ?_
            refine j_if_ne (n := 112) 116 dX8_look_109 (by decide) rfl (fun c5 => ?_) (fun c5 => ?_)
            · refine j_iconst (n := 117) (0) dX8_look_116 rfl (by decide) ?_
              refine j_istore_n (n := 118) dX8_look_117 rfl (by decide) ?_
              refine j_aload_n (n := 119) dX8_look_118 rfl rfl ?_
              refine j_get (n := 122) _ dX8_look_119 f_X8_43 rfl (gs_ne (by omega) h0') rfl ?_
              refine j_istore_n (n := 123) dX8_look_122 rfl (by decide) ?_
              refine j_iinc (n := 126) (nI (i + 1)) dX8_look_123 rfl rfl (nI_inc i) (by decide) ?_
              refine j_goto 37 dX8_look_126 (by decide) ?_
              refine j_keep [0, 1, 2, 3, 4] rfl ?_
              refine j_ws set_nrm2 ?_
              exact ih
            · exact absurd c5 c4
      · have e : seeStep hw (t i) (f, cn, tu, fr) = (upd f cn (t i), cn + 1, tu, fr) := by
          unfold seeStep; rw [if_pos c2]
        rw [e] at ih
        refine j_aload_n (n := 65) dX8_look_64 rfl rfl ?_
        refine j_get (n := 68) _ dX8_look_65 f_X8_34 rfl h0' rfl ?_
        refine j_aload_n (n := 69) dX8_look_68 rfl rfl ?_
        refine j_get (n := 72) _ dX8_look_69 f_X8_43 rfl h0' rfl ?_
        refine j_aload_n (n := 73) dX8_look_72 rfl rfl ?_
        refine j_get (n := 76) _ dX8_look_73 f_X8_30 rfl h0' rfl ?_
        refine j_iload (n := 78) dX8_look_76 rfl rfl ?_
        refine j_iald (n := 79) _ i dX8_look_78 rfl h1' rfl (by omega) (by omega) ?_
        refine j_iast (n := 80) _ cn dX8_look_79 rfl h2' rfl (by omega) (by omega) ?_
        refine j_aload_n (n := 81) dX8_look_80 rfl rfl ?_
        refine j_dup (n := 82) dX8_look_81 rfl rfl ?_
        refine j_get (n := 85) _ dX8_look_82 f_X8_43 rfl (gs_ne (by omega) h0') rfl ?_
        refine j_iconst (n := 86) (1) dX8_look_85 rfl (by decide) ?_
        refine j_iadd (n := 87) dX8_look_86 rfl ?_
        refine j_top (nI (cn + 1)) (nI_1 cn) ?_
        refine j_put (n := 90) _ dX8_look_87 f_X8_43 rfl rfl (gs_ne (by omega) h0') (Nat.le_of_ble_eq_true rfl) rfl rfl ?_
        refine j_goto 123 dX8_look_90 (by decide) ?_
        refine j_iinc (n := 126) (nI (i + 1)) dX8_look_123 rfl rfl (nI_inc i) (by decide) ?_
        refine j_goto 37 dX8_look_126 (by decide) ?_
        refine j_keep [0, 1, 2, 3, 4] rfl ?_
        refine j_ws (set_norm n02) ?_
        exact ih
theorem c_look {a0 a1 a2 a3 a4 b0 b1 b2 len cnt : Nat} {t s hw : Nat → Int32} {stamp st pst : Int32} (k0 : Nat) (h0 : ws[k0]? = some (a0, txO a1 a2 a3 a4 len cnt st pst)) (k1 : Nat) (h1 : ws[k1]? = some (a1, arI G len t)) (k2 : Nat) (h2 : ws[k2]? = some (a2, arI G len s)) (m0 : Nat) (g0 : ws[m0]? = some (b0, stO b1 b2 stamp)) (m2 : Nat) (g2 : ws[m2]? = some (b2, arI G 127 hw)) (n01 : k0 ≠ k1) (n02 : k0 ≠ k2) (n12 : k1 ≠ k2) (n03 : k0 ≠ m0) (n04 : k0 ≠ m2) (n23 : k2 ≠ m0) (n24 : k2 ≠ m2) (hl : len ≤ 40) : JV G Y_X8_look 2 0 0 [.ref a0, .ref b0] ws (if st = stamp then ws else (ws.set k0 (a0, txO a1 a2 a3 a4 len (seeS hw t s len).2.1 stamp (-1))).set k2 (a2, arI G len (seeE (seeS hw t s len)))) := by
  refine JM.of [(0, .ref a0), (1, .ref b0)] rfl rfl (by simp) (Nat.le_of_ble_eq_true rfl) (by decide +kernel) ?_
  refine j_aload_n (n := 1) dX8_look_0 rfl rfl ?_
  refine j_get (n := 4) _ dX8_look_1 f_X8_46 rfl h0 rfl ?_
  refine j_aload_n (n := 5) dX8_look_4 rfl rfl ?_
  refine j_getN (n := 8) _ dX8_look_5 f_X8_52 rfl g0 rfl ?_
  refine j_icmp_ne (n := 11) 12 dX8_look_8 (by decide) rfl (fun c => ?_) (fun c => ?_)
  · rw [if_neg c]
    refine j_aload_n (n := 13) dX8_look_12 rfl rfl ?_
    refine j_aload_n (n := 14) dX8_look_13 rfl rfl ?_
    refine j_getN (n := 17) _ dX8_look_14 f_X8_52 rfl g0 rfl ?_
    refine j_put (n := 20) _ dX8_look_17 f_X8_46 rfl rfl h0 (Nat.le_of_ble_eq_true rfl) rfl rfl ?_
    refine j_aload_n (n := 21) dX8_look_20 rfl rfl ?_
    refine j_iconst (n := 22) (-1) dX8_look_21 rfl (by decide) ?_
    refine j_put (n := 25) _ dX8_look_22 f_X8_49 rfl rfl (gs_eq h0) (Nat.le_of_ble_eq_true rfl) rfl rfl ?_
    refine j_aload_n (n := 26) dX8_look_25 rfl rfl ?_
    refine j_iconst (n := 27) (0) dX8_look_26 rfl (by decide) ?_
    refine j_put (n := 30) _ dX8_look_27 f_X8_43 rfl rfl (gs_eq (gs_eq h0)) (Nat.le_of_ble_eq_true rfl) rfl rfl ?_
    refine j_iconst (n := 31) (0) dX8_look_30 rfl (by decide) ?_
    refine j_istore_n (n := 32) dX8_look_31 rfl (by decide) ?_
    refine j_iconst (n := 33) (0) dX8_look_32 rfl (by decide) ?_
    refine j_istore_n (n := 34) dX8_look_33 rfl (by decide) ?_
    refine j_iconst (n := 35) (0) dX8_look_34 rfl (by decide) ?_
    refine j_istore (n := 37) dX8_look_35 rfl (by decide) ?_
    have hs : ws.set k0 (a0, txO a1 a2 a3 a4 len 0 stamp (-1)) = (ws.set k0 (a0, txO a1 a2 a3 a4 len (seeS hw t s 0).2.1 stamp (-1))).set k2 (a2, arI G len (seeS hw t s 0).1) := (set_self (gs_ne n02 h2)).symm
    refine j_ws (Eq.trans (by rw [List.set_set, List.set_set]; rfl) hs) ?_
    exact look_loop h0 h1 h2 g0 g2 n01 n02 n12 n03 n04 n23 n24 hl len 0 (by omega)
  · rw [if_pos c]
    exact j_vret dX8_look_11 rfl (by omega) (by omega) (rfl)
def hasB (hw t : Nat → Int32) (len : Nat) (h : Int32) : Bool := (List.range len).any (fun i => decide (howF hw (t i) = h))
theorem has_loop {a0 a1 a2 a3 a4 b0 b1 b2 len cnt : Nat} {t hw : Nat → Int32} {stamp st pst x : Int32} {k0 k1 m0 m2 : Nat} (h0 : ws[k0]? = some (a0, txO a1 a2 a3 a4 len cnt st pst)) (h1 : ws[k1]? = some (a1, arI G len t)) (g0 : ws[m0]? = some (b0, stO b1 b2 stamp)) (g2 : ws[m2]? = some (b2, arI G 127 hw)) (hl : len ≤ 40) : ∀ (n i : Nat), i + n = len → (∀ j, j < i → ¬ howF hw (t j) = x) → JJ G Y_X8_has 2 0 0 (Qi (fun r w => r = b01 (hasB hw t len x) ∧ w = ws)) 2 [(0, .ref a0), (1, .int x), (2, .ref b0), (3, .int (nI i))] [] ws 0 0 := by
  intro n
  induction n with
  | zero =>
    intro i hi hj
    refine j_iload_n (n := 3) dX8_has_2 rfl rfl ?_
    refine j_aload_n (n := 4) dX8_has_3 rfl rfl ?_
    refine j_get (n := 7) _ dX8_has_4 f_X8_18 rfl h0 rfl ?_
    refine j_icmp_ge (n := 10) 32 dX8_has_7 (by decide) rfl (fun c => ?_) (fun c => ?_)
    · refine j_iconst (n := 33) (0) dX8_has_32 rfl (by decide) ?_
      obtain rfl : i = len := by omega
      exact j_iret dX8_has_33 rfl rfl (by omega) (by omega) (⟨by rw [hasB, any_f (fun j h => decide_eq_false (hj j h))]; rfl, rfl⟩)
    · exact absurd (nI_le (show len ≤ i by omega) (by omega)) c
  | succ n ih =>
    intro i hi hj
    refine j_iload_n (n := 3) dX8_has_2 rfl rfl ?_
    refine j_aload_n (n := 4) dX8_has_3 rfl rfl ?_
    refine j_get (n := 7) _ dX8_has_4 f_X8_18 rfl h0 rfl ?_
    refine j_icmp_ge (n := 10) 32 dX8_has_7 (by decide) rfl (fun c => ?_) (fun c => ?_)
    · exact absurd c (nI_ge (show i < len by omega) (by omega))
    · refine j_aload_n (n := 11) dX8_has_10 rfl rfl ?_
      refine j_aload_n (n := 12) dX8_has_11 rfl rfl ?_
      refine j_get (n := 15) _ dX8_has_12 f_X8_30 rfl h0 rfl ?_
      refine j_iload_n (n := 16) dX8_has_15 rfl rfl ?_
      refine j_iald (n := 17) _ i dX8_has_16 rfl h1 rfl (by omega) (by omega) ?_
      refine j_callVe (n := 20) (Y1 := Y_X7_howOf) _ dX8_has_17 m_X8_57 cy_X7_howOf ci_X7_howOf (c_howOf _ g0 _ g2) rfl rfl rfl g0 rfl (by omega) (by omega) (by omega) (Nat.le_of_ble_eq_true rfl) ?_
      refine j_iload_n (n := 21) dX8_has_20 rfl rfl ?_
      refine j_icmp_ne (n := 24) 26 dX8_has_21 (by decide) rfl (fun c2 => ?_) (fun c2 => ?_)
      · refine j_iinc (n := 29) (nI (i + 1)) dX8_has_26 rfl rfl (nI_inc i) (by decide) ?_
        refine j_goto 2 dX8_has_29 (by decide) ?_
        exact ih (i + 1) (by omega) (lt_s hj c2)
      · refine j_iconst (n := 25) (1) dX8_has_24 rfl (by decide) ?_
        exact j_iret dX8_has_25 rfl rfl (by omega) (by omega) (⟨by rw [hasB, any_t (show i < len by omega) (decide_eq_true c2)]; rfl, rfl⟩)
theorem c_has {a0 a1 a2 a3 a4 b0 b1 b2 len cnt : Nat} {t hw : Nat → Int32} {stamp st pst x : Int32} (k0 : Nat) (h0 : ws[k0]? = some (a0, txO a1 a2 a3 a4 len cnt st pst)) (k1 : Nat) (h1 : ws[k1]? = some (a1, arI G len t)) (m0 : Nat) (g0 : ws[m0]? = some (b0, stO b1 b2 stamp)) (m2 : Nat) (g2 : ws[m2]? = some (b2, arI G 127 hw)) (hl : len ≤ 40) : JE G Y_X8_has 2 0 0 [.ref a0, .int x, .ref b0] ws (b01 (hasB hw t len x)) ws := by
  refine JM.of [(0, .ref a0), (1, .int x), (2, .ref b0)] rfl rfl (by simp) (Nat.le_of_ble_eq_true rfl) (by decide +kernel) ?_
  refine j_iconst (n := 1) (0) dX8_has_0 rfl (by decide) ?_
  refine j_istore_n (n := 2) dX8_has_1 rfl (by decide) ?_
  exact has_loop h0 h1 g0 g2 hl len 0 (by omega) lt_0
def padB (hw t : Nat → Int32) (len : Nat) : Bool := decide (0 < len) && (decide (howF hw (t 0) = 1) || decide (howF hw (t (len - 1)) = 1))
theorem c_isPadded {a0 a1 a2 a3 a4 b0 b1 b2 len cnt : Nat} {t hw : Nat → Int32} {stamp st pst : Int32} (k0 : Nat) (h0 : ws[k0]? = some (a0, txO a1 a2 a3 a4 len cnt st pst)) (k1 : Nat) (h1 : ws[k1]? = some (a1, arI G len t)) (m0 : Nat) (g0 : ws[m0]? = some (b0, stO b1 b2 stamp)) (m2 : Nat) (g2 : ws[m2]? = some (b2, arI G 127 hw)) (hl : len ≤ 40) : JE G Y_X8_isPadded 2 0 0 [.ref a0, .ref b0] ws (b01 (padB hw t len)) ws := by
  refine JM.of [(0, .ref a0), (1, .ref b0)] rfl rfl (by simp) (Nat.le_of_ble_eq_true rfl) (by decide +kernel) ?_
  refine j_aload_n (n := 1) dX8_isPadded_0 rfl rfl ?_
  refine j_get (n := 4) _ dX8_isPadded_1 f_X8_18 rfl h0 rfl ?_
  refine j_if_le (n := 7) 44 dX8_isPadded_4 (by decide) rfl (fun c => ?_) (fun c => ?_)
  · have hz : len = 0 := by
      rcases Nat.eq_zero_or_pos len with h | h
      · exact h
      · exact absurd c (nI_nle h (by omega))
    refine j_iconst (n := 45) (0) dX8_isPadded_44 rfl (by decide) ?_
    exact j_iret dX8_isPadded_45 rfl rfl (by omega) (by omega) (⟨by simp [padB, hz, b01], rfl⟩)
  · have hz : 0 < len := Nat.pos_of_ne_zero (fun h => c (by rw [h]; decide))
    refine j_aload_n (n := 8) dX8_isPadded_7 rfl rfl ?_
    refine j_aload_n (n := 9) dX8_isPadded_8 rfl rfl ?_
    refine j_get (n := 12) _ dX8_isPadded_9 f_X8_30 rfl h0 rfl ?_
    refine j_iconst (n := 13) (0) dX8_isPadded_12 rfl (by decide) ?_
    refine j_iald (n := 14) _ 0 dX8_isPadded_13 rfl h1 rfl (by omega) (by omega) ?_
    refine j_callVe (n := 17) (Y1 := Y_X7_howOf) _ dX8_isPadded_14 m_X8_57 cy_X7_howOf ci_X7_howOf (c_howOf _ g0 _ g2) rfl rfl rfl g0 rfl (by omega) (by omega) (by omega) (Nat.le_of_ble_eq_true rfl) ?_
    refine j_iconst (n := 18) (1) dX8_isPadded_17 rfl (by decide) ?_
    refine j_icmp_eq (n := 21) 40 dX8_isPadded_18 (by decide) rfl (fun c2 => ?_) (fun c2 => ?_)
    · refine j_iconst (n := 41) (1) dX8_isPadded_40 rfl (by decide) ?_
      refine j_goto 45 dX8_isPadded_41 (by decide) ?_
      exact j_iret dX8_isPadded_45 rfl rfl (by omega) (by omega) (⟨by simp [padB, hz, c2, b01], rfl⟩)
    · refine j_aload_n (n := 22) dX8_isPadded_21 rfl rfl ?_
      refine j_aload_n (n := 23) dX8_isPadded_22 rfl rfl ?_
      refine j_get (n := 26) _ dX8_isPadded_23 f_X8_30 rfl h0 rfl ?_
      refine j_aload_n (n := 27) dX8_isPadded_26 rfl rfl ?_
      refine j_get (n := 30) _ dX8_isPadded_27 f_X8_18 rfl h0 rfl ?_
      refine j_iconst (n := 31) (1) dX8_isPadded_30 rfl (by decide) ?_
      refine j_isub (n := 32) dX8_isPadded_31 rfl ?_
      refine j_iald (n := 33) _ (len - 1) dX8_isPadded_32 rfl h1 (by have := nI_sub1 (len - 1); rwa [show len - 1 + 1 = len by omega] at this) (by omega) (by omega) ?_
      refine j_callVe (n := 36) (Y1 := Y_X7_howOf) _ dX8_isPadded_33 m_X8_57 cy_X7_howOf ci_X7_howOf (c_howOf _ g0 _ g2) rfl rfl rfl g0 rfl (by omega) (by omega) (by omega) (Nat.le_of_ble_eq_true rfl) ?_
      refine j_iconst (n := 37) (1) dX8_isPadded_36 rfl (by decide) ?_
      refine j_icmp_ne (n := 40) 44 dX8_isPadded_37 (by decide) rfl (fun c3 => ?_) (fun c3 => ?_)
      · refine j_iconst (n := 45) (0) dX8_isPadded_44 rfl (by decide) ?_
        exact j_iret dX8_isPadded_45 rfl rfl (by omega) (by omega) (⟨by simp [padB, hz, c2, c3, b01], rfl⟩)
      · refine j_iconst (n := 41) (1) dX8_isPadded_40 rfl (by decide) ?_
        refine j_goto 45 dX8_isPadded_41 (by decide) ?_
        exact j_iret dX8_isPadded_45 rfl rfl (by omega) (by omega) (⟨by simp [padB, hz, c2, c3, b01], rfl⟩)
def sameB (n m : Nat) (s u : Nat → Int32) : Bool := decide (n = m) && (List.range n).all (fun i => decide (s i = u i))
theorem all_t {n : Nat} {P : Nat → Bool} (h : ∀ i, i < n → P i = true) : (List.range n).all P = true := by
  rw [List.all_eq_true]
  intro i hi
  exact h i (List.mem_range.mp hi)
theorem all_f {n : Nat} {P : Nat → Bool} {i : Nat} (hi : i < n) (h : P i = false) : (List.range n).all P = false := by
  rw [List.all_eq_false]
  exact ⟨i, List.mem_range.mpr hi, by rw [h]; exact Bool.false_ne_true⟩
theorem same_loop {a0 a1 a2 a3 a4 b0 b1 b2 b3 b4 len len' cnt : Nat} {s u : Nat → Int32} {st pst st' pst' : Int32} {k0 k2 m0 m2 : Nat} (h0 : ws[k0]? = some (a0, txO a1 a2 a3 a4 len cnt st pst)) (h2 : ws[k2]? = some (a2, arI G len s)) (g0 : ws[m0]? = some (b0, txO b1 b2 b3 b4 len' cnt st' pst')) (g2 : ws[m2]? = some (b2, arI G len' u)) (hc : cnt ≤ len) (hc' : cnt ≤ len') (hl : len ≤ 40) (hl' : len' ≤ 40) : ∀ (n i : Nat), i + n = cnt → (∀ j, j < i → s j = u j) → JJ G Y_X8_isSeenAs 1 0 0 (Qi (fun r w => r = b01 (sameB cnt cnt s u) ∧ w = ws)) 15 [(0, .ref a0), (1, .ref b0), (2, .int (nI i))] [] ws 0 0 := by
  intro n
  induction n with
  | zero =>
    intro i hi hj
    refine j_iload_n (n := 16) dX8_isSeenAs_15 rfl rfl ?_
    refine j_aload_n (n := 17) dX8_isSeenAs_16 rfl rfl ?_
    refine j_get (n := 20) _ dX8_isSeenAs_17 f_X8_43 rfl h0 rfl ?_
    refine j_icmp_ge (n := 23) 45 dX8_isSeenAs_20 (by decide) rfl (fun c => ?_) (fun c => ?_)
    · refine j_iconst (n := 46) (1) dX8_isSeenAs_45 rfl (by decide) ?_
      obtain rfl : i = cnt := by omega
      exact j_iret dX8_isSeenAs_46 rfl rfl (by omega) (by omega) (⟨by rw [sameB, all_t (fun j h => decide_eq_true (hj j h))]; simp [b01], rfl⟩)
    · exact absurd (nI_le (show cnt ≤ i by omega) (by omega)) c
  | succ n ih =>
    intro i hi hj
    refine j_iload_n (n := 16) dX8_isSeenAs_15 rfl rfl ?_
    refine j_aload_n (n := 17) dX8_isSeenAs_16 rfl rfl ?_
    refine j_get (n := 20) _ dX8_isSeenAs_17 f_X8_43 rfl h0 rfl ?_
    refine j_icmp_ge (n := 23) 45 dX8_isSeenAs_20 (by decide) rfl (fun c => ?_) (fun c => ?_)
    · exact absurd c (nI_ge (show i < cnt by omega) (by omega))
    · refine j_aload_n (n := 24) dX8_isSeenAs_23 rfl rfl ?_
      refine j_get (n := 27) _ dX8_isSeenAs_24 f_X8_34 rfl h0 rfl ?_
      refine j_iload_n (n := 28) dX8_isSeenAs_27 rfl rfl ?_
      refine j_iald (n := 29) _ i dX8_isSeenAs_28 rfl h2 rfl (by omega) (by omega) ?_
      refine j_aload_n (n := 30) dX8_isSeenAs_29 rfl rfl ?_
      refine j_iload_n (n := 31) dX8_isSeenAs_30 rfl rfl ?_
      refine j_callVe (n := 34) (Y1 := Y_X8_seenAt) _ dX8_isSeenAs_31 m_X8_74 cy_X8_seenAt ci_X8_seenAt (c_seenAt _ g0 _ g2 (by omega) (by omega)) rfl rfl rfl g0 rfl (by omega) (by omega) (by omega) (Nat.le_of_ble_eq_true rfl) ?_
      rw [atF_in (show i < cnt by omega) (by omega)]
      refine j_icmp_eq (n := 37) 39 dX8_isSeenAs_34 (by decide) rfl (fun c2 => ?_) (fun c2 => ?_)
      · refine j_iinc (n := 42) (nI (i + 1)) dX8_isSeenAs_39 rfl rfl (nI_inc i) (by decide) ?_
        refine j_goto 15 dX8_isSeenAs_42 (by decide) ?_
        exact ih (i + 1) (by omega) (lt_s hj c2)
      · refine j_iconst (n := 38) (0) dX8_isSeenAs_37 rfl (by decide) ?_
        exact j_iret dX8_isSeenAs_38 rfl rfl (by omega) (by omega) (⟨by rw [sameB, all_f (show i < cnt by omega) (decide_eq_false c2)]; simp [b01], rfl⟩)
theorem c_isSeenAs {a0 a1 a2 a3 a4 b0 b1 b2 b3 b4 len len' cnt cnt' : Nat} {s u : Nat → Int32} {st pst st' pst' : Int32} (k0 : Nat) (h0 : ws[k0]? = some (a0, txO a1 a2 a3 a4 len cnt st pst)) (k2 : Nat) (h2 : ws[k2]? = some (a2, arI G len s)) (m0 : Nat) (g0 : ws[m0]? = some (b0, txO b1 b2 b3 b4 len' cnt' st' pst')) (m2 : Nat) (g2 : ws[m2]? = some (b2, arI G len' u)) (hc : cnt ≤ len) (hc' : cnt' ≤ len') (hl : len ≤ 40) (hl' : len' ≤ 40) : JE G Y_X8_isSeenAs 1 0 0 [.ref a0, .ref b0] ws (b01 (sameB cnt cnt' s u)) ws := by
  refine JM.of [(0, .ref a0), (1, .ref b0)] rfl rfl (by simp) (Nat.le_of_ble_eq_true rfl) (by decide +kernel) ?_
  refine j_aload_n (n := 1) dX8_isSeenAs_0 rfl rfl ?_
  refine j_get (n := 4) _ dX8_isSeenAs_1 f_X8_43 rfl h0 rfl ?_
  refine j_aload_n (n := 5) dX8_isSeenAs_4 rfl rfl ?_
  refine j_get (n := 8) _ dX8_isSeenAs_5 f_X8_43 rfl g0 rfl ?_
  refine j_icmp_eq (n := 11) 13 dX8_isSeenAs_8 (by decide) rfl (fun c => ?_) (fun c => ?_)
  · have e : cnt = cnt' := (nI_eq (by omega) (by omega)).mp c
    subst e
    refine j_iconst (n := 14) (0) dX8_isSeenAs_13 rfl (by decide) ?_
    refine j_istore_n (n := 15) dX8_isSeenAs_14 rfl (by decide) ?_
    exact same_loop h0 h2 g0 g2 hc hc' hl hl' cnt 0 (by omega) lt_0
  · have e : ¬ cnt = cnt' := fun q => c (by rw [q])
    refine j_iconst (n := 12) (0) dX8_isSeenAs_11 rfl (by decide) ?_
    exact j_iret dX8_isSeenAs_12 rfl rfl (by omega) (by omega) (⟨by simp [sameB, e, b01], rfl⟩)
def bitsF (sc s : Nat → Int32) : Nat → Int32
  | 0 => 0
  | k + 1 => bitsF sc s k ||| ((1 : Int32) <<< (scrF sc (s k) &&& 31))
theorem bits_loop {a0 a1 a2 a3 a4 b0 b1 b2 len cnt : Nat} {s sc : Nat → Int32} {stamp st pst : Int32} {k0 k2 m0 m1 : Nat} (h0 : ws[k0]? = some (a0, txO a1 a2 a3 a4 len cnt st pst)) (h2 : ws[k2]? = some (a2, arI G len s)) (g0 : ws[m0]? = some (b0, stO b1 b2 stamp)) (g1 : ws[m1]? = some (b1, arI G 127 sc)) (hc : cnt ≤ len) (hl : len ≤ 40) : ∀ (n i : Nat), i + n = cnt → JJ G Y_X8_scriptBits 2 0 0 (Qi (fun r w => r = (bitsF sc s cnt &&& 254) ∧ w = ws)) 4 [(0, .ref a0), (1, .ref b0), (2, .int (bitsF sc s i)), (3, .int (nI i))] [] ws 0 0 := by
  intro n
  induction n with
  | zero =>
    intro i hi
    refine j_iload_n (n := 5) dX8_scriptBits_4 rfl rfl ?_
    refine j_aload_n (n := 6) dX8_scriptBits_5 rfl rfl ?_
    refine j_get (n := 9) _ dX8_scriptBits_6 f_X8_43 rfl h0 rfl ?_
    refine j_icmp_ge (n := 12) 33 dX8_scriptBits_9 (by decide) rfl (fun c => ?_) (fun c => ?_)
    · refine j_iload_n (n := 34) dX8_scriptBits_33 rfl rfl ?_
      refine j_sipush (n := 37) (254) dX8_scriptBits_34 rfl (by decide) ?_
      refine j_iand (n := 38) dX8_scriptBits_37 rfl ?_
      obtain rfl : i = cnt := by omega
      exact j_iret dX8_scriptBits_38 rfl rfl (by omega) (by omega) (⟨rfl, rfl⟩)
    · exact absurd (nI_le (show cnt ≤ i by omega) (by omega)) c
  | succ n ih =>
    intro i hi
    refine j_iload_n (n := 5) dX8_scriptBits_4 rfl rfl ?_
    refine j_aload_n (n := 6) dX8_scriptBits_5 rfl rfl ?_
    refine j_get (n := 9) _ dX8_scriptBits_6 f_X8_43 rfl h0 rfl ?_
    refine j_icmp_ge (n := 12) 33 dX8_scriptBits_9 (by decide) rfl (fun c => ?_) (fun c => ?_)
    · exact absurd c (nI_ge (show i < cnt by omega) (by omega))
    · refine j_iload_n (n := 13) dX8_scriptBits_12 rfl rfl ?_
      refine j_iconst (n := 14) (1) dX8_scriptBits_13 rfl (by decide) ?_
      refine j_aload_n (n := 15) dX8_scriptBits_14 rfl rfl ?_
      refine j_aload_n (n := 16) dX8_scriptBits_15 rfl rfl ?_
      refine j_get (n := 19) _ dX8_scriptBits_16 f_X8_34 rfl h0 rfl ?_
      refine j_iload_n (n := 20) dX8_scriptBits_19 rfl rfl ?_
      refine j_iald (n := 21) _ i dX8_scriptBits_20 rfl h2 rfl (by omega) (by omega) ?_
      refine j_callVe (n := 24) (Y1 := Y_X7_scriptOf) _ dX8_scriptBits_21 m_X8_77 cy_X7_scriptOf ci_X7_scriptOf (c_scriptOf _ g0 _ g1) rfl rfl rfl g0 rfl (by omega) (by omega) (by omega) (Nat.le_of_ble_eq_true rfl) ?_
      refine j_ishl (n := 25) dX8_scriptBits_24 rfl ?_
      refine j_ior (n := 26) dX8_scriptBits_25 rfl ?_
      refine j_istore_n (n := 27) dX8_scriptBits_26 rfl (by decide) ?_
      refine j_iinc (n := 30) (nI (i + 1)) dX8_scriptBits_27 rfl rfl (nI_inc i) (by decide) ?_
      refine j_goto 4 dX8_scriptBits_30 (by decide) ?_
      exact ih (i + 1) (by omega)
theorem c_scriptBits {a0 a1 a2 a3 a4 b0 b1 b2 len cnt : Nat} {s sc : Nat → Int32} {stamp st pst : Int32} (k0 : Nat) (h0 : ws[k0]? = some (a0, txO a1 a2 a3 a4 len cnt st pst)) (k2 : Nat) (h2 : ws[k2]? = some (a2, arI G len s)) (m0 : Nat) (g0 : ws[m0]? = some (b0, stO b1 b2 stamp)) (m1 : Nat) (g1 : ws[m1]? = some (b1, arI G 127 sc)) (hc : cnt ≤ len) (hl : len ≤ 40) : JE G Y_X8_scriptBits 2 0 0 [.ref a0, .ref b0] ws (bitsF sc s cnt &&& 254) ws := by
  refine JM.of [(0, .ref a0), (1, .ref b0)] rfl rfl (by simp) (Nat.le_of_ble_eq_true rfl) (by decide +kernel) ?_
  refine j_iconst (n := 1) (0) dX8_scriptBits_0 rfl (by decide) ?_
  refine j_istore_n (n := 2) dX8_scriptBits_1 rfl (by decide) ?_
  refine j_iconst (n := 3) (0) dX8_scriptBits_2 rfl (by decide) ?_
  refine j_istore_n (n := 4) dX8_scriptBits_3 rfl (by decide) ?_
  exact bits_loop h0 h2 g0 g1 hc hl cnt 0 (by omega)
theorem c_Text {a0 as n q : Nat} {f : Nat → Int32} (hq : pre[q]? = some (as, arI G 200 f)) (hn : n ≤ 40) : JM G Y_X8_init 2 4 (4 * n) [.ref a0, .ref as, .int (nI n)] ((a0, .inr (8, [.null, .int 0, .null, .int 0, .int 0, .null, .null, .int 0])) :: pre) (Qv (fun w => ∃ a1 a2 a3 a4 : Nat, w = (a0, txO a1 a2 a3 a4 n 0 (-1) (-1)) :: pre ++ [(a1, arI G n (va_cpy f (fun _ => 0) 0 0 n)), (a2, arI G n (fun _ => 0)), (a3, arI G n (fun _ => 0)), (a4, arI G n (fun _ => 0))])) := by
  have hq1 : ∀ c : Nat × va_E, (c :: pre)[q + 1]? = some (as, arI G 200 f) := fun c => by simp [hq]
  refine JM.of [(0, .ref a0), (1, .ref as), (2, .int (nI n))] rfl rfl (by simp) (Nat.le_of_ble_eq_true rfl) (by decide +kernel) ?_
  refine j_aload_n (n := 1) dX8_init_0 rfl rfl ?_
  refine j_objInit (n := 4) dX8_init_1 m_X8_3 rfl (by omega) (Nat.le_of_ble_eq_true rfl) ?_
  refine j_aload_n (n := 5) dX8_init_4 rfl rfl ?_
  refine j_iconst (n := 6) (0) dX8_init_5 rfl (by decide) ?_
  refine j_iload_n (n := 7) dX8_init_6 rfl rfl ?_
  refine j_aload_n (n := 8) dX8_init_7 rfl rfl ?_
  refine j_alen (n := 9) _ dX8_init_8 rfl (hq1 _) ?_
  refine j_bipush (n := 11) (40) dX8_init_9 rfl (by decide) ?_
  refine j_min (n := 14) dX8_init_11 m_X8_9 rfl (by omega) (by omega) (by omega) (Nat.le_of_ble_eq_true rfl) ?_
  refine j_min (n := 17) dX8_init_14 m_X8_9 rfl (by omega) (by omega) (by omega) (Nat.le_of_ble_eq_true rfl) ?_
  have hmx : (if (0 : Int32) < (if (if (40 : Int32) < nI 200 then (40 : Int32) else nI 200) < nI n then (if (40 : Int32) < nI 200 then (40 : Int32) else nI 200) else nI n) then (if (if (40 : Int32) < nI 200 then (40 : Int32) else nI 200) < nI n then (if (40 : Int32) < nI 200 then (40 : Int32) else nI 200) else nI n) else 0) = nI n := by
    have e1 : (if (40 : Int32) < nI 200 then (40 : Int32) else nI 200) = 40 := by decide
    rw [e1]
    have e2 : (if (40 : Int32) < nI n then (40 : Int32) else nI n) = nI n := if_neg (nI_nlt (a := 40) (b := n) hn (by omega))
    rw [e2]
    by_cases h : n = 0
    · subst h; rfl
    · rw [if_pos]; exact nI_lt (a := 0) (by omega) (by omega)
  refine j_max (n := 20) dX8_init_17 m_X8_15 rfl (by omega) (by omega) (by omega) (Nat.le_of_ble_eq_true rfl) ?_
  refine j_top (nI n) hmx ?_
  refine j_putF (n := 23) 0 dX8_init_20 f_X8_18 rfl rfl rfl (fun q h => by cases h; rfl) rfl (Nat.le_of_ble_eq_true rfl) rfl rfl ?_
  refine j_aload_n (n := 24) dX8_init_23 rfl rfl ?_
  refine j_aload_n (n := 25) dX8_init_24 rfl rfl ?_
  refine j_aload_n (n := 26) dX8_init_25 rfl rfl ?_
  refine j_get (n := 29) 0 dX8_init_26 f_X8_18 rfl rfl rfl ?_
  refine j_callSr (n := 32) (Y1 := Y_J7_copyOf_59c91) dX8_init_29 m_X8_24 cy_J7_copyOf_59c91 cs_J7_copyOf_59c91 (c_copyOf (k := q + 1) (hq1 _) (by omega) (by omega)) rfl rfl rfl (by omega) (by omega) (by omega) (Nat.le_of_ble_eq_true rfl) (fun o w h => ?_)
  obtain ⟨a1, rfl, rfl⟩ := h
  refine j_putF (n := 35) 0 dX8_init_32 f_X8_30 rfl rfl rfl (fun q h => by cases h; rfl) rfl (Nat.le_of_ble_eq_true rfl) rfl rfl ?_
  refine j_aload_n (n := 36) dX8_init_35 rfl rfl ?_
  refine j_aload_n (n := 37) dX8_init_36 rfl rfl ?_
  refine j_get (n := 40) 0 dX8_init_37 f_X8_18 rfl rfl rfl ?_
  refine j_newi (n := 42) n dX8_init_40 rfl rfl (by omega) (by omega) (by omega) (fun a2 => ?_)
  refine j_putF (n := 45) 0 dX8_init_42 f_X8_34 rfl rfl rfl (fun q h => by cases h; rfl) rfl (Nat.le_of_ble_eq_true rfl) rfl rfl ?_
  refine j_aload_n (n := 46) dX8_init_45 rfl rfl ?_
  refine j_aload_n (n := 47) dX8_init_46 rfl rfl ?_
  refine j_get (n := 50) 0 dX8_init_47 f_X8_18 rfl rfl rfl ?_
  refine j_newi (n := 52) n dX8_init_50 rfl rfl (by omega) (by omega) (by omega) (fun a3 => ?_)
  refine j_putF (n := 55) 0 dX8_init_52 f_X8_37 rfl rfl rfl (fun q h => by cases h; rfl) rfl (Nat.le_of_ble_eq_true rfl) rfl rfl ?_
  refine j_aload_n (n := 56) dX8_init_55 rfl rfl ?_
  refine j_aload_n (n := 57) dX8_init_56 rfl rfl ?_
  refine j_get (n := 60) 0 dX8_init_57 f_X8_18 rfl rfl rfl ?_
  refine j_newi (n := 62) n dX8_init_60 rfl rfl (by omega) (by omega) (by omega) (fun a4 => ?_)
  refine j_putF (n := 65) 0 dX8_init_62 f_X8_40 rfl rfl rfl (fun q h => by cases h; rfl) rfl (Nat.le_of_ble_eq_true rfl) rfl rfl ?_
  refine j_aload_n (n := 66) dX8_init_65 rfl rfl ?_
  refine j_iconst (n := 67) (0) dX8_init_66 rfl (by decide) ?_
  refine j_put (n := 70) 0 dX8_init_67 f_X8_43 rfl rfl rfl (Nat.le_of_ble_eq_true rfl) rfl rfl ?_
  refine j_aload_n (n := 71) dX8_init_70 rfl rfl ?_
  refine j_iconst (n := 72) (-1) dX8_init_71 rfl (by decide) ?_
  refine j_put (n := 75) 0 dX8_init_72 f_X8_46 rfl rfl rfl (Nat.le_of_ble_eq_true rfl) rfl rfl ?_
  refine j_aload_n (n := 76) dX8_init_75 rfl rfl ?_
  refine j_iconst (n := 77) (-1) dX8_init_76 rfl (by decide) ?_
  refine j_put (n := 80) 0 dX8_init_77 f_X8_49 rfl rfl rfl (Nat.le_of_ble_eq_true rfl) rfl rfl ?_
  exact j_vret dX8_init_80 rfl (by omega) (by omega) (⟨a1, a2, a3, a4, by simp [List.set, va_rf]; rfl⟩)
end LK

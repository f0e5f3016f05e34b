/-! the reference: turn, see -/
section R4
variable {G : GT} {A M : Nat → Nat} {Z : Nat → Int32} {R : Nat → Nat → Int32} {P ws : va_W}
theorem rturn_loop {ax k0 lo hi : Nat} {s : Nat → Int32} (h0 : ws[k0]? = some (ax, arI G 40 s)) (hlo : lo ≤ hi) (hhi : hi ≤ 40) : ∀ (n i h : Nat), h + i + 1 = hi → lo + 2 * i ≤ hi + 1 → h < n → JJ G Y_X11_turn 0 0 0 (Qv (fun w => w = ws.set k0 (ax, arI G 40 (revF s lo hi)))) 7 [(0, .ref ax), (1, .int (nI lo)), (2, .int (nI hi)), (3, .int (nI (lo + i))), (4, .int (nI h))] [] (ws.set k0 (ax, arI G 40 (swF s lo hi i))) 0 0 := by
  intro n
  induction n with
  | zero => intro i h e1 e2 e3; omega
  | succ n ih =>
    intro i h e1 e2 e3
    have h2' : (ws.set k0 (ax, arI G 40 (swF s lo hi i)))[k0]? = some (ax, arI G 40 (swF s lo hi i)) := gs_eq h0
    refine j_iload_n (n := 8) dX11_turn_7 rfl rfl ?_
    refine j_iload (n := 10) dX11_turn_8 rfl rfl ?_
    refine j_icmp_ge (n := 13) 40 dX11_turn_10 (by decide) rfl (fun c => ?_) (fun c => ?_)
    · have hx : h ≤ lo + i := Nat.le_of_not_lt (fun q => (nI_ge q (by omega)) c)
      exact j_vret dX11_turn_40 rfl (by omega) (by omega) (by rw [swF_end s e2 (by omega) hlo])
    · have hx : lo + i < h := Nat.lt_of_not_le (fun q => c (nI_le q (by omega)))
      obtain ⟨h', rfl⟩ : ∃ h', h = h' + 1 := ⟨h - 1, by omega⟩
      refine j_aload_n (n := 14) dX11_turn_13 rfl rfl ?_
      refine j_iload_n (n := 15) dX11_turn_14 rfl rfl ?_
      refine j_iald (n := 16) _ (lo + i) dX11_turn_15 rfl h2' rfl (by omega) (by omega) ?_
      refine j_istore (n := 18) dX11_turn_16 rfl (by decide) ?_
      refine j_aload_n (n := 19) dX11_turn_18 rfl rfl ?_
      refine j_iload_n (n := 20) dX11_turn_19 rfl rfl ?_
      refine j_aload_n (n := 21) dX11_turn_20 rfl rfl ?_
      refine j_iload (n := 23) dX11_turn_21 rfl rfl ?_
      refine j_iald (n := 24) _ (h' + 1) dX11_turn_23 rfl h2' rfl (by omega) (by omega) ?_
      refine j_iast (n := 25) _ (lo + i) dX11_turn_24 rfl h2' rfl (by omega) (by omega) ?_
      refine j_aload_n (n := 26) dX11_turn_25 rfl rfl ?_
      refine j_iload (n := 28) dX11_turn_26 rfl rfl ?_
      refine j_iload (n := 30) dX11_turn_28 rfl rfl ?_
      refine j_iast (n := 31) _ (h' + 1) dX11_turn_30 rfl (gs_eq h2') rfl (by omega) (by omega) ?_
      refine j_iinc (n := 34) (nI ((lo + i) + 1)) dX11_turn_31 rfl rfl (nI_inc (lo + i)) (by decide) ?_
      refine j_iinc (n := 37) (nI h') dX11_turn_34 rfl rfl (nI_dec h') (by decide) ?_
      refine j_goto 7 dX11_turn_37 (by decide) ?_
      refine j_keep [0, 1, 2, 3, 4] rfl ?_
      refine j_ws (by rw [List.set_set, List.set_set, swF_s s (by omega) hx]) ?_
      exact ih (i + 1) h' (by omega) (by omega) (by omega)
theorem r_turn {ax lo hi : Nat} {s : Nat → Int32} (k0 : Nat) (h0 : ws[k0]? = some (ax, arI G 40 s)) (hlo : lo ≤ hi) (hhi : hi ≤ 40) : JV G Y_X11_turn 0 0 0 [.ref ax, .int (nI lo), .int (nI hi)] ws (ws.set k0 (ax, arI G 40 (revF s lo hi))) := by
  by_cases hz : hi = 0
  · subst hz
    obtain rfl : lo = 0 := by omega
    refine JM.of [(0, .ref ax), (1, .int (nI 0)), (2, .int (nI 0))] rfl rfl (by simp) (Nat.le_of_ble_eq_true rfl) (by decide +kernel) ?_
    refine j_iload_n (n := 1) dX11_turn_0 rfl rfl ?_
    refine j_istore_n (n := 2) dX11_turn_1 rfl (by decide) ?_
    refine j_iload_n (n := 3) dX11_turn_2 rfl rfl ?_
    refine j_iconst (n := 4) (1) dX11_turn_3 rfl (by decide) ?_
    refine j_isub (n := 5) dX11_turn_4 rfl ?_
    refine j_istore (n := 7) dX11_turn_5 rfl (by decide) ?_
    refine j_iload_n (n := 8) dX11_turn_7 rfl rfl ?_
    refine j_iload (n := 10) dX11_turn_8 rfl rfl ?_
    refine j_icmp_ge (n := 13) 40 dX11_turn_10 (by decide) rfl (fun c => ?_) (fun c => ?_)
    · exact j_vret dX11_turn_40 rfl (by omega) (by omega) (by rw [show revF s 0 0 = s from by funext k; unfold revF; rw [if_neg (by omega)], set_self h0])
    · exact absurd (by decide) c
  · obtain ⟨q, rfl⟩ : ∃ q, hi = q + 1 := ⟨hi - 1, by omega⟩
    refine JM.of [(0, .ref ax), (1, .int (nI lo)), (2, .int (nI (q + 1)))] rfl rfl (by simp) (Nat.le_of_ble_eq_true rfl) (by decide +kernel) ?_
    refine j_iload_n (n := 1) dX11_turn_0 rfl rfl ?_
    refine j_istore_n (n := 2) dX11_turn_1 rfl (by decide) ?_
    refine j_iload_n (n := 3) dX11_turn_2 rfl rfl ?_
    refine j_iconst (n := 4) (1) dX11_turn_3 rfl (by decide) ?_
    refine j_isub (n := 5) dX11_turn_4 rfl ?_
    refine j_top (nI q) (nI_sub1 q) ?_
    refine j_istore (n := 7) dX11_turn_5 rfl (by decide) ?_
    refine j_ws (ws' := ws.set k0 (ax, arI G 40 (swF s lo (q + 1) 0))) (by rw [swF_0, set_self h0]) ?_
    exact rturn_loop h0 hlo hhi (q + 1) 0 q (by omega) (by omega) (by omega)
theorem r40 (k i : Nat) : (40 : Int32) * nI k + nI i = nI (40 * k + i) := by rw [show (40 : Int32) = nI 40 from rfl, pk_mul, nI_add]
theorem how_in {hw : Nat → Int32} {m : Nat} (h1 : 33 ≤ m) (h2 : m ≤ 126) : howF hw (nI m) = hw m := by unfold howF; rw [if_pos (sg_of h1 h2), nI_clamp (by omega)]
def tx (R : Nat → Nat → Int32) (k : Nat) : Nat → Int32 := fun i => R 11 (40 * k + i)
theorem see_loop13 {k len : Nat} (hk : k ≤ 200) (hl : len ≤ 40) (hs : R 12 k = nI len) (hsg : ∀ i, i < len → sgB (tx R k i) = true) : ∀ (n i : Nat), i + n = len → JJ G Y_X11_see 1 0 0 (Qi (fun r w => r = nI (seeS (R 2) (tx R k) (R 13) len).2.1 ∧ w = rW G A M Z (va_up R 13 (seeE (seeS (R 2) (tx R k) (R 13) len))) P)) 11 [(0, .ref (A 0)), (1, .int (nI k)), (2, .ref (A 13)), (3, .int (nI (seeS (R 2) (tx R k) (R 13) i).2.1)), (4, .int (nI (seeS (R 2) (tx R k) (R 13) i).2.2.2)), (5, .int (b01 (seeS (R 2) (tx R k) (R 13) i).2.2.1)), (6, .int (nI i))] [] (rW G A M Z (va_up R 13 (seeS (R 2) (tx R k) (R 13) i).1) P) 0 0 := by
  intro n
  induction n with
  | zero =>
    intro i hi
    obtain rfl : i = len := by omega
    obtain ⟨q1, q2⟩ := seeS_le (R 2) (tx R k) (R 13) i
    have hu : seeE (seeS (R 2) (tx R k) (R 13) i) = if (seeS (R 2) (tx R k) (R 13) i).2.2.1 = true then revF (seeS (R 2) (tx R k) (R 13) i).1 (seeS (R 2) (tx R k) (R 13) i).2.2.2 (seeS (R 2) (tx R k) (R 13) i).2.1 else (seeS (R 2) (tx R k) (R 13) i).1 := rfl
    rw [hu]
    generalize seeS (R 2) (tx R k) (R 13) i = S at q1 q2 ⊢
    obtain ⟨f, cn, tu, fr⟩ := S
    dsimp only at q1 q2 ⊢
    refine j_iload (n := 13) dX11_see_11 rfl rfl ?_
    refine j_aload_n (n := 14) dX11_see_13 rfl rfl ?_
    refine j_get (n := 17) 0 dX11_see_14 f_X11_44 rfl rfl rfl ?_
    refine j_iload_n (n := 18) dX11_see_17 rfl rfl ?_
    refine j_iald (n := 19) 12 k dX11_see_18 rfl rfl rfl (by omega) (by omega) ?_
    refine j_top (nI i) hs ?_
    refine j_icmp_ge (n := 22) 101 dX11_see_19 (by decide) rfl (fun c => ?_) (fun c => ?_)
    · refine j_iload (n := 103) dX11_see_101 rfl rfl ?_
      refine j_if_eq (n := 106) 113 dX11_see_103 (by decide) rfl (fun c2 => ?_) (fun c2 => ?_)
      · rw [b01_0 c2]
        refine j_iload_n (n := 114) dX11_see_113 rfl rfl ?_
        exact j_iret dX11_see_114 rfl rfl (by omega) (by omega) (⟨rfl, rfl⟩)
      · rw [b01_n0 c2]
        refine j_aload_n (n := 107) dX11_see_106 rfl rfl ?_
        refine j_iload (n := 109) dX11_see_107 rfl rfl ?_
        refine j_iload_n (n := 110) dX11_see_109 rfl rfl ?_
        refine j_callSv (n := 113) (Y1 := Y_X11_turn) dX11_see_110 m_X11_144 cy_X11_turn cs_X11_turn (r_turn 13 rfl q2 (by omega)) rfl rfl rfl (by omega) (by omega) (by omega) (Nat.le_of_ble_eq_true rfl) (fun w h => ?_)
        subst h
        refine j_ws (ws' := rW G A M Z (va_up R 13 (revF f fr cn)) P) rfl ?_
        refine j_iload_n (n := 114) dX11_see_113 rfl rfl ?_
        exact j_iret dX11_see_114 rfl rfl (by omega) (by omega) (⟨rfl, rfl⟩)
    · exact absurd (nI_le (Nat.le_refl i) (by omega)) c
  | succ n ih =>
    intro i hi
    have ih := ih (i + 1) (by omega)
    obtain ⟨q1, q2⟩ := seeS_le (R 2) (tx R k) (R 13) i
    have hst : seeS (R 2) (tx R k) (R 13) (i + 1) = seeStep (R 2) (tx R k i) (seeS (R 2) (tx R k) (R 13) i) := rfl
    rw [hst] at ih
    generalize seeS (R 2) (tx R k) (R 13) i = S at q1 q2 ih ⊢
    obtain ⟨f, cn, tu, fr⟩ := S
    obtain ⟨m, hm, m1, m2⟩ := sg_nat (hsg i (by omega))
    have hm' : R 11 (40 * k + i) = nI m := hm
    rw [hm] at ih
    unfold seeStep at ih
    rw [how_in m1 m2] at ih
    dsimp only at q1 q2 ih ⊢
    refine j_iload (n := 13) dX11_see_11 rfl rfl ?_
    refine j_aload_n (n := 14) dX11_see_13 rfl rfl ?_
    refine j_get (n := 17) 0 dX11_see_14 f_X11_44 rfl rfl rfl ?_
    refine j_iload_n (n := 18) dX11_see_17 rfl rfl ?_
    refine j_iald (n := 19) 12 k dX11_see_18 rfl rfl rfl (by omega) (by omega) ?_
    refine j_top (nI len) hs ?_
    refine j_icmp_ge (n := 22) 101 dX11_see_19 (by decide) rfl (fun c => ?_) (fun c => ?_)
    · exact absurd c (nI_ge (show i < len by omega) (by omega))
    · refine j_aload_n (n := 23) dX11_see_22 rfl rfl ?_
      refine j_get (n := 26) 0 dX11_see_23 f_X11_41 rfl rfl rfl ?_
      refine j_bipush (n := 28) (40) dX11_see_26 rfl (by decide) ?_
      refine j_iload_n (n := 29) dX11_see_28 rfl rfl ?_
      refine j_imul (n := 30) dX11_see_29 rfl ?_
      refine j_iload (n := 32) dX11_see_30 rfl rfl ?_
      refine j_iadd (n := 33) dX11_see_32 rfl ?_
      refine j_bald (n := 34) 11 (40 * k + i) dX11_see_33 rfl rfl (r40 k i) (by omega) (by omega) ?_
      refine j_top (nI m) hm' ?_
      refine j_istore (n := 36) dX11_see_34 rfl (by decide) ?_
      refine j_aload_n (n := 37) dX11_see_36 rfl rfl ?_
      refine j_get (n := 40) 0 dX11_see_37 f_X11_13 rfl rfl rfl ?_
      refine j_iload (n := 42) dX11_see_40 rfl rfl ?_
      refine j_iald (n := 43) 2 m dX11_see_42 rfl rfl rfl (by omega) (by omega) ?_
      refine j_iconst (n := 44) (2) dX11_see_43 rfl (by decide) ?_
      refine j_icmp_ne (n := 47) 77 dX11_see_44 (by decide) rfl (fun c2 => ?_) (fun c2 => ?_)
      · refine j_aload_n (n := 78) dX11_see_77 rfl rfl ?_
        refine j_get (n := 81) 0 dX11_see_78 f_X11_13 rfl rfl rfl ?_
        refine j_iload (n := 83) dX11_see_81 rfl rfl ?_
        refine j_iald (n := 84) 2 m dX11_see_83 rfl rfl rfl (by omega) (by omega) ?_
        refine j_if_ne (n := 87) 95 dX11_see_84 (by decide) rfl (fun c3 => ?_) (fun c3 => ?_)
        · rw [if_neg (show ¬ R 2 m = 0 from c3), if_neg (show ¬ R 2 m = 2 from c2)] at ih
          refine j_iinc (n := 98) (nI (i + 1)) dX11_see_95 rfl rfl (nI_inc i) (by decide) ?_
          refine j_goto 11 dX11_see_98 (by decide) ?_
          refine j_keep [0, 1, 2, 3, 4, 5, 6] rfl ?_
          exact ih
        · rw [if_pos (show R 2 m = 0 from c3)] at ih
          refine j_aload_n (n := 88) dX11_see_87 rfl rfl ?_
          refine j_iload_n (n := 89) dX11_see_88 rfl rfl ?_
          refine j_iload (n := 91) dX11_see_89 rfl rfl ?_
          refine j_iast (n := 92) 13 cn dX11_see_91 rfl rfl rfl (by omega) (by omega) ?_
          refine j_ws (ws' := rW G A M Z (va_up R 13 (upd f cn (nI m))) P) rfl ?_
          refine j_iinc (n := 95) (nI (cn + 1)) dX11_see_92 rfl rfl (nI_inc cn) (by decide) ?_
          refine j_iinc (n := 98) (nI (i + 1)) dX11_see_95 rfl rfl (nI_inc i) (by decide) ?_
          refine j_goto 11 dX11_see_98 (by decide) ?_
          refine j_keep [0, 1, 2, 3, 4, 5, 6] rfl ?_
          exact ih
      · have c2 : R 2 m = 2 := c2
        rw [if_neg (by rw [c2]; decide), if_pos c2] at ih
        refine j_iload (n := 49) dX11_see_47 rfl rfl ?_
        refine j_if_eq (n := 52) 59 dX11_see_49 (by decide) rfl (fun c3 => ?_) (fun c3 => ?_)
        · have e1 := b01_0 c3
          subst e1
          refine j_iload (n := 61) dX11_see_59 rfl rfl ?_
          refine j_if_ne (n := 64) 68 dX11_see_61 (by decide) rfl (fun c4 => ?_) (fun c4 => ?_)
          · exact absurd rfl c4
          · refine j_iconst (n := 65) (1) dX11_see_64 rfl (by decide) ?_
            refine j_goto 69 dX11_see_65 (by decide) ?_
            refine j_istore (n := 71) dX11_see_69 rfl (by decide) ?_
            refine j_iload_n (n := 72) dX11_see_71 rfl rfl ?_
            refine j_istore (n := 74) dX11_see_72 rfl (by decide) ?_
            refine j_goto 95 dX11_see_74 (by decide) ?_
            refine j_iinc (n := 98) (nI (i + 1)) dX11_see_95 rfl rfl (nI_inc i) (by decide) ?_
            refine j_goto 11 dX11_see_98 (by decide) ?_
            refine j_keep [0, 1, 2, 3, 4, 5, 6] rfl ?_
            exact ih
        · have e1 := b01_n0 c3
          subst e1
          refine j_aload_n (n := 53) dX11_see_52 rfl rfl ?_
          refine j_iload (n := 55) dX11_see_53 rfl rfl ?_
          refine j_iload_n (n := 56) dX11_see_55 rfl rfl ?_
          refine j_callSv (n := 59) (Y1 := Y_X11_turn) dX11_see_56 m_X11_144 cy_X11_turn cs_X11_turn (r_turn 13 rfl q2 (by omega)) rfl rfl rfl (by omega) (by omega) (by omega) (Nat.le_of_ble_eq_true rfl) (fun w h => ?_)
          subst h
          refine j_ws (ws' := rW G A M Z (va_up R 13 (revF f fr cn)) P) rfl ?_
          refine j_iload (n := 61) dX11_see_59 rfl rfl ?_
          refine j_if_ne (n := 64) 68 dX11_see_61 (by decide) rfl (fun c4 => ?_) (fun c4 => ?_)
          · refine j_iconst (n := 69) (0) dX11_see_68 rfl (by decide) ?_
            refine j_istore (n := 71) dX11_see_69 rfl (by decide) ?_
            refine j_iload_n (n := 72) dX11_see_71 rfl rfl ?_
            refine j_istore (n := 74) dX11_see_72 rfl (by decide) ?_
            refine j_goto 95 dX11_see_74 (by decide) ?_
            refine j_iinc (n := 98) (nI (i + 1)) dX11_see_95 rfl rfl (nI_inc i) (by decide) ?_
            refine j_goto 11 dX11_see_98 (by decide) ?_
            refine j_keep [0, 1, 2, 3, 4, 5, 6] rfl ?_
            exact ih
          · exact absurd (show b01 true = 0 from c4) (by decide)
theorem r_see13 {k len : Nat} (hk : k ≤ 200) (hl : len ≤ 40) (hs : R 12 k = nI len) (hsg : ∀ i, i < len → sgB (tx R k i) = true) : JE G Y_X11_see 1 0 0 [.ref (A 0), .int (nI k), .ref (A 13)] (rW G A M Z R P) (nI (seeN (R 2) (tx R k) len)) (rW G A M Z (va_up R 13 (seeE (seeS (R 2) (tx R k) (R 13) len))) P) := by
  refine JM.of [(0, .ref (A 0)), (1, .int (nI k)), (2, .ref (A 13))] rfl rfl (by simp) (Nat.le_of_ble_eq_true rfl) (by decide +kernel) ?_
  refine j_iconst (n := 1) (0) dX11_see_0 rfl (by decide) ?_
  refine j_istore_n (n := 2) dX11_see_1 rfl (by decide) ?_
  refine j_iconst (n := 3) (0) dX11_see_2 rfl (by decide) ?_
  refine j_istore (n := 5) dX11_see_3 rfl (by decide) ?_
  refine j_iconst (n := 6) (0) dX11_see_5 rfl (by decide) ?_
  refine j_istore (n := 8) dX11_see_6 rfl (by decide) ?_
  refine j_iconst (n := 9) (0) dX11_see_8 rfl (by decide) ?_
  refine j_istore (n := 11) dX11_see_9 rfl (by decide) ?_
  refine j_ws (ws' := rW G A M Z (va_up R 13 (R 13)) P) (by rw [show va_up R 13 (R 13) = R by funext j; unfold va_up; split; rename_i h; rw [h]; rfl]) ?_
  rw [← see_N (R 2) (tx R k) (R 13) len]
  exact see_loop13 hk hl hs hsg len 0 (by omega)
theorem see_loop14 {k len : Nat} (hk : k ≤ 200) (hl : len ≤ 40) (hs : R 12 k = nI len) (hsg : ∀ i, i < len → sgB (tx R k i) = true) : ∀ (n i : Nat), i + n = len → JJ G Y_X11_see 1 0 0 (Qi (fun r w => r = nI (seeS (R 2) (tx R k) (R 14) len).2.1 ∧ w = rW G A M Z (va_up R 14 (seeE (seeS (R 2) (tx R k) (R 14) len))) P)) 11 [(0, .ref (A 0)), (1, .int (nI k)), (2, .ref (A 14)), (3, .int (nI (seeS (R 2) (tx R k) (R 14) i).2.1)), (4, .int (nI (seeS (R 2) (tx R k) (R 14) i).2.2.2)), (5, .int (b01 (seeS (R 2) (tx R k) (R 14) i).2.2.1)), (6, .int (nI i))] [] (rW G A M Z (va_up R 14 (seeS (R 2) (tx R k) (R 14) i).1) P) 0 0 := by
  intro n
  induction n with
  | zero =>
    intro i hi
    obtain rfl : i = len := by omega
    obtain ⟨q1, q2⟩ := seeS_le (R 2) (tx R k) (R 14) i
    have hu : seeE (seeS (R 2) (tx R k) (R 14) i) = if (seeS (R 2) (tx R k) (R 14) i).2.2.1 = true then revF (seeS (R 2) (tx R k) (R 14) i).1 (seeS (R 2) (tx R k) (R 14) i).2.2.2 (seeS (R 2) (tx R k) (R 14) i).2.1 else (seeS (R 2) (tx R k) (R 14) i).1 := rfl
    rw [hu]
    generalize seeS (R 2) (tx R k) (R 14) i = S at q1 q2 ⊢
    obtain ⟨f, cn, tu, fr⟩ := S
    dsimp only at q1 q2 ⊢
    refine j_iload (n := 13) dX11_see_11 rfl rfl ?_
    refine j_aload_n (n := 14) dX11_see_13 rfl rfl ?_
    refine j_get (n := 17) 0 dX11_see_14 f_X11_44 rfl rfl rfl ?_
    refine j_iload_n (n := 18) dX11_see_17 rfl rfl ?_
    refine j_iald (n := 19) 12 k dX11_see_18 rfl rfl rfl (by omega) (by omega) ?_
    refine j_top (nI i) hs ?_
    refine j_icmp_ge (n := 22) 101 dX11_see_19 (by decide) rfl (fun c => ?_) (fun c => ?_)
    · refine j_iload (n := 103) dX11_see_101 rfl rfl ?_
      refine j_if_eq (n := 106) 113 dX11_see_103 (by decide) rfl (fun c2 => ?_) (fun c2 => ?_)
      · rw [b01_0 c2]
        refine j_iload_n (n := 114) dX11_see_113 rfl rfl ?_
        exact j_iret dX11_see_114 rfl rfl (by omega) (by omega) (⟨rfl, rfl⟩)
      · rw [b01_n0 c2]
        refine j_aload_n (n := 107) dX11_see_106 rfl rfl ?_
        refine j_iload (n := 109) dX11_see_107 rfl rfl ?_
        refine j_iload_n (n := 110) dX11_see_109 rfl rfl ?_
        refine j_callSv (n := 113) (Y1 := Y_X11_turn) dX11_see_110 m_X11_144 cy_X11_turn cs_X11_turn (r_turn 14 rfl q2 (by omega)) rfl rfl rfl (by omega) (by omega) (by omega) (Nat.le_of_ble_eq_true rfl) (fun w h => ?_)
        subst h
        refine j_ws (ws' := rW G A M Z (va_up R 14 (revF f fr cn)) P) rfl ?_
        refine j_iload_n (n := 114) dX11_see_113 rfl rfl ?_
        exact j_iret dX11_see_114 rfl rfl (by omega) (by omega) (⟨rfl, rfl⟩)
    · exact absurd (nI_le (Nat.le_refl i) (by omega)) c
  | succ n ih =>
    intro i hi
    have ih := ih (i + 1) (by omega)
    obtain ⟨q1, q2⟩ := seeS_le (R 2) (tx R k) (R 14) i
    have hst : seeS (R 2) (tx R k) (R 14) (i + 1) = seeStep (R 2) (tx R k i) (seeS (R 2) (tx R k) (R 14) i) := rfl
    rw [hst] at ih
    generalize seeS (R 2) (tx R k) (R 14) i = S at q1 q2 ih ⊢
    obtain ⟨f, cn, tu, fr⟩ := S
    obtain ⟨m, hm, m1, m2⟩ := sg_nat (hsg i (by omega))
    have hm' : R 11 (40 * k + i) = nI m := hm
    rw [hm] at ih
    unfold seeStep at ih
    rw [how_in m1 m2] at ih
    dsimp only at q1 q2 ih ⊢
    refine j_iload (n := 13) dX11_see_11 rfl rfl ?_
    refine j_aload_n (n := 14) dX11_see_13 rfl rfl ?_
    refine j_get (n := 17) 0 dX11_see_14 f_X11_44 rfl rfl rfl ?_
    refine j_iload_n (n := 18) dX11_see_17 rfl rfl ?_
    refine j_iald (n := 19) 12 k dX11_see_18 rfl rfl rfl (by omega) (by omega) ?_
    refine j_top (nI len) hs ?_
    refine j_icmp_ge (n := 22) 101 dX11_see_19 (by decide) rfl (fun c => ?_) (fun c => ?_)
    · exact absurd c (nI_ge (show i < len by omega) (by omega))
    · refine j_aload_n (n := 23) dX11_see_22 rfl rfl ?_
      refine j_get (n := 26) 0 dX11_see_23 f_X11_41 rfl rfl rfl ?_
      refine j_bipush (n := 28) (40) dX11_see_26 rfl (by decide) ?_
      refine j_iload_n (n := 29) dX11_see_28 rfl rfl ?_
      refine j_imul (n := 30) dX11_see_29 rfl ?_
      refine j_iload (n := 32) dX11_see_30 rfl rfl ?_
      refine j_iadd (n := 33) dX11_see_32 rfl ?_
      refine j_bald (n := 34) 11 (40 * k + i) dX11_see_33 rfl rfl (r40 k i) (by omega) (by omega) ?_
      refine j_top (nI m) hm' ?_
      refine j_istore (n := 36) dX11_see_34 rfl (by decide) ?_
      refine j_aload_n (n := 37) dX11_see_36 rfl rfl ?_
      refine j_get (n := 40) 0 dX11_see_37 f_X11_13 rfl rfl rfl ?_
      refine j_iload (n := 42) dX11_see_40 rfl rfl ?_
      refine j_iald (n := 43) 2 m dX11_see_42 rfl rfl rfl (by omega) (by omega) ?_
      refine j_iconst (n := 44) (2) dX11_see_43 rfl (by decide) ?_
      refine j_icmp_ne (n := 47) 77 dX11_see_44 (by decide) rfl (fun c2 => ?_) (fun c2 => ?_)
      · refine j_aload_n (n := 78) dX11_see_77 rfl rfl ?_
        refine j_get (n := 81) 0 dX11_see_78 f_X11_13 rfl rfl rfl ?_
        refine j_iload (n := 83) dX11_see_81 rfl rfl ?_
        refine j_iald (n := 84) 2 m dX11_see_83 rfl rfl rfl (by omega) (by omega) ?_
        refine j_if_ne (n := 87) 95 dX11_see_84 (by decide) rfl (fun c3 => ?_) (fun c3 => ?_)
        · rw [if_neg (show ¬ R 2 m = 0 from c3), if_neg (show ¬ R 2 m = 2 from c2)] at ih
          refine j_iinc (n := 98) (nI (i + 1)) dX11_see_95 rfl rfl (nI_inc i) (by decide) ?_
          refine j_goto 11 dX11_see_98 (by decide) ?_
          refine j_keep [0, 1, 2, 3, 4, 5, 6] rfl ?_
          exact ih
        · rw [if_pos (show R 2 m = 0 from c3)] at ih
          refine j_aload_n (n := 88) dX11_see_87 rfl rfl ?_
          refine j_iload_n (n := 89) dX11_see_88 rfl rfl ?_
          refine j_iload (n := 91) dX11_see_89 rfl rfl ?_
          refine j_iast (n := 92) 14 cn dX11_see_91 rfl rfl rfl (by omega) (by omega) ?_
          refine j_ws (ws' := rW G A M Z (va_up R 14 (upd f cn (nI m))) P) rfl ?_
          refine j_iinc (n := 95) (nI (cn + 1)) dX11_see_92 rfl rfl (nI_inc cn) (by decide) ?_
          refine j_iinc (n := 98) (nI (i + 1)) dX11_see_95 rfl rfl (nI_inc i) (by decide) ?_
          refine j_goto 11 dX11_see_98 (by decide) ?_
          refine j_keep [0, 1, 2, 3, 4, 5, 6] rfl ?_
          exact ih
      · have c2 : R 2 m = 2 := c2
        rw [if_neg (by rw [c2]; decide), if_pos c2] at ih
        refine j_iload (n := 49) dX11_see_47 rfl rfl ?_
        refine j_if_eq (n := 52) 59 dX11_see_49 (by decide) rfl (fun c3 => ?_) (fun c3 => ?_)
        · have e1 := b01_0 c3
          subst e1
          refine j_iload (n := 61) dX11_see_59 rfl rfl ?_
          refine j_if_ne (n := 64) 68 dX11_see_61 (by decide) rfl (fun c4 => ?_) (fun c4 => ?_)
          · exact absurd rfl c4
          · refine j_iconst (n := 65) (1) dX11_see_64 rfl (by decide) ?_
            refine j_goto 69 dX11_see_65 (by decide) ?_
            refine j_istore (n := 71) dX11_see_69 rfl (by decide) ?_
            refine j_iload_n (n := 72) dX11_see_71 rfl rfl ?_
            refine j_istore (n := 74) dX11_see_72 rfl (by decide) ?_
            refine j_goto 95 dX11_see_74 (by decide) ?_
            refine j_iinc (n := 98) (nI (i + 1)) dX11_see_95 rfl rfl (nI_inc i) (by decide) ?_
            refine j_goto 11 dX11_see_98 (by decide) ?_
            refine j_keep [0, 1, 2, 3, 4, 5, 6] rfl ?_
            exact ih
        · have e1 := b01_n0 c3
          subst e1
          refine j_aload_n (n := 53) dX11_see_52 rfl rfl ?_
          refine j_iload (n := 55) dX11_see_53 rfl rfl ?_
          refine j_iload_n (n := 56) dX11_see_55 rfl rfl ?_
          refine j_callSv (n := 59) (Y1 := Y_X11_turn) dX11_see_56 m_X11_144 cy_X11_turn cs_X11_turn (r_turn 14 rfl q2 (by omega)) rfl rfl rfl (by omega) (by omega) (by omega) (Nat.le_of_ble_eq_true rfl) (fun w h => ?_)
          subst h
          refine j_ws (ws' := rW G A M Z (va_up R 14 (revF f fr cn)) P) rfl ?_
          refine j_iload (n := 61) dX11_see_59 rfl rfl ?_
          refine j_if_ne (n := 64) 68 dX11_see_61 (by decide) rfl (fun c4 => ?_) (fun c4 => ?_)
          · refine j_iconst (n := 69) (0) dX11_see_68 rfl (by decide) ?_
            refine j_istore (n := 71) dX11_see_69 rfl (by decide) ?_
            refine j_iload_n (n := 72) dX11_see_71 rfl rfl ?_
            refine j_istore (n := 74) dX11_see_72 rfl (by decide) ?_
            refine j_goto 95 dX11_see_74 (by decide) ?_
            refine j_iinc (n := 98) (nI (i + 1)) dX11_see_95 rfl rfl (nI_inc i) (by decide) ?_
            refine j_goto 11 dX11_see_98 (by decide) ?_
            refine j_keep [0, 1, 2, 3, 4, 5, 6] rfl ?_
            exact ih
          · exact absurd (show b01 true = 0 from c4) (by decide)
theorem r_see14 {k len : Nat} (hk : k ≤ 200) (hl : len ≤ 40) (hs : R 12 k = nI len) (hsg : ∀ i, i < len → sgB (tx R k i) = true) : JE G Y_X11_see 1 0 0 [.ref (A 0), .int (nI k), .ref (A 14)] (rW G A M Z R P) (nI (seeN (R 2) (tx R k) len)) (rW G A M Z (va_up R 14 (seeE (seeS (R 2) (tx R k) (R 14) len))) P) := by
  refine JM.of [(0, .ref (A 0)), (1, .int (nI k)), (2, .ref (A 14))] rfl rfl (by simp) (Nat.le_of_ble_eq_true rfl) (by decide +kernel) ?_
  refine j_iconst (n := 1) (0) dX11_see_0 rfl (by decide) ?_
  refine j_istore_n (n := 2) dX11_see_1 rfl (by decide) ?_
  refine j_iconst (n := 3) (0) dX11_see_2 rfl (by decide) ?_
  refine j_istore (n := 5) dX11_see_3 rfl (by decide) ?_
  refine j_iconst (n := 6) (0) dX11_see_5 rfl (by decide) ?_
  refine j_istore (n := 8) dX11_see_6 rfl (by decide) ?_
  refine j_iconst (n := 9) (0) dX11_see_8 rfl (by decide) ?_
  refine j_istore (n := 11) dX11_see_9 rfl (by decide) ?_
  refine j_ws (ws' := rW G A M Z (va_up R 14 (R 14)) P) (by rw [show va_up R 14 (R 14) = R by funext j; unfold va_up; split; rename_i h; rw [h]; rfl]) ?_
  rw [← see_N (R 2) (tx R k) (R 14) len]
  exact see_loop14 hk hl hs hsg len 0 (by omega)
end R4

/-! the reference: allow, near -/
theorem set_256 : ∀ j : Fin 256, setB (nI j.val) = (btw (nI j.val) 2 254 && decide (nI j.val &&& 1 = 0)) := by decide +kernel
theorem set_ref (s : Int32) : setB s = (btw s 2 254 && decide (s &&& 1 = 0)) := by
  by_cases h : ∃ n : Nat, n < 256 ∧ s = nI n
  · obtain ⟨n, hn, rfl⟩ := h
    exact set_256 ⟨n, hn⟩
  · have h1 : setB s = false := by
      cases hb : setB s with
      | false => rfl
      | true =>
        exfalso
        unfold setB at hb
        rw [Bool.and_eq_true] at hb
        have h2 := of_decide_eq_true hb.2
        obtain ⟨j, hj, ej⟩ := bits_j s
        apply h
        refine ⟨j, hj, ?_⟩
        have h3 : s &&& (254 ||| (-255)) = (s &&& 254) ||| (s &&& (-255)) := Int32.toBitVec_inj.1 BitVec.and_or_distrib_left
        rw [h2, show ((254 : Int32) ||| (-255)) = -1 from by decide, Int32.and_neg_one, Int32.or_zero, ej] at h3
        exact h3
    have h2 : btw s 2 254 = false := by
      cases hb : btw s 2 254 with
      | false => rfl
      | true =>
        exfalso
        rw [btw_and] at hb
        have h2 := of_decide_eq_true hb
        have h0 : ¬ s < 0 := fun q => Int32.not_lt.mpr h2.1 (Int32.lt_of_lt_of_le q (by decide))
        obtain ⟨n, hn, rfl⟩ := nI_of h0
        exact h ⟨n, by have := (nI_leI hn (by omega)).mp (show nI n ≤ nI 254 from h2.2); omega, rfl⟩
    rw [h1, h2]; rfl
theorem RNI.cg {M M' : Nat → Nat} {R R' : Nat → Nat → Int32} (h : RNI M R) (h4 : M' 4 = M 4) (h8 : M' 8 = M 8) (hr : ∀ i, 4 ≤ i → i ≤ 9 → R' i = R i) : RNI M' R' ∧ rCT M' R' = rCT M R := by
  have e : rCT M' R' = rCT M R := by
    show (M' 4, R' 4, R' 5, R' 6) = (M 4, R 4, R 5, R 6)
    rw [h4, hr 4 (by omega) (by omega), hr 5 (by omega) (by omega), hr 6 (by omega) (by omega)]
  refine ⟨?_, e⟩
  obtain ⟨h1, h2, h3, h5⟩ := h
  unfold RNI
  rw [e, h8, hr 7 (by omega) (by omega), hr 8 (by omega) (by omega), hr 9 (by omega) (by omega)]
  exact ⟨h1, h2, h3, h5⟩
theorem RTX.cg {R R' : Nat → Nat → Int32} {k len : Nat} {t : Nat → Int32} (h : RTX R k len t) (h11 : R' 11 = R 11) (h12 : R' 12 = R 12) : RTX R' k len t := by
  obtain ⟨h1, h2, h3, h4, h5⟩ := h
  refine ⟨by rw [h12]; exact h1, h2, h3, fun i hi => ?_, h5⟩
  have : tx R' k i = tx R k i := by unfold tx; rw [h11]
  rw [this]; exact h4 i hi
section RI
variable {G : GT} {A M : Nat → Nat} {Z : Nat → Int32} {R : Nat → Nat → Int32} {P ws : va_W} {el : Nat → Nat} {et : Nat → Nat → Int32} {rf rw : Nat → Nat} {rs : Nat → Int32} {ns : Option (Nat × (Nat → Int32))}
theorem allow_lp {s : Int32} (hs : M 12 ≤ 8) : ∀ (k i : Nat), i + k = M 12 → (∀ j, j < i → ¬ R 10 j = s) → JJ G Y_X11_allow 1 0 0 (Qi (fun r u => r = addS (M 12) (R 10) s ∧ u = if ¬ (inB (M 12) (R 10) s = true ∨ 8 ≤ M 12) then rW G A (va_up M 12 (M 12 + 1)) Z (va_up R 10 (upd (R 10) (M 12) s)) P else rW G A M Z R P)) 22 [(0, .ref (A 0)), (1, .int s), (2, .int (nI i))] [] (rW G A M Z R P) 0 0 := by
  intro k
  induction k with
  | zero =>
    intro i hi hno
    obtain rfl : i = M 12 := by omega
    have hb : inB (M 12) (R 10) s = false := by unfold inB; exact any_f (fun j hj => decide_eq_false (hno j hj))
    unfold addS
    rw [hb]
    refine j_iload_n (n := 23) dX11_allow_22 rfl rfl ?_
    refine j_aload_n (n := 24) dX11_allow_23 rfl rfl ?_
    refine j_get (n := 27) 0 dX11_allow_24 f_X11_141 rfl rfl rfl ?_
    refine j_icmp_ge (n := 30) 51 dX11_allow_27 (by decide) rfl (fun c => ?_) (fun c => ?_)
    · refine j_aload_n (n := 52) dX11_allow_51 rfl rfl ?_
      refine j_get (n := 55) 0 dX11_allow_52 f_X11_141 rfl rfl rfl ?_
      refine j_bipush (n := 57) (8) dX11_allow_55 rfl (by decide) ?_
      refine j_icmp_ne (n := 60) 63 dX11_allow_57 (by decide) rfl (fun c1 => ?_) (fun c1 => ?_)
      · have h8 : ¬ 8 ≤ M 12 := fun q => c1 (show nI (M 12) = nI 8 by rw [show M 12 = 8 by omega])
        rw [if_neg (by decide), if_neg h8, if_pos (fun h => h.elim (by decide) h8)]
        refine j_aload_n (n := 64) dX11_allow_63 rfl rfl ?_
        refine j_get (n := 67) 0 dX11_allow_64 f_X11_38 rfl rfl rfl ?_
        refine j_aload_n (n := 68) dX11_allow_67 rfl rfl ?_
        refine j_get (n := 71) 0 dX11_allow_68 f_X11_141 rfl rfl rfl ?_
        refine j_iload_n (n := 72) dX11_allow_71 rfl rfl ?_
        refine j_iast (n := 73) 10 (M 12) dX11_allow_72 rfl rfl rfl (by omega) (by omega) ?_
        refine j_ws (ws' := rW G A M Z (va_up R 10 (upd (R 10) (M 12) s)) P) rfl ?_
        refine j_aload_n (n := 74) dX11_allow_73 rfl rfl ?_
        refine j_dup (n := 75) dX11_allow_74 rfl rfl ?_
        refine j_get (n := 78) 0 dX11_allow_75 f_X11_141 rfl rfl rfl ?_
        refine j_iconst (n := 79) (1) dX11_allow_78 rfl (by decide) ?_
        refine j_iadd (n := 80) dX11_allow_79 rfl ?_
        refine j_top (nI (M 12 + 1)) (nI_inc (M 12)) ?_
        refine j_put (n := 83) 0 dX11_allow_80 f_X11_141 rfl rfl rfl (Nat.le_of_ble_eq_true rfl) rfl rfl ?_
        refine j_ws (ws' := rW G A (va_up M 12 (M 12 + 1)) Z (va_up R 10 (upd (R 10) (M 12) s)) P) rfl ?_
        refine j_aload_n (n := 84) dX11_allow_83 rfl rfl ?_
        refine j_get (n := 87) 0 dX11_allow_84 f_X11_141 rfl rfl rfl ?_
        exact j_iret dX11_allow_87 rfl rfl (by omega) (by omega) (⟨rfl, rfl⟩)
      · have h8 : 8 ≤ M 12 := Nat.le_of_eq ((nI_eq (by omega) (by omega)).mp (show nI 8 = nI (M 12) from (show nI (M 12) = nI 8 from c1).symm))
        rw [if_neg (by decide), if_pos h8, if_neg (fun h => h (Or.inr h8))]
        refine j_bipush (n := 62) (-3) dX11_allow_60 rfl (by decide) ?_
        exact j_iret dX11_allow_62 rfl rfl (by omega) (by omega) (⟨rfl, rfl⟩)
    · exact absurd (nI_le (Nat.le_refl _) (by omega)) c
  | succ k ih =>
    intro i hi hno
    refine j_iload_n (n := 23) dX11_allow_22 rfl rfl ?_
    refine j_aload_n (n := 24) dX11_allow_23 rfl rfl ?_
    refine j_get (n := 27) 0 dX11_allow_24 f_X11_141 rfl rfl rfl ?_
    refine j_icmp_ge (n := 30) 51 dX11_allow_27 (by decide) rfl (fun c => ?_) (fun c => ?_)
    · exact absurd c (nI_ge (show i < M 12 by omega) (by omega))
    · refine j_aload_n (n := 31) dX11_allow_30 rfl rfl ?_
      refine j_get (n := 34) 0 dX11_allow_31 f_X11_38 rfl rfl rfl ?_
      refine j_iload_n (n := 35) dX11_allow_34 rfl rfl ?_
      refine j_iald (n := 36) 10 i dX11_allow_35 rfl rfl rfl (by omega) (by omega) ?_
      refine j_iload_n (n := 37) dX11_allow_36 rfl rfl ?_
      refine j_icmp_ne (n := 40) 45 dX11_allow_37 (by decide) rfl (fun c1 => ?_) (fun c1 => ?_)
      · refine j_iinc (n := 48) (nI (i + 1)) dX11_allow_45 rfl rfl (nI_inc i) (by decide) ?_
        refine j_goto 22 dX11_allow_48 (by decide) ?_
        refine ih (i + 1) (by omega) (fun j hj => ?_)
        by_cases e : j = i
        · subst e; exact c1
        · exact hno j (by omega)
      · have hb : inB (M 12) (R 10) s = true := by unfold inB; exact any_t (show i < M 12 by omega) (decide_eq_true c1)
        unfold addS
        rw [hb, if_pos rfl, if_neg (fun h => h (Or.inl rfl))]
        refine j_aload_n (n := 41) dX11_allow_40 rfl rfl ?_
        refine j_get (n := 44) 0 dX11_allow_41 f_X11_141 rfl rfl rfl ?_
        exact j_iret dX11_allow_44 rfl rfl (by omega) (by omega) (⟨rfl, rfl⟩)
theorem r_allow {s : Int32} (hs : M 12 ≤ 8) : JE G Y_X11_allow 1 0 0 [.ref (A 0), .int s] (rW G A M Z R P) (if setB s = true then addS (M 12) (R 10) s else -2) (if setB s = true ∧ ¬ (inB (M 12) (R 10) s = true ∨ 8 ≤ M 12) then rW G A (va_up M 12 (M 12 + 1)) Z (va_up R 10 (upd (R 10) (M 12) s)) P else rW G A M Z R P) := by
  refine JM.of [(0, .ref (A 0)), (1, .int s)] rfl rfl (by simp) (Nat.le_of_ble_eq_true rfl) (by decide +kernel) ?_
  refine j_iload_n (n := 1) dX11_allow_0 rfl rfl ?_
  refine j_iconst (n := 2) (2) dX11_allow_1 rfl (by decide) ?_
  refine j_sipush (n := 5) (254) dX11_allow_2 rfl (by decide) ?_
  refine j_callSe (n := 8) (Y1 := Y_X11_in) dX11_allow_5 m_X11_106 cy_X11_in cs_X11_in (r_in) rfl rfl rfl (by omega) (by omega) (by omega) (Nat.le_of_ble_eq_true rfl) ?_
  refine j_if_eq (n := 11) 17 dX11_allow_8 (by decide) rfl (fun c => ?_) (fun c => ?_)
  · have hb : setB s = false := by rw [set_ref, b01_0 c]; rfl
    rw [hb, if_neg (by decide), if_neg (fun h => Bool.false_ne_true h.1)]
    refine j_bipush (n := 19) (-2) dX11_allow_17 rfl (by decide) ?_
    exact j_iret dX11_allow_19 rfl rfl (by omega) (by omega) (⟨rfl, rfl⟩)
  · refine j_iload_n (n := 12) dX11_allow_11 rfl rfl ?_
    refine j_iconst (n := 13) (1) dX11_allow_12 rfl (by decide) ?_
    refine j_iand (n := 14) dX11_allow_13 rfl ?_
    refine j_if_eq (n := 17) 20 dX11_allow_14 (by decide) rfl (fun c1 => ?_) (fun c1 => ?_)
    · have hb : setB s = true := by rw [set_ref, b01_n0 c, decide_eq_true c1]; rfl
      rw [hb, if_pos rfl]
      have hlp := allow_lp (G := G) (A := A) (M := M) (Z := Z) (R := R) (P := P) (s := s) hs (M 12) 0 (by omega) (fun j hj => by omega)
      have e : (if true = true ∧ ¬ (inB (M 12) (R 10) s = true ∨ 8 ≤ M 12) then rW G A (va_up M 12 (M 12 + 1)) Z (va_up R 10 (upd (R 10) (M 12) s)) P else rW G A M Z R P) = (if ¬ (inB (M 12) (R 10) s = true ∨ 8 ≤ M 12) then rW G A (va_up M 12 (M 12 + 1)) Z (va_up R 10 (upd (R 10) (M 12) s)) P else rW G A M Z R P) := by
        by_cases h : ¬ (inB (M 12) (R 10) s = true ∨ 8 ≤ M 12)
        · rw [if_pos ⟨rfl, h⟩, if_pos h]
        · rw [if_neg (fun q => h q.2), if_neg h]
      rw [e]
      refine j_iconst (n := 21) (0) dX11_allow_20 rfl (by decide) ?_
      refine j_istore_n (n := 22) dX11_allow_21 rfl (by decide) ?_
      exact hlp
    · have hb : setB s = false := by rw [set_ref, decide_eq_false c1, Bool.and_false]
      rw [hb, if_neg (by decide), if_neg (fun h => Bool.false_ne_true h.1)]
      refine j_bipush (n := 19) (-2) dX11_allow_17 rfl (by decide) ?_
      exact j_iret dX11_allow_19 rfl rfl (by omega) (by omega) (⟨rfl, rfl⟩)
abbrev NT : Type := Nat × (Nat → Int32) × (Nat → Int32)
def NRX (M : Nat → Nat) (R : Nat → Nat → Int32) (s : NT) (M' : Nat → Nat) (R' : Nat → Nat → Int32) : Prop := (∀ i, i ≠ 22 → i ≠ 23 → i ≠ 33 → M' i = M i) ∧ M' 33 = s.1 ∧ (∀ i, i ≠ 13 → i ≠ 14 → i ≠ 15 → i ≠ 22 → i ≠ 23 → R' i = R i) ∧ R' 22 = s.2.1 ∧ R' 23 = s.2.2
theorem NRX.sc {s : NT} {M' M2 : Nat → Nat} {R' R2 : Nat → Nat → Int32} (h : NRX M R s M' R') (h2 : RSC M' R' M2 R2) : NRX M R s M2 R2 := by
  obtain ⟨a1, a2, a3, a4, a5⟩ := h
  refine ⟨fun i x y z => (h2.1 i x y).trans (a1 i x y z), (h2.1 33 (by omega) (by omega)).trans a2, fun i x y z u v => (h2.2 i x y z).trans (a3 i x y z u v), (h2.2 22 (by omega) (by omega) (by omega)).trans a4, (h2.2 23 (by omega) (by omega) (by omega)).trans a5⟩
abbrev nR2 (R : Nat → Nat → Int32) (f g : Nat → Int32) : Nat → Nat → Int32 := va_up (va_up R 22 f) 23 g
theorem nR2_23 (R : Nat → Nat → Int32) (f g : Nat → Int32) : nR2 R f g 23 = g := rfl
theorem nR2_22 (R : Nat → Nat → Int32) (f g : Nat → Int32) : nR2 R f g 22 = f := rfl
theorem nR2_ne (R : Nat → Nat → Int32) (f g : Nat → Int32) {j : Nat} (h1 : j ≠ 22) (h2 : j ≠ 23) : nR2 R f g j = R j := by
  show va_up (va_up R 22 f) 23 g j = R j
  rw [va_up_ne _ _ h2, va_up_ne _ _ h1]
theorem nr_139 {post : OT} {q lim x : Int32} {e n p : Nat} {f g : Nat → Int32} (hn : n < 200) (hp : p ≤ n) (hM : M 33 = n)
    (hk : JJ G Y_X11_near 3 0 0 post 166 [(0, .ref (A 0)), (1, .int q), (2, .int lim), (3, .int (nI e))] [] (rW G A (va_up M 33 (n + 1)) Z (nR2 R (insF f p n (nI e)) (insF g p n x)) P) 0 0) :
    JJ G Y_X11_near 3 0 0 post 139 [(0, .ref (A 0)), (1, .int q), (2, .int lim), (3, .int (nI e)), (4, .int x), (5, .int (nI p))] [] (rW G A M Z (nR2 R (shF f p n) (shF g p n)) P) 0 0 := by
  refine j_aload_n (n := 140) dX11_near_139 rfl rfl ?_
  refine j_get (n := 143) 0 dX11_near_140 f_X11_79 rfl rfl rfl ?_
  refine j_iload (n := 145) dX11_near_143 rfl rfl ?_
  refine j_iload_n (n := 146) dX11_near_145 rfl rfl ?_
  refine j_iast (n := 147) 22 p dX11_near_146 rfl rfl rfl (by omega) (by omega) ?_
  refine j_ws (ws' := rW G A M Z (nR2 R (insF f p n (nI e)) (shF g p n)) P) rfl ?_
  refine j_aload_n (n := 148) dX11_near_147 rfl rfl ?_
  refine j_get (n := 151) 0 dX11_near_148 f_X11_82 rfl rfl rfl ?_
  refine j_iload (n := 153) dX11_near_151 rfl rfl ?_
  refine j_iload (n := 155) dX11_near_153 rfl rfl ?_
  refine j_iast (n := 156) 23 p dX11_near_155 rfl rfl rfl (by omega) (by omega) ?_
  refine j_ws (ws' := rW G A M Z (nR2 R (insF f p n (nI e)) (insF g p n x)) P) rfl ?_
  refine j_aload_n (n := 157) dX11_near_156 rfl rfl ?_
  refine j_dup (n := 158) dX11_near_157 rfl rfl ?_
  refine j_get (n := 161) 0 dX11_near_158 f_X11_208 rfl rfl rfl ?_
  refine j_iconst (n := 162) (1) dX11_near_161 rfl (by decide) ?_
  refine j_iadd (n := 163) dX11_near_162 rfl ?_
  refine j_top (nI (n + 1)) (by rw [hM]; exact nI_inc n) ?_
  refine j_put (n := 166) 0 dX11_near_163 f_X11_208 rfl rfl rfl (Nat.le_of_ble_eq_true rfl) rfl rfl ?_
  refine j_ws (ws' := rW G A (va_up M 33 (n + 1)) Z (nR2 R (insF f p n (nI e)) (insF g p n x)) P) rfl ?_
  refine j_keep [0, 1, 2, 3] rfl ?_
  exact hk
theorem nr_82 {post : OT} {q lim x : Int32} {e n : Nat} {f g : Nat → Int32} (hn : n < 200) (hM : M 33 = n)
    (hk : JJ G Y_X11_near 3 0 0 post 166 [(0, .ref (A 0)), (1, .int q), (2, .int lim), (3, .int (nI e))] [] (rW G A (va_up M 33 (n + 1)) Z (nR2 R (insF f (insP g x n) n (nI e)) (insF g (insP g x n) n x)) P) 0 0) :
    ∀ (i : Nat), i ≤ n → insP g x n = insP g x i → JJ G Y_X11_near 3 0 0 post 82 [(0, .ref (A 0)), (1, .int q), (2, .int lim), (3, .int (nI e)), (4, .int x), (5, .int (nI i))] [] (rW G A M Z (nR2 R (shF f i n) (shF g i n)) P) 0 0 := by
  intro i
  induction i with
  | zero =>
    intro hi he
    refine j_iload (n := 84) dX11_near_82 rfl rfl ?_
    refine j_if_le (n := 87) 139 dX11_near_84 (by decide) rfl (fun c => ?_) (fun c => ?_)
    · have h0 : insP g x n = 0 := he
      rw [h0] at hk
      exact nr_139 hn hi hM hk
    · exact absurd (show nI 0 ≤ 0 by decide) c
  | succ i ih =>
    intro hi he
    refine j_iload (n := 84) dX11_near_82 rfl rfl ?_
    refine j_if_le (n := 87) 139 dX11_near_84 (by decide) rfl (fun c => ?_) (fun c => ?_)
    · exact absurd c (nI_nle (by omega) (by omega))
    · refine j_aload_n (n := 88) dX11_near_87 rfl rfl ?_
      refine j_get (n := 91) 0 dX11_near_88 f_X11_82 rfl rfl rfl ?_
      refine j_iload (n := 93) dX11_near_91 rfl rfl ?_
      refine j_iconst (n := 94) (1) dX11_near_93 rfl (by decide) ?_
      refine j_isub (n := 95) dX11_near_94 rfl ?_
      refine j_iald (n := 96) 23 i dX11_near_95 rfl rfl (nI_sub1 i) (by omega) (by omega) ?_
      refine j_top (g i) (shF_at g i n) ?_
      refine j_iload (n := 98) dX11_near_96 rfl rfl ?_
      refine j_icmp_le (n := 101) 139 dX11_near_98 (by decide) rfl (fun c2 => ?_) (fun c2 => ?_)
      · have h0 : insP g x n = i + 1 := by rw [he]; simp [insP, c2]
        rw [h0] at hk
        exact nr_139 hn hi hM hk
      · have h0 : insP g x n = insP g x i := by rw [he]; simp [insP, c2]
        refine j_aload_n (n := 102) dX11_near_101 rfl rfl ?_
        refine j_get (n := 105) 0 dX11_near_102 f_X11_79 rfl rfl rfl ?_
        refine j_iload (n := 107) dX11_near_105 rfl rfl ?_
        refine j_aload_n (n := 108) dX11_near_107 rfl rfl ?_
        refine j_get (n := 111) 0 dX11_near_108 f_X11_79 rfl rfl rfl ?_
        refine j_iload (n := 113) dX11_near_111 rfl rfl ?_
        refine j_iconst (n := 114) (1) dX11_near_113 rfl (by decide) ?_
        refine j_isub (n := 115) dX11_near_114 rfl ?_
        refine j_iald (n := 116) 22 i dX11_near_115 rfl rfl (nI_sub1 i) (by omega) (by omega) ?_
        refine j_top (f i) (shF_at f i n) ?_
        refine j_iast (n := 117) 22 (i + 1) dX11_near_116 rfl rfl rfl (by omega) (by omega) ?_
        refine j_ws (ws' := rW G A M Z (nR2 R (shF f i n) (shF g (i + 1) n)) P) (by rw [← shF_s f i n hi]; rfl) ?_
        refine j_aload_n (n := 118) dX11_near_117 rfl rfl ?_
        refine j_get (n := 121) 0 dX11_near_118 f_X11_82 rfl rfl rfl ?_
        refine j_iload (n := 123) dX11_near_121 rfl rfl ?_
        refine j_aload_n (n := 124) dX11_near_123 rfl rfl ?_
        refine j_get (n := 127) 0 dX11_near_124 f_X11_82 rfl rfl rfl ?_
        refine j_iload (n := 129) dX11_near_127 rfl rfl ?_
        refine j_iconst (n := 130) (1) dX11_near_129 rfl (by decide) ?_
        refine j_isub (n := 131) dX11_near_130 rfl ?_
        refine j_iald (n := 132) 23 i dX11_near_131 rfl rfl (nI_sub1 i) (by omega) (by omega) ?_
        refine j_top (g i) (shF_at g i n) ?_
        refine j_iast (n := 133) 23 (i + 1) dX11_near_132 rfl rfl rfl (by omega) (by omega) ?_
        refine j_ws (ws' := rW G A M Z (nR2 R (shF f i n) (shF g i n)) P) (by rw [← shF_s g i n hi]; rfl) ?_
        refine j_iinc (n := 136) (nI i) dX11_near_133 rfl rfl (nI_dec i) (by decide) ?_
        refine j_goto 82 dX11_near_136 (by decide) ?_
        exact ih (by omega) h0
theorem lmt_c {D : Option Nat} {lm : Nat} (hD : BD D) (hl : lm ≤ 200) : (ec 1000000 D ≤ nI lm → ∃ v, v ≤ lm ∧ D = some v ∧ lmt lm D = some v) ∧ (¬ ec 1000000 D ≤ nI lm → lmt lm D = none) := by
  cases D with
  | none => exact ⟨fun c => absurd c (nI_ge (show lm < 1000000 by omega) (by omega)), fun _ => rfl⟩
  | some v =>
    have hv := hD v rfl
    constructor
    · intro c
      have h1 := (nI_leI (a := v) (b := lm) (by omega) (by omega)).mp c
      exact ⟨v, h1, rfl, if_pos h1⟩
    · intro c
      exact if_neg (fun q => c (nI_le q (by omega)))
theorem near_lp {post : OT} {l lm : Nat} {t : Nat → Int32} {q : Int32} {f0 g0 : Nat → Int32} (hI : RNI M R) (hE : RET M R el et) (hn : RTX R 200 l t) (hlm : lm ≤ 200)
    (hk : ∀ (M' : Nat → Nat) (R' : Nat → Nat → Int32), NRX M R (nrS (rCT M R) (R 2) (R 19) (R 21) el et l t q lm f0 g0 (M 27)) M' R' → JJ G Y_X11_near 3 0 0 post 172 [(0, .ref (A 0))] [] (rW G A M' Z R' P) 0 0) :
    ∀ (k i : Nat), i + k = M 27 → ∀ (M' : Nat → Nat) (R' : Nat → Nat → Int32), NRX M R (nrS (rCT M R) (R 2) (R 19) (R 21) el et l t q lm f0 g0 i) M' R' → JJ G Y_X11_near 3 0 0 post 37 [(0, .ref (A 0)), (1, .int q), (2, .int (nI lm)), (3, .int (nI i))] [] (rW G A M' Z R' P) 0 0 := by
  have h27 := hE.1
  have hok := hI.1
  intro k
  induction k with
  | zero =>
    intro i hi M' R' hX
    obtain rfl : i = M 27 := by omega
    have e27 : M' 27 = M 27 := hX.1 27 (by omega) (by omega) (by omega)
    refine j_iload_n (n := 38) dX11_near_37 rfl rfl ?_
    refine j_aload_n (n := 39) dX11_near_38 rfl rfl ?_
    refine j_get (n := 42) 0 dX11_near_39 f_X11_190 rfl rfl rfl ?_
    rw [e27]
    refine j_icmp_ge (n := 45) 172 dX11_near_42 (by decide) rfl (fun c => ?_) (fun c => ?_)
    · refine j_keep [0] rfl ?_
      exact hk M' R' hX
    · exact absurd (nI_le (Nat.le_refl _) (by omega)) c
  | succ k ih =>
    intro i hi M' R' hX
    have e27 : M' 27 = M 27 := hX.1 27 (by omega) (by omega) (by omega)
    have er : ∀ j, j ≠ 13 → j ≠ 14 → j ≠ 15 → j ≠ 22 → j ≠ 23 → R' j = R j := hX.2.2.1
    have e19 : R' 19 = R 19 := er 19 (by omega) (by omega) (by omega) (by omega) (by omega)
    have e21 : R' 21 = R 21 := er 21 (by omega) (by omega) (by omega) (by omega) (by omega)
    have e2 : R' 2 = R 2 := er 2 (by omega) (by omega) (by omega) (by omega) (by omega)
    have e11 : R' 11 = R 11 := er 11 (by omega) (by omega) (by omega) (by omega) (by omega)
    have e12 : R' 12 = R 12 := er 12 (by omega) (by omega) (by omega) (by omega) (by omega)
    obtain ⟨hI', eC⟩ := hI.cg (hX.1 4 (by omega) (by omega) (by omega)) (hX.1 8 (by omega) (by omega) (by omega)) (fun j a b => er j (by omega) (by omega) (by omega) (by omega) (by omega))
    obtain ⟨hx, -⟩ := hE.2 i (by omega)
    have hD : BD (dst (rCT M R) (R 2) l t (el i) (et i)) := BD_dst hok hn.2.1
    have hun : nrS (rCT M R) (R 2) (R 19) (R 21) el et l t q lm f0 g0 (i + 1) = if ¬ R 21 i = 0 ∧ R 19 i = q then (match lmt lm (dst (rCT M R) (R 2) l t (el i) (et i)) with
      | some v => ((nrS (rCT M R) (R 2) (R 19) (R 21) el et l t q lm f0 g0 i).1 + 1, insF (nrS (rCT M R) (R 2) (R 19) (R 21) el et l t q lm f0 g0 i).2.1 (insP (nrS (rCT M R) (R 2) (R 19) (R 21) el et l t q lm f0 g0 i).2.2 (nI v) (nrS (rCT M R) (R 2) (R 19) (R 21) el et l t q lm f0 g0 i).1) (nrS (rCT M R) (R 2) (R 19) (R 21) el et l t q lm f0 g0 i).1 (nI i), insF (nrS (rCT M R) (R 2) (R 19) (R 21) el et l t q lm f0 g0 i).2.2 (insP (nrS (rCT M R) (R 2) (R 19) (R 21) el et l t q lm f0 g0 i).2.2 (nI v) (nrS (rCT M R) (R 2) (R 19) (R 21) el et l t q lm f0 g0 i).1) (nrS (rCT M R) (R 2) (R 19) (R 21) el et l t q lm f0 g0 i).1 (nI v))
      | none => nrS (rCT M R) (R 2) (R 19) (R 21) el et l t q lm f0 g0 i) else nrS (rCT M R) (R 2) (R 19) (R 21) el et l t q lm f0 g0 i := rfl
    have hle := nrS_le (C := rCT M R) (hw := R 2) (er := R 19) (es := R 21) (el := el) (et := et) (l := l) (t := t) (q := q) (lim := lm) (f0 := f0) (g0 := g0) i
    have ih := ih (i + 1) (by omega)
    rw [hun] at ih
    clear hun
    generalize nrS (rCT M R) (R 2) (R 19) (R 21) el et l t q lm f0 g0 i = s at ih hX hle
    refine j_iload_n (n := 38) dX11_near_37 rfl rfl ?_
    refine j_aload_n (n := 39) dX11_near_38 rfl rfl ?_
    refine j_get (n := 42) 0 dX11_near_39 f_X11_190 rfl rfl rfl ?_
    rw [e27]
    refine j_icmp_ge (n := 45) 172 dX11_near_42 (by decide) rfl (fun c => ?_) (fun c => ?_)
    · exact absurd c (nI_ge (show i < M 27 by omega) (by omega))
    · refine j_aload_n (n := 46) dX11_near_45 rfl rfl ?_
      refine j_iload_n (n := 47) dX11_near_46 rfl rfl ?_
      refine j_iload_n (n := 48) dX11_near_47 rfl rfl ?_
      refine j_callVe (n := 51) (Y1 := Y_X11_isIn) 0 dX11_near_48 m_X11_193 cy_X11_isIn ci_X11_isIn (r_isIn (e := i) (q := q) (by omega)) rfl rfl rfl rfl rfl (by omega) (by omega) (by omega) (Nat.le_of_ble_eq_true rfl) ?_
      rw [e19, e21]
      refine j_if_ne (n := 54) 57 dX11_near_51 (by decide) rfl (fun c1 => ?_) (fun c1 => ?_)
      · have c1 := b01_n0 c1
        have d1 : ¬ R 21 i = 0 ∧ R 19 i = q := by simpa using c1
        rw [if_pos d1] at ih
        refine j_aload_n (n := 58) dX11_near_57 rfl rfl ?_
        refine j_sipush (n := 61) (200) dX11_near_58 rfl (by decide) ?_
        refine j_iload_n (n := 62) dX11_near_61 rfl rfl ?_
        refine j_callVi (n := 65) (Y1 := Y_X11_reckon) 0 dX11_near_62 m_X11_199 cy_X11_reckon ci_X11_reckon (r_reckon hI' (k1 := 200) (k2 := i) (by omega) (by omega) (hn.cg e11 e12) (hx.cg e11 e12)) rfl rfl rfl rfl rfl (by omega) (by omega) (by omega) (Nat.le_of_ble_eq_true rfl) (fun z w hh => ?_)
        obtain ⟨rfl, M2, R2, rfl, hS, -⟩ := hh
        have hX2 := hX.sc hS.2.2.2.2
        rw [eC, e2]
        obtain ⟨w1, w2⟩ := lmt_c hD hlm
        refine j_istore (n := 67) dX11_near_65 rfl (by decide) ?_
        refine j_iload (n := 69) dX11_near_67 rfl rfl ?_
        refine j_iload_n (n := 70) dX11_near_69 rfl rfl ?_
        refine j_icmp_le (n := 73) 76 dX11_near_70 (by decide) rfl (fun c3 => ?_) (fun c3 => ?_)
        · obtain ⟨v, v1, v2, v3⟩ := w1 c3
          rw [v3] at ih
          rw [v2]
          have m33 := hX2.2.1
          have hw : R2 = nR2 R2 (shF s.2.1 s.1 s.1) (shF s.2.2 s.1 s.1) := by
            rw [shF_n, shF_n]
            funext j
            by_cases j1 : j = 23
            · subst j1; exact hX2.2.2.2.2
            · by_cases j2 : j = 22
              · subst j2; exact hX2.2.2.2.1
              · rw [nR2_ne _ _ _ j2 j1]
          have hnext := ih (va_up M2 33 (s.1 + 1)) (nR2 R2 (insF s.2.1 (insP s.2.2 (nI v) s.1) s.1 (nI i)) (insF s.2.2 (insP s.2.2 (nI v) s.1) s.1 (nI v))) (by
            refine ⟨fun j a b c => ?_, rfl, fun j a b c d e => ?_, rfl, rfl⟩
            · rw [va_up_ne _ _ c]; exact hX2.1 j a b c
            · rw [nR2_ne _ _ _ d e]; exact hX2.2.2.1 j a b c d e)
          refine j_aload_n (n := 77) dX11_near_76 rfl rfl ?_
          refine j_get (n := 80) 0 dX11_near_77 f_X11_208 rfl rfl rfl ?_
          refine j_top (nI s.1) (by rw [m33]) ?_
          refine j_istore (n := 82) dX11_near_80 rfl (by decide) ?_
          refine j_ws (ws' := rW G A M2 Z (nR2 R2 (shF s.2.1 s.1 s.1) (shF s.2.2 s.1 s.1)) P) (by rw [← hw]) ?_
          refine nr_82 (by omega) m33 ?_ s.1 (Nat.le_refl _) rfl
          refine j_iinc (n := 169) (nI (i + 1)) dX11_near_166 rfl rfl (nI_inc i) (by decide) ?_
          refine j_goto 37 dX11_near_169 (by decide) ?_
          exact hnext
        · rw [w2 c3] at ih
          refine j_goto 166 dX11_near_73 (by decide) ?_
          refine j_iinc (n := 169) (nI (i + 1)) dX11_near_166 rfl rfl (nI_inc i) (by decide) ?_
          refine j_goto 37 dX11_near_169 (by decide) ?_
          refine j_keep [0, 1, 2, 3] rfl ?_
          exact ih M2 R2 hX2
      · have hf : ¬ (¬ R 21 i = 0 ∧ R 19 i = q) := by
          intro h
          have := b01_0 c1
          rw [decide_eq_true h.1, decide_eq_true h.2] at this
          cases this
        rw [if_neg hf] at ih
        refine j_goto 166 dX11_near_54 (by decide) ?_
        refine j_iinc (n := 169) (nI (i + 1)) dX11_near_166 rfl rfl (nI_inc i) (by decide) ?_
        refine j_goto 37 dX11_near_169 (by decide) ?_
        exact ih M' R' hX
theorem r_near {q lim : Int32} (hI : RNI M R) (hE : RET M R el et) (hN : RNM Z R ns) : JM G Y_X11_near 3 0 0 [.ref (A 0), .int q, .int lim] (rW G A M Z R P) (Qi (fun r u => r = (nrA (rCT M R) (R 2) (M 27) (R 19) (R 21) el et ns q lim (M 33, R 22, R 23)).1 ∧ ∃ (M' : Nat → Nat) (R' : Nat → Nat → Int32), u = rW G A M' Z R' P ∧ NRX M R (nrA (rCT M R) (R 2) (M 27) (R 19) (R 21) el et ns q lim (M 33, R 22, R 23)).2 M' R')) := by
  have hrf : NRX M R (M 33, R 22, R 23) M R := ⟨fun _ _ _ _ => rfl, rfl, fun _ _ _ _ _ _ => rfl, rfl, rfl⟩
  unfold nrA
  refine JM.of [(0, .ref (A 0)), (1, .int q), (2, .int lim)] rfl rfl (by simp) (Nat.le_of_ble_eq_true rfl) (by decide +kernel) ?_
  refine j_iload_n (n := 1) dX11_near_0 rfl rfl ?_
  refine j_callSe (n := 4) (Y1 := Y_X11_isRegister) dX11_near_1 m_X11_187 cy_X11_isRegister cs_X11_isRegister (r_isRegister) rfl rfl rfl (by omega) (by omega) (by omega) (Nat.le_of_ble_eq_true rfl) ?_
  rw [btw_03]
  refine j_if_eq (n := 7) 18 dX11_near_4 (by decide) rfl (fun c => ?_) (fun c => ?_)
  · have c := Decidable.not_not.mp (of_decide_eq_false (b01_0 c))
    rw [if_pos (Or.inl c)]
    refine j_bipush (n := 20) (-2) dX11_near_18 rfl (by decide) ?_
    exact j_iret dX11_near_20 rfl rfl (by omega) (by omega) (⟨rfl, M, R, rfl, hrf⟩)
  · have c := of_decide_eq_true (b01_n0 c)
    refine j_iload_n (n := 8) dX11_near_7 rfl rfl ?_
    refine j_iconst (n := 9) (0) dX11_near_8 rfl (by decide) ?_
    refine j_sipush (n := 12) (200) dX11_near_9 rfl (by decide) ?_
    refine j_callSe (n := 15) (Y1 := Y_X11_in) dX11_near_12 m_X11_106 cy_X11_in cs_X11_in (r_in) rfl rfl rfl (by omega) (by omega) (by omega) (Nat.le_of_ble_eq_true rfl) ?_
    rw [btw_rng]
    refine j_if_ne (n := 18) 21 dX11_near_15 (by decide) rfl (fun c1 => ?_) (fun c1 => ?_)
    · have c1 := of_decide_eq_true (b01_n0 c1)
      rw [if_neg (fun h => h.elim c c1)]
      have h0 : ¬ lim < 0 := fun h => c1 (Or.inl h)
      obtain ⟨lm, hl, rfl⟩ := nI_of h0
      have hlm : lm ≤ 200 := Decidable.byContradiction (fun h => c1 (Or.inr (show nI 200 < nI lm from nI_lt (by omega) hl)))
      rw [nI_clamp hl]
      rcases hN with ⟨z, rfl⟩ | ⟨z, l, t, rfl, hn⟩
      · refine j_aload_n (n := 22) dX11_near_21 rfl rfl ?_
        refine j_get (n := 25) 0 dX11_near_22 f_X11_158 rfl rfl rfl ?_
        refine j_if_ne (n := 28) 30 dX11_near_25 (by decide) rfl (fun c2 => ?_) (fun c2 => ?_)
        · exact absurd z c2
        · refine j_iconst (n := 29) (-1) dX11_near_28 rfl (by decide) ?_
          exact j_iret dX11_near_29 rfl rfl (by omega) (by omega) (⟨rfl, M, R, rfl, hrf⟩)
      · refine j_aload_n (n := 22) dX11_near_21 rfl rfl ?_
        refine j_get (n := 25) 0 dX11_near_22 f_X11_158 rfl rfl rfl ?_
        refine j_if_ne (n := 28) 30 dX11_near_25 (by decide) rfl (fun c2 => ?_) (fun c2 => ?_)
        · dsimp only
          refine j_aload_n (n := 31) dX11_near_30 rfl rfl ?_
          refine j_iconst (n := 32) (0) dX11_near_31 rfl (by decide) ?_
          refine j_put (n := 35) 0 dX11_near_32 f_X11_208 rfl rfl rfl (Nat.le_of_ble_eq_true rfl) rfl rfl ?_
          refine j_ws (ws' := rW G A (va_up M 33 0) Z R P) rfl ?_
          refine j_iconst (n := 36) (0) dX11_near_35 rfl (by decide) ?_
          refine j_istore_n (n := 37) dX11_near_36 rfl (by decide) ?_
          refine near_lp hI hE hn hlm (fun M' R' hX => ?_) (M 27) 0 (by omega) (va_up M 33 0) R ⟨fun j a b c => va_up_ne _ _ c, rfl, fun _ _ _ _ _ _ => rfl, rfl, rfl⟩
          refine j_aload_n (n := 173) dX11_near_172 rfl rfl ?_
          refine j_get (n := 176) 0 dX11_near_173 f_X11_208 rfl rfl rfl ?_
          exact j_iret dX11_near_176 rfl rfl (by omega) (by omega) (⟨by rw [hX.2.1], M', R', rfl, hX⟩)
        · exact absurd (z.symm.trans c2) (by decide)
    · have c1 := Decidable.not_not.mp (of_decide_eq_false (b01_0 c1))
      rw [if_pos (Or.inr c1)]
      refine j_bipush (n := 20) (-2) dX11_near_18 rfl (by decide) ?_
      exact j_iret dX11_near_20 rfl rfl (by omega) (by omega) (⟨rfl, M, R, rfl, hrf⟩)
end RI

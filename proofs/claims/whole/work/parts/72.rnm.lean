/-! the reference: readName, name -/
def scS (hw tp : Nat → Int32) : Nat → Nat
  | 0 => 0
  | i + 1 => scS hw tp i + if howF hw (tp i) = 0 then 1 else 0
theorem scS_le (hw tp : Nat → Int32) : ∀ i : Nat, scS hw tp i ≤ i := by
  intro i
  induction i with
  | zero => exact Nat.le_refl _
  | succ i ih => unfold scS; split <;> omega
theorem jd_s {hw tp : Nat → Int32} {n i : Nat} (h1 : sgB (tp i) = true) (h2 : i < 40) : jdL hw tp (n + 1) i (scS hw tp i) = jdL hw tp n (i + 1) (scS hw tp (i + 1)) := by
  show (if sgB (tp i) = false then _ else if 40 ≤ i then _ else jdL hw tp n (i + 1) (if howF hw (tp i) = 0 then scS hw tp i + 1 else scS hw tp i)) = _
  rw [if_neg (by rw [h1]; exact Bool.noConfusion), if_neg (by omega)]
  congr 1
  show (if howF hw (tp i) = 0 then scS hw tp i + 1 else scS hw tp i) = scS hw tp i + (if howF hw (tp i) = 0 then 1 else 0)
  split <;> rfl
theorem sg_256 : ∀ j : Fin 256, sgB ((nI j.val).toInt8.toInt32) = sgB (nI j.val) := by decide +kernel
theorem sm_128 : ∀ j : Fin 127, (nI j.val).toInt8.toInt32 = nI j.val := by decide +kernel
theorem tp_sg {f g : Nat → Int32} {n j : Nat} (h : TPR f g n) (hj : j < n) : sgB (g j) = sgB (f j) := by
  obtain ⟨m, hm, e1, e2⟩ := h j hj
  rw [e1, e2]
  exact sg_256 ⟨m, hm⟩
theorem tp_eq {f g : Nat → Int32} {n j : Nat} (h : TPR f g n) (hj : j < n) (hs : sgB (f j) = true) : ∃ m : Nat, 33 ≤ m ∧ m ≤ 126 ∧ f j = nI m ∧ g j = nI m := by
  obtain ⟨m, hm, e1, e2⟩ := h j hj
  rw [e1] at hs
  have h3 := sg_toInt hs
  rw [nI_toInt (by omega)] at h3
  refine ⟨m, by omega, by omega, e1, ?_⟩
  rw [e2]
  exact sm_128 ⟨m, by omega⟩
section RP1
variable {G : GT} {A M : Nat → Nat} {Z : Nat → Int32} {R : Nat → Nat → Int32} {P ws : va_W} {tp : Nat → Int32}
/-- the fault is told -/
abbrev RDP (G : GT) (A M : Nat → Nat) (Z : Nat → Int32) (R : Nat → Nat → Int32) (P : va_W) (J : Int32 × Int32) : OT := Qi (fun r u => r = b01 (decide (J.1 = 0)) ∧ ∃ Z' : Nat → Int32, u = rW G A M Z' R P ∧ Z' 17 = J.1 ∧ Z' 18 = J.2 ∧ ∀ i, i ≠ 17 → i ≠ 18 → Z' i = Z i)
theorem rd_end {n : Nat} (hz : Z 17 = 0) (hz2 : Z 18 = -1) (hn : n ≤ 40) : JJ G Y_X11_readName 2 0 0 (RDP G A M Z R P (jdL (R 2) tp 0 n (scS (R 2) tp n))) 82 [(0, .ref (A 0)), (1, .int (nI n)), (2, .int (nI (scS (R 2) tp n)))] [] (rW G A M Z R P) 0 0 := by
  have hle := scS_le (R 2) tp n
  have hw : ∀ (a b : Int32), (va_up (va_up Z 17 a) 18 b) 17 = a ∧ (va_up (va_up Z 17 a) 18 b) 18 = b ∧ ∀ i, i ≠ 17 → i ≠ 18 → (va_up (va_up Z 17 a) 18 b) i = Z i := fun a b => ⟨rfl, rfl, fun i h1 h2 => by rw [va_up_ne _ _ h2, va_up_ne _ _ h1]⟩
  generalize scS (R 2) tp n = k at hle ⊢
  have hj : jdL (R 2) tp 0 n k = if k = 0 then (3, nI n) else if 24 < k then (4, nI n) else (0, -1) := rfl
  rw [hj]
  refine j_iload_n (n := 83) dX11_readName_82 rfl rfl ?_
  refine j_if_ne (n := 86) 93 dX11_readName_83 (by decide) rfl (fun c => ?_) (fun c => ?_)
  · have h0 : ¬ k = 0 := fun q => c (by rw [q]; rfl)
    rw [if_neg h0]
    refine j_iload_n (n := 94) dX11_readName_93 rfl rfl ?_
    refine j_bipush (n := 96) (24) dX11_readName_94 rfl (by decide) ?_
    refine j_icmp_le (n := 99) 108 dX11_readName_96 (by decide) rfl (fun c1 => ?_) (fun c1 => ?_)
    · have h1 : ¬ 24 < k := fun q => nI_ge (a := 24) (b := k) q (by omega) c1
      rw [if_neg h1]
      refine j_iconst (n := 109) (1) dX11_readName_108 rfl (by decide) ?_
      refine j_goto 113 dX11_readName_109 (by decide) ?_
      exact j_iret dX11_readName_113 rfl rfl (by omega) (by omega) (⟨rfl, Z, rfl, hz, hz2, fun _ _ _ => rfl⟩)
    · have h1 : 24 < k := Decidable.byContradiction (fun q => c1 (show nI k ≤ nI 24 from nI_le (by omega) (by omega)))
      rw [if_pos h1]
      refine j_aload_n (n := 100) dX11_readName_99 rfl rfl ?_
      refine j_iconst (n := 101) (4) dX11_readName_100 rfl (by decide) ?_
      refine j_iload_n (n := 102) dX11_readName_101 rfl rfl ?_
      refine j_callVe (n := 105) (Y1 := Y_X11_wrong) 0 dX11_readName_102 m_X11_151 cy_X11_wrong ci_X11_wrong (r_wrong) rfl rfl rfl rfl rfl (by omega) (by omega) (by omega) (Nat.le_of_ble_eq_true rfl) ?_
      refine j_if_eq (n := 108) 112 dX11_readName_105 (by decide) rfl (fun c2 => ?_) (fun c2 => ?_)
      · refine j_iconst (n := 113) (0) dX11_readName_112 rfl (by decide) ?_
        exact j_iret dX11_readName_113 rfl rfl (by omega) (by omega) (⟨rfl, va_up (va_up Z 17 4) 18 (nI n), rfl, hw 4 (nI n)⟩)
      · exact absurd rfl c2
  · have h0 : k = 0 := (nI_eq (by omega) (by omega)).mp (show nI k = nI 0 from c)
    rw [if_pos h0]
    refine j_aload_n (n := 87) dX11_readName_86 rfl rfl ?_
    refine j_iconst (n := 88) (3) dX11_readName_87 rfl (by decide) ?_
    refine j_iload_n (n := 89) dX11_readName_88 rfl rfl ?_
    refine j_callVe (n := 92) (Y1 := Y_X11_wrong) 0 dX11_readName_89 m_X11_151 cy_X11_wrong ci_X11_wrong (r_wrong) rfl rfl rfl rfl rfl (by omega) (by omega) (by omega) (Nat.le_of_ble_eq_true rfl) ?_
    exact j_iret dX11_readName_92 rfl rfl (by omega) (by omega) (⟨rfl, va_up (va_up Z 17 3) 18 (nI n), rfl, hw 3 (nI n)⟩)
theorem rd_49 {n : Nat} (hz : Z 17 = 0) (hz2 : Z 18 = -1) (hn : n ≤ 40) (hT : TPR tp (R 3) n) (hs : ∀ j, j < n → sgB (tp j) = true) : ∀ (k i : Nat), i + k = n → JJ G Y_X11_readName 2 0 0 (RDP G A M Z R P (jdL (R 2) tp 0 n (scS (R 2) tp n))) 49 [(0, .ref (A 0)), (1, .int (nI n)), (2, .int (nI (scS (R 2) tp i))), (3, .int (nI i))] [] (rW G A M Z R P) 0 0 := by
  intro k
  induction k with
  | zero =>
    intro i hi
    obtain rfl : i = n := by omega
    refine j_iload_n (n := 50) dX11_readName_49 rfl rfl ?_
    refine j_iload_n (n := 51) dX11_readName_50 rfl rfl ?_
    refine j_icmp_ge (n := 54) 82 dX11_readName_51 (by decide) rfl (fun c => ?_) (fun c => ?_)
    · refine j_keep [0, 1, 2] rfl ?_
      exact rd_end hz hz2 hn
    · exact absurd (nI_le (Nat.le_refl _) (by omega)) c
  | succ k ih =>
    intro i hi
    have ih := ih (i + 1) (by omega)
    obtain ⟨m, m1, m2, e1, e2⟩ := tp_eq hT (show i < n by omega) (hs i (by omega))
    have hun : scS (R 2) tp (i + 1) = scS (R 2) tp i + if R 2 m = 0 then 1 else 0 := by
      show scS (R 2) tp i + (if howF (R 2) (tp i) = 0 then 1 else 0) = _
      rw [e1, how_in m1 m2]
    rw [hun] at ih
    refine j_iload_n (n := 50) dX11_readName_49 rfl rfl ?_
    refine j_iload_n (n := 51) dX11_readName_50 rfl rfl ?_
    refine j_icmp_ge (n := 54) 82 dX11_readName_51 (by decide) rfl (fun c => ?_) (fun c => ?_)
    · exact absurd c (nI_ge (show i < n by omega) (by omega))
    · refine j_iload_n (n := 55) dX11_readName_54 rfl rfl ?_
      refine j_aload_n (n := 56) dX11_readName_55 rfl rfl ?_
      refine j_get (n := 59) 0 dX11_readName_56 f_X11_13 rfl rfl rfl ?_
      refine j_aload_n (n := 60) dX11_readName_59 rfl rfl ?_
      refine j_get (n := 63) 0 dX11_readName_60 f_X11_16 rfl rfl rfl ?_
      refine j_iload_n (n := 64) dX11_readName_63 rfl rfl ?_
      refine j_bald (n := 65) 3 i dX11_readName_64 rfl rfl rfl (by omega) (by omega) ?_
      refine j_top (nI m) e2 ?_
      refine j_iald (n := 66) 2 m dX11_readName_65 rfl rfl rfl (by omega) (by omega) ?_
      refine j_if_ne (n := 69) 73 dX11_readName_66 (by decide) rfl (fun c1 => ?_) (fun c1 => ?_)
      · rw [if_neg c1] at ih
        refine j_iconst (n := 74) (0) dX11_readName_73 rfl (by decide) ?_
        refine j_iadd (n := 75) dX11_readName_74 rfl ?_
        refine j_top (nI (scS (R 2) tp i + 0)) (Int32.add_zero _) ?_
        refine j_istore_n (n := 76) dX11_readName_75 rfl (by decide) ?_
        refine j_iinc (n := 79) (nI (i + 1)) dX11_readName_76 rfl rfl (nI_inc i) (by decide) ?_
        refine j_goto 49 dX11_readName_79 (by decide) ?_
        exact ih
      · rw [if_pos c1] at ih
        refine j_iconst (n := 70) (1) dX11_readName_69 rfl (by decide) ?_
        refine j_goto 74 dX11_readName_70 (by decide) ?_
        refine j_iadd (n := 75) dX11_readName_74 rfl ?_
        refine j_top (nI (scS (R 2) tp i + 1)) (nI_inc _) ?_
        refine j_istore_n (n := 76) dX11_readName_75 rfl (by decide) ?_
        refine j_iinc (n := 79) (nI (i + 1)) dX11_readName_76 rfl rfl (nI_inc i) (by decide) ?_
        refine j_goto 49 dX11_readName_79 (by decide) ?_
        exact ih
theorem rd_2 {n : Nat} (hz : Z 17 = 0) (hz2 : Z 18 = -1) (hn : n ≤ 200) (hT : TPR tp (R 3) n) : ∀ (k i : Nat), i + k = n → i ≤ 40 → (∀ j, j < i → sgB (tp j) = true) → JJ G Y_X11_readName 2 0 0 (RDP G A M Z R P (jdL (R 2) tp k i (scS (R 2) tp i))) 2 [(0, .ref (A 0)), (1, .int (nI n)), (2, .int (nI i))] [] (rW G A M Z R P) 0 0 := by
  have hw : ∀ (a b : Int32), (va_up (va_up Z 17 a) 18 b) 17 = a ∧ (va_up (va_up Z 17 a) 18 b) 18 = b ∧ ∀ i, i ≠ 17 → i ≠ 18 → (va_up (va_up Z 17 a) 18 b) i = Z i := fun a b => ⟨rfl, rfl, fun i h1 h2 => by rw [va_up_ne _ _ h2, va_up_ne _ _ h1]⟩
  intro k
  induction k with
  | zero =>
    intro i hi h40 hs
    obtain rfl : i = n := by omega
    refine j_iload_n (n := 3) dX11_readName_2 rfl rfl ?_
    refine j_iload_n (n := 4) dX11_readName_3 rfl rfl ?_
    refine j_icmp_ge (n := 7) 45 dX11_readName_4 (by decide) rfl (fun c => ?_) (fun c => ?_)
    · refine j_iconst (n := 46) (0) dX11_readName_45 rfl (by decide) ?_
      refine j_istore_n (n := 47) dX11_readName_46 rfl (by decide) ?_
      refine j_iconst (n := 48) (0) dX11_readName_47 rfl (by decide) ?_
      refine j_istore_n (n := 49) dX11_readName_48 rfl (by decide) ?_
      exact rd_49 hz hz2 h40 hT hs i 0 (by omega)
    · exact absurd (nI_le (Nat.le_refl _) (by omega)) c
  | succ k ih =>
    intro i hi h40 hs
    have hsg := tp_sg hT (show i < n by omega)
    have hj : jdL (R 2) tp (k + 1) i (scS (R 2) tp i) = if sgB (tp i) = false then (1, nI i) else if 40 ≤ i then (2, nI i) else jdL (R 2) tp k (i + 1) (if howF (R 2) (tp i) = 0 then scS (R 2) tp i + 1 else scS (R 2) tp i) := rfl
    refine j_iload_n (n := 3) dX11_readName_2 rfl rfl ?_
    refine j_iload_n (n := 4) dX11_readName_3 rfl rfl ?_
    refine j_icmp_ge (n := 7) 45 dX11_readName_4 (by decide) rfl (fun c => ?_) (fun c => ?_)
    · exact absurd c (nI_ge (show i < n by omega) (by omega))
    · refine j_aload_n (n := 8) dX11_readName_7 rfl rfl ?_
      refine j_get (n := 11) 0 dX11_readName_8 f_X11_16 rfl rfl rfl ?_
      refine j_iload_n (n := 12) dX11_readName_11 rfl rfl ?_
      refine j_bald (n := 13) 3 i dX11_readName_12 rfl rfl rfl (by omega) (by omega) ?_
      refine j_callSe (n := 16) (Y1 := Y_X11_isSign) dX11_readName_13 m_X11_113 cy_X11_isSign cs_X11_isSign (r_isSign) rfl rfl rfl (by omega) (by omega) (by omega) (Nat.le_of_ble_eq_true rfl) ?_
      rw [hsg]
      refine j_if_ne (n := 19) 26 dX11_readName_16 (by decide) rfl (fun c1 => ?_) (fun c1 => ?_)
      · have c1 := b01_n0 c1
        refine j_iload_n (n := 27) dX11_readName_26 rfl rfl ?_
        refine j_bipush (n := 29) (40) dX11_readName_27 rfl (by decide) ?_
        refine j_icmp_ne (n := 32) 39 dX11_readName_29 (by decide) rfl (fun c2 => ?_) (fun c2 => ?_)
        · have h1 : i < 40 := by
            rcases Nat.lt_or_ge i 40 with h | h
            · exact h
            · exact absurd (show nI i = nI 40 by rw [show i = 40 by omega]) c2
          rw [jd_s c1 h1]
          refine j_iinc (n := 42) (nI (i + 1)) dX11_readName_39 rfl rfl (nI_inc i) (by decide) ?_
          refine j_goto 2 dX11_readName_42 (by decide) ?_
          refine ih (i + 1) (by omega) (by omega) (fun j hj => ?_)
          by_cases e : j = i
          · subst e; exact c1
          · exact hs j (by omega)
        · have h1 : i = 40 := (nI_eq (by omega) (by omega)).mp (show nI i = nI 40 from c2)
          rw [hj, if_neg (by rw [c1]; exact Bool.noConfusion), if_pos (by omega)]
          refine j_aload_n (n := 33) dX11_readName_32 rfl rfl ?_
          refine j_iconst (n := 34) (2) dX11_readName_33 rfl (by decide) ?_
          refine j_iload_n (n := 35) dX11_readName_34 rfl rfl ?_
          refine j_callVe (n := 38) (Y1 := Y_X11_wrong) 0 dX11_readName_35 m_X11_151 cy_X11_wrong ci_X11_wrong (r_wrong) rfl rfl rfl rfl rfl (by omega) (by omega) (by omega) (Nat.le_of_ble_eq_true rfl) ?_
          exact j_iret dX11_readName_38 rfl rfl (by omega) (by omega) (⟨rfl, va_up (va_up Z 17 2) 18 (nI i), rfl, hw 2 (nI i)⟩)
      · rw [hj, if_pos (b01_0 c1)]
        refine j_aload_n (n := 20) dX11_readName_19 rfl rfl ?_
        refine j_iconst (n := 21) (1) dX11_readName_20 rfl (by decide) ?_
        refine j_iload_n (n := 22) dX11_readName_21 rfl rfl ?_
        refine j_callVe (n := 25) (Y1 := Y_X11_wrong) 0 dX11_readName_22 m_X11_151 cy_X11_wrong ci_X11_wrong (r_wrong) rfl rfl rfl rfl rfl (by omega) (by omega) (by omega) (Nat.le_of_ble_eq_true rfl) ?_
        exact j_iret dX11_readName_25 rfl rfl (by omega) (by omega) (⟨rfl, va_up (va_up Z 17 1) 18 (nI i), rfl, hw 1 (nI i)⟩)
theorem r_readName {n : Nat} (hz : Z 17 = 0) (hz2 : Z 18 = -1) (hn : n ≤ 200) (hT : TPR tp (R 3) n) : JM G Y_X11_readName 2 0 0 [.ref (A 0), .int (nI n)] (rW G A M Z R P) (RDP G A M Z R P (jdL (R 2) tp n 0 0)) := by
  refine JM.of [(0, .ref (A 0)), (1, .int (nI n))] rfl rfl (by simp) (Nat.le_of_ble_eq_true rfl) (by decide +kernel) ?_
  refine j_iconst (n := 1) (0) dX11_readName_0 rfl (by decide) ?_
  refine j_istore_n (n := 2) dX11_readName_1 rfl (by decide) ?_
  exact rd_2 hz hz2 hn hT n 0 (by omega) (by omega) (fun j hj => by omega)
/-- the tape comes to the name's place -/
def cpN (X g : Nat → Int32) (k : Nat) : Nat → Int32 := fun j => if 8000 ≤ j ∧ j < 8000 + k then vp_nar .byte (g (j - 8000)) else X j
theorem cpN_0 (X g : Nat → Int32) : cpN X g 0 = X := by
  funext j; unfold cpN; rw [if_neg (by omega)]
theorem cpN_s (X g : Nat → Int32) (k : Nat) : upd (cpN X g k) (8000 + k) (vp_nar .byte (g k)) = cpN X g (k + 1) := by
  funext j
  by_cases e : j = 8000 + k
  · subst e
    rw [pk_us]
    unfold cpN
    rw [if_pos (by omega), show 8000 + k - 8000 = k by omega]
  · rw [pk_un e]
    unfold cpN
    by_cases h : 8000 ≤ j ∧ j < 8000 + k
    · rw [if_pos h, if_pos (by omega)]
    · rw [if_neg h, if_neg (by omega)]
theorem nm_32 {post : OT} {X : Nat → Int32} {n : Nat} (hn : n ≤ 40)
    (hk : JJ G Y_X11_name 3 0 0 post 59 [(0, .ref (A 0)), (1, .int (nI n))] [] (rW G A M Z (va_up R 11 (cpN X (R 3) n)) P) 0 0) :
    ∀ (k i : Nat), i + k = n → JJ G Y_X11_name 3 0 0 post 32 [(0, .ref (A 0)), (1, .int (nI n)), (2, .int (nI i))] [] (rW G A M Z (va_up R 11 (cpN X (R 3) i)) P) 0 0 := by
  intro k
  induction k with
  | zero =>
    intro i hi
    obtain rfl : i = n := by omega
    refine j_iload_n (n := 33) dX11_name_32 rfl rfl ?_
    refine j_iload_n (n := 34) dX11_name_33 rfl rfl ?_
    refine j_icmp_ge (n := 37) 59 dX11_name_34 (by decide) rfl (fun c => ?_) (fun c => ?_)
    · refine j_keep [0, 1] rfl ?_
      exact hk
    · exact absurd (nI_le (Nat.le_refl _) (by omega)) c
  | succ k ih =>
    intro i hi
    have ih := ih (i + 1) (by omega)
    rw [← cpN_s] at ih
    refine j_iload_n (n := 33) dX11_name_32 rfl rfl ?_
    refine j_iload_n (n := 34) dX11_name_33 rfl rfl ?_
    refine j_icmp_ge (n := 37) 59 dX11_name_34 (by decide) rfl (fun c => ?_) (fun c => ?_)
    · exact absurd c (nI_ge (show i < n by omega) (by omega))
    · refine j_aload_n (n := 38) dX11_name_37 rfl rfl ?_
      refine j_get (n := 41) 0 dX11_name_38 f_X11_41 rfl rfl rfl ?_
      refine j_sipush (n := 44) (8000) dX11_name_41 rfl (by decide) ?_
      refine j_iload_n (n := 45) dX11_name_44 rfl rfl ?_
      refine j_iadd (n := 46) dX11_name_45 rfl ?_
      refine j_aload_n (n := 47) dX11_name_46 rfl rfl ?_
      refine j_get (n := 50) 0 dX11_name_47 f_X11_16 rfl rfl rfl ?_
      refine j_iload_n (n := 51) dX11_name_50 rfl rfl ?_
      refine j_bald (n := 52) 3 i dX11_name_51 rfl rfl rfl (by omega) (by omega) ?_
      refine j_bast (n := 53) 11 (8000 + i) dX11_name_52 rfl rfl (r8k i) (by omega) (by omega) ?_
      refine j_ws (ws' := rW G A M Z (va_up R 11 (upd (cpN X (R 3) i) (8000 + i) (vp_nar .byte (R 3 i)))) P) rfl ?_
      refine j_iinc (n := 56) (nI (i + 1)) dX11_name_53 rfl rfl (nI_inc i) (by decide) ?_
      refine j_goto 32 dX11_name_56 (by decide) ?_
      exact ih
/-- a new name -/
def RNN (M : Nat → Nat) (Z : Nat → Int32) (R : Nat → Nat → Int32) (J : Int32 × Int32) (n : Nat) (t : Nat → Int32) (M' : Nat → Nat) (Z' : Nat → Int32) (R' : Nat → Nat → Int32) : Prop := M' 3 = 0 ∧ (∀ i, i ≠ 3 → M' i = M i) ∧ Z' 17 = J.1 ∧ Z' 18 = J.2 ∧ Z' 16 = 1 ∧ RTX R' 200 n t ∧ (∀ i, i ≠ 11 → i ≠ 12 → i ≠ 13 → R' i = R i) ∧ (∀ j, j ≠ 200 → R' 12 j = R 12 j) ∧ ∀ j, j < 8000 → R' 11 j = R 11 j
theorem r_name (h3 : M 3 ≤ 200) (hT : TPR tp (R 3) (M 3)) : JM G Y_X11_name 3 0 0 [.ref (A 0)] (rW G A M Z R P) (Qi (fun r u => (¬ (jdL (R 2) tp (M 3) 0 0).1 = 0 ∧ r = -1 ∧ ∃ (M' : Nat → Nat) (Z' : Nat → Int32), u = rW G A M' Z' R P ∧ M' 3 = 0 ∧ (∀ i, i ≠ 3 → M' i = M i) ∧ Z' 17 = (jdL (R 2) tp (M 3) 0 0).1 ∧ Z' 18 = (jdL (R 2) tp (M 3) 0 0).2 ∧ Z' 16 = Z 16) ∨ ((jdL (R 2) tp (M 3) 0 0).1 = 0 ∧ r = nI (seeN (R 2) (tdF tp (M 3)) (M 3)) ∧ ∃ (M' : Nat → Nat) (Z' : Nat → Int32) (R' : Nat → Nat → Int32), u = rW G A M' Z' R' P ∧ RNN M Z R (jdL (R 2) tp (M 3) 0 0) (M 3) (tdF tp (M 3)) M' Z' R'))) := by
  refine JM.of [(0, .ref (A 0))] rfl rfl (by simp) (Nat.le_of_ble_eq_true rfl) (by decide +kernel) ?_
  refine j_aload_n (n := 1) dX11_name_0 rfl rfl ?_
  refine j_get (n := 4) 0 dX11_name_1 f_X11_110 rfl rfl rfl ?_
  refine j_istore_n (n := 5) dX11_name_4 rfl (by decide) ?_
  refine j_aload_n (n := 6) dX11_name_5 rfl rfl ?_
  refine j_iconst (n := 7) (0) dX11_name_6 rfl (by decide) ?_
  refine j_put (n := 10) 0 dX11_name_7 f_X11_110 rfl rfl rfl (Nat.le_of_ble_eq_true rfl) rfl rfl ?_
  refine j_ws (ws' := rW G A (va_up M 3 0) Z R P) rfl ?_
  refine j_nmM (fun M1 p1 m1 => ?_)
  refine j_aload_n (n := 11) dX11_name_10 rfl rfl ?_
  refine j_iconst (n := 12) (0) dX11_name_11 rfl (by decide) ?_
  refine j_put (n := 15) 0 dX11_name_12 f_X11_148 rfl rfl rfl (Nat.le_of_ble_eq_true rfl) rfl rfl ?_
  refine j_ws (ws' := rW G A M1 (va_up Z 17 0) R P) rfl ?_
  refine j_nmZ (fun Z1 z1 w1 => ?_)
  refine j_aload_n (n := 16) dX11_name_15 rfl rfl ?_
  refine j_iconst (n := 17) (-1) dX11_name_16 rfl (by decide) ?_
  refine j_put (n := 20) 0 dX11_name_17 f_X11_47 rfl rfl rfl (Nat.le_of_ble_eq_true rfl) rfl rfl ?_
  refine j_ws (ws' := rW G A M1 (va_up Z1 18 (-1)) R P) rfl ?_
  refine j_nmZ (fun Z2 z2 w2 => ?_)
  refine j_aload_n (n := 21) dX11_name_20 rfl rfl ?_
  refine j_iload_n (n := 22) dX11_name_21 rfl rfl ?_
  refine j_callVi (n := 25) (Y1 := Y_X11_readName) 0 dX11_name_22 m_X11_155 cy_X11_readName ci_X11_readName (r_readName (n := M 3) (tp := tp) (by rw [z2 17 (by omega), w1]) w2 h3 hT) rfl rfl rfl rfl rfl (by omega) (by omega) (by omega) (Nat.le_of_ble_eq_true rfl) (fun z w hh => ?_)
  obtain ⟨rfl, Z3, rfl, q1, q2, q3⟩ := hh
  have q16 : Z3 16 = Z 16 := by rw [q3 16 (by omega) (by omega), z2 16 (by omega), z1 16 (by omega)]
  have hok := jd_ok (hw := R 2) (tp := tp) (M 3) 0 0 (Nat.le_refl _) (by omega)
  generalize jdL (R 2) tp (M 3) 0 0 = J at *
  refine j_if_ne (n := 28) 30 dX11_name_25 (by decide) rfl (fun c => ?_) (fun c => ?_)
  · have hJ := of_decide_eq_true (b01_n0 c)
    obtain ⟨g1, g2, g3⟩ := hok hJ
    rw [Nat.zero_add] at g2 g3
    have hsg : ∀ j, j < M 3 → sgB (tp j) = true := fun j hj => g1 j (Nat.zero_le _) (by omega)
    refine j_iconst (n := 31) (0) dX11_name_30 rfl (by decide) ?_
    refine j_istore_n (n := 32) dX11_name_31 rfl (by decide) ?_
    refine j_inR (c := 11) (f := cpN (R 11) (R 3) 0) (cpN_0 _ _).symm ?_
    refine nm_32 (by omega) ?_ (M 3) 0 (by omega)
    refine j_nmR (fun R2 a1 a2 => ?_)
    refine j_aload_n (n := 60) dX11_name_59 rfl rfl ?_
    refine j_get (n := 63) 0 dX11_name_60 f_X11_44 rfl rfl rfl ?_
    refine j_sipush (n := 66) (200) dX11_name_63 rfl (by decide) ?_
    refine j_iload_n (n := 67) dX11_name_66 rfl rfl ?_
    refine j_iast (n := 68) 12 200 dX11_name_67 rfl rfl rfl (by omega) (by omega) ?_
    refine j_ws (ws' := rW G A M1 Z3 (va_up R2 12 (upd (R2 12) 200 (nI (M 3)))) P) rfl ?_
    refine j_nmR (fun R3 b1 b2 => ?_)
    refine j_aload_n (n := 69) dX11_name_68 rfl rfl ?_
    refine j_iconst (n := 70) (1) dX11_name_69 rfl (by decide) ?_
    refine j_put (n := 73) 0 dX11_name_70 f_X11_158 rfl rfl rfl (Nat.le_of_ble_eq_true rfl) rfl rfl ?_
    refine j_ws (ws' := rW G A M1 (va_up Z3 16 1) R3 P) rfl ?_
    refine j_nmZ (fun Z4 d1 d2 => ?_)
    have hx : RTX R3 200 (M 3) (tdF tp (M 3)) := by
      have hsT : SGT (tdF tp (M 3)) (M 3) := by
        intro k hk
        obtain ⟨m, m1, m2, e1, -⟩ := tp_eq hT hk (hsg k hk)
        exact ⟨m, by unfold tdF; rw [if_pos hk]; exact e1, m1, m2⟩
      refine ⟨by rw [b2, pk_us], g3, g2, fun i hi => ?_, hsT⟩
      obtain ⟨m, m1, m2, e1, e2⟩ := tp_eq hT hi (hsg i hi)
      unfold tx tdF
      rw [b1 11 (by omega), a2, if_pos hi, e1]
      unfold cpN
      rw [if_pos (by omega), show 40 * 200 + i - 8000 = i by omega, e2, vp_nar_byte]
      exact sm_128 ⟨m, by omega⟩
    have e2 : R3 2 = R 2 := by rw [b1 2 (by omega), a1 2 (by omega)]
    refine j_aload_n (n := 74) dX11_name_73 rfl rfl ?_
    refine j_sipush (n := 77) (200) dX11_name_74 rfl (by decide) ?_
    refine j_aload_n (n := 78) dX11_name_77 rfl rfl ?_
    refine j_get (n := 81) 0 dX11_name_78 f_X11_51 rfl rfl rfl ?_
    refine j_callVi (n := 84) (Y1 := Y_X11_see) 0 dX11_name_81 m_X11_162 cy_X11_see ci_X11_see (r_seeX (k := 200) (by omega) hx) rfl rfl rfl rfl rfl (by omega) (by omega) (by omega) (Nat.le_of_ble_eq_true rfl) (fun z w hh => ?_)
    obtain ⟨rfl, f, rfl, -⟩ := hh
    rw [e2]
    refine j_nmR (fun R4 k1 k2 => ?_)
    refine j_iret dX11_name_84 rfl rfl (by omega) (by omega) (Or.inr ⟨hJ, rfl, M1, Z4, R4, rfl, m1, p1, by rw [d1 17 (by omega)]; exact q1, by rw [d1 18 (by omega)]; exact q2, d2, hx.cg (k1 11 (by omega)) (k1 12 (by omega)), fun i h1 h2 h3 => by rw [k1 i h3, b1 i h2, a1 i h1], fun j hj => ?_, fun j hj => ?_⟩)
    · rw [k1 12 (by omega), b2, pk_un hj, a1 12 (by omega)]
    · rw [k1 11 (by omega), b1 11 (by omega), a2]
      unfold cpN
      rw [if_neg (by omega)]
  · have hJ := of_decide_eq_false (b01_0 c)
    refine j_iconst (n := 29) (-1) dX11_name_28 rfl (by decide) ?_
    exact j_iret dX11_name_29 rfl rfl (by omega) (by omega) (Or.inl ⟨hJ, rfl, M1, Z3, rfl, m1, p1, q1, q2, q16⟩)
end RP1

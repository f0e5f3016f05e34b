/-! the reference: enter -/
section RJ
variable {G : GT} {Y : YT} {d mc ms kc ks : Nat} {post : OT} {pc : Nat} {lv : List (Nat × Value)} {st : List Value} {A M : Nat → Nat} {Z : Nat → Int32} {R : Nat → Nat → Int32} {P : va_W}
theorem j_nmR {c : Nat} {f : Nat → Int32} (k : ∀ R2 : Nat → Nat → Int32, (∀ i, i ≠ c → R2 i = R i) → R2 c = f → JJ G Y d mc ms post pc lv st (rW G A M Z R2 P) kc ks) : JJ G Y d mc ms post pc lv st (rW G A M Z (va_up R c f) P) kc ks := k _ (fun i h => va_up_ne _ _ h) (va_up_self _ _ _)
theorem j_nmM {c : Nat} {n : Nat} (k : ∀ M2 : Nat → Nat, (∀ i, i ≠ c → M2 i = M i) → M2 c = n → JJ G Y d mc ms post pc lv st (rW G A M2 Z R P) kc ks) : JJ G Y d mc ms post pc lv st (rW G A (va_up M c n) Z R P) kc ks := k _ (fun i h => va_up_ne _ _ h) (va_up_self _ _ _)
theorem j_nmZ {c : Nat} {n : Int32} (k : ∀ Z2 : Nat → Int32, (∀ i, i ≠ c → Z2 i = Z i) → Z2 c = n → JJ G Y d mc ms post pc lv st (rW G A M Z2 R P) kc ks) : JJ G Y d mc ms post pc lv st (rW G A M (va_up Z c n) R P) kc ks := k _ (fun i h => va_up_ne _ _ h) (va_up_self _ _ _)
theorem j_inR {c : Nat} {f : Nat → Int32} (h : R c = f) (k : JJ G Y d mc ms post pc lv st (rW G A M Z (va_up R c f) P) kc ks) : JJ G Y d mc ms post pc lv st (rW G A M Z R P) kc ks := by
  have e : va_up R c f = R := by
    funext j
    by_cases e : j = c
    · subst e; rw [va_up_self, h]
    · rw [va_up_ne _ _ e]
  rw [e] at k
  exact k
end RJ
/-- the name's signs come to entry en -/
def cpX (X : Nat → Int32) (en k : Nat) : Nat → Int32 := fun j => if 40 * en ≤ j ∧ j < 40 * en + k then vp_nar .byte (X (8000 + (j - 40 * en))) else X j
theorem cpX_0 (X : Nat → Int32) (en : Nat) : cpX X en 0 = X := by
  funext j; unfold cpX; rw [if_neg (by omega)]
theorem cpX_s (X : Nat → Int32) {en k : Nat} (he : en < 200) (hk : k < 40) : upd (cpX X en k) (40 * en + k) (vp_nar .byte (cpX X en k (8000 + k))) = cpX X en (k + 1) := by
  funext j
  by_cases e : j = 40 * en + k
  · subst e
    rw [pk_us]
    unfold cpX
    rw [if_neg (by omega), if_pos (by omega), show 40 * en + k - 40 * en = k by omega]
  · rw [pk_un e]
    unfold cpX
    by_cases h : 40 * en ≤ j ∧ j < 40 * en + k
    · rw [if_pos h, if_pos (by omega)]
    · rw [if_neg h, if_neg (by omega)]
def REN (M : Nat → Nat) (R : Nat → Nat → Int32) (q ow : Int32) (M' : Nat → Nat) (R' : Nat → Nat → Int32) : Prop := (∀ i, i ≠ 22 → i ≠ 23 → i ≠ 27 → M' i = M i) ∧ M' 27 = M 27 + 1 ∧ (∀ i, i ≠ 11 → i ≠ 12 → i ≠ 13 → i ≠ 14 → i ≠ 15 → i ≠ 19 → i ≠ 20 → i ≠ 21 → R' i = R i) ∧ R' 19 = upd (R 19) (M 27) q ∧ R' 20 = upd (R 20) (M 27) ow ∧ R' 21 = upd (R 21) (M 27) 1 ∧ R' 12 = upd (R 12) (M 27) (R 12 200) ∧ R' 11 = cpX (R 11) (M 27) 40
section RK
variable {G : GT} {A M : Nat → Nat} {Z : Nat → Int32} {R : Nat → Nat → Int32} {P ws : va_W} {el : Nat → Nat} {et : Nat → Nat → Int32} {rf rw : Nat → Nat} {rs : Nat → Int32} {ns : Option (Nat × (Nat → Int32))}
theorem ent_86 {post : OT} {X : Nat → Int32} {en : Nat} (he : en < 200) (hM : M 27 = en)
    (hk : JJ G Y_X11_enter 5 0 0 post 125 [(0, .ref (A 0))] [] (rW G A M Z (va_up R 11 (cpX X en 40)) P) 0 0) :
    ∀ (n k : Nat), k + n = 40 → JJ G Y_X11_enter 5 0 0 post 86 [(0, .ref (A 0)), (4, .int (nI k))] [] (rW G A M Z (va_up R 11 (cpX X en k)) P) 0 0 := by
  intro n
  induction n with
  | zero =>
    intro k h
    obtain rfl : k = 40 := by omega
    refine j_iload (n := 88) dX11_enter_86 rfl rfl ?_
    refine j_bipush (n := 90) (40) dX11_enter_88 rfl (by decide) ?_
    refine j_icmp_ge (n := 93) 125 dX11_enter_90 (by decide) rfl (fun c => ?_) (fun c => ?_)
    · refine j_keep [0] rfl ?_
      exact hk
    · exact absurd (show nI 40 ≤ nI 40 by decide) c
  | succ n ih =>
    intro k h
    have ih := ih (k + 1) (by omega)
    rw [← cpX_s X he (show k < 40 by omega)] at ih
    have hix : (40 : Int32) * nI (M 27) + nI k = nI (40 * en + k) := by rw [hM, r40]
    have hix2 : (8000 : Int32) + nI k = nI (8000 + k) := r8k k
    refine j_iload (n := 88) dX11_enter_86 rfl rfl ?_
    refine j_bipush (n := 90) (40) dX11_enter_88 rfl (by decide) ?_
    refine j_icmp_ge (n := 93) 125 dX11_enter_90 (by decide) rfl (fun c => ?_) (fun c => ?_)
    · exact absurd (show nI 40 ≤ nI k from c) (nI_ge (by omega) (by omega))
    · refine j_aload_n (n := 94) dX11_enter_93 rfl rfl ?_
      refine j_get (n := 97) 0 dX11_enter_94 f_X11_41 rfl rfl rfl ?_
      refine j_bipush (n := 99) (40) dX11_enter_97 rfl (by decide) ?_
      refine j_aload_n (n := 100) dX11_enter_99 rfl rfl ?_
      refine j_get (n := 103) 0 dX11_enter_100 f_X11_190 rfl rfl rfl ?_
      refine j_imul (n := 104) dX11_enter_103 rfl ?_
      refine j_iload (n := 106) dX11_enter_104 rfl rfl ?_
      refine j_iadd (n := 107) dX11_enter_106 rfl ?_
      refine j_aload_n (n := 108) dX11_enter_107 rfl rfl ?_
      refine j_get (n := 111) 0 dX11_enter_108 f_X11_41 rfl rfl rfl ?_
      refine j_sipush (n := 114) (8000) dX11_enter_111 rfl (by decide) ?_
      refine j_iload (n := 116) dX11_enter_114 rfl rfl ?_
      refine j_iadd (n := 117) dX11_enter_116 rfl ?_
      refine j_bald (n := 118) 11 (8000 + k) dX11_enter_117 rfl rfl hix2 (by omega) (by omega) ?_
      refine j_bast (n := 119) 11 (40 * en + k) dX11_enter_118 rfl rfl hix (by omega) (by omega) ?_
      refine j_ws (ws' := rW G A M Z (va_up R 11 (upd (cpX X en k) (40 * en + k) (vp_nar .byte (cpX X en k (8000 + k))))) P) rfl ?_
      refine j_iinc (n := 122) (nI (k + 1)) dX11_enter_119 rfl rfl (nI_inc k) (by decide) ?_
      refine j_goto 86 dX11_enter_122 (by decide) ?_
      exact ih
theorem r_enter {q ow : Int32} (hI : RNI M R) (hE : RET M R el et) (hN : RNM Z R ns) (hG : RRG R rf rw rs) (hb : RBD rf rw) (h12 : M 12 ≤ 8) : JM G Y_X11_enter 5 0 0 [.ref (A 0), .int q, .int ow] (rW G A M Z R P) (Qi (fun r u => r = entA (M 27) (vdS (rCT M R) (R 1) (R 2) (M 12) (R 10) (M 27) (R 19) (R 20) (R 21) el et rf rw rs ns q ow) ∧ ∃ (M' : Nat → Nat) (R' : Nat → Nat → Int32), u = rW G A M' Z R' P ∧ ((entB (M 27) (vdS (rCT M R) (R 1) (R 2) (M 12) (R 10) (M 27) (R 19) (R 20) (R 21) el et rf rw rs ns q ow) = false ∧ RSC M R M' R') ∨ (entB (M 27) (vdS (rCT M R) (R 1) (R 2) (M 12) (R 10) (M 27) (R 19) (R 20) (R 21) el et rf rw rs ns q ow) = true ∧ REN M R q ow M' R')))) := by
  have h27 := hE.1
  refine JM.of [(0, .ref (A 0)), (1, .int q), (2, .int ow)] rfl rfl (by simp) (Nat.le_of_ble_eq_true rfl) (by decide +kernel) ?_
  refine j_aload_n (n := 1) dX11_enter_0 rfl rfl ?_
  refine j_iload_n (n := 2) dX11_enter_1 rfl rfl ?_
  refine j_iload_n (n := 3) dX11_enter_2 rfl rfl ?_
  refine j_callVi (n := 6) (Y1 := Y_X11_ask) 0 dX11_enter_3 m_X11_202 cy_X11_ask ci_X11_ask (r_ask hI hE hN hG hb h12) rfl rfl rfl rfl rfl (by omega) (by omega) (by omega) (Nat.le_of_ble_eq_true rfl) (fun z w hh => ?_)
  obtain ⟨rfl, M1, R1, rfl, hsc⟩ := hh
  generalize vdS (rCT M R) (R 1) (R 2) (M 12) (R 10) (M 27) (R 19) (R 20) (R 21) el et rf rw rs ns q ow = V
  have e27 : M1 27 = M 27 := hsc.1 27 (by omega) (by omega)
  unfold entA
  refine j_istore_n (n := 7) dX11_enter_6 rfl (by decide) ?_
  refine j_iload_n (n := 8) dX11_enter_7 rfl rfl ?_
  refine j_if_ge (n := 11) 13 dX11_enter_8 (by decide) rfl (fun c => ?_) (fun c => ?_)
  · have c0 : ¬ V < 0 := Int32.not_lt.mpr c
    rw [if_neg c0]
    refine j_iload_n (n := 14) dX11_enter_13 rfl rfl ?_
    refine j_iconst (n := 15) (1) dX11_enter_14 rfl (by decide) ?_
    refine j_icmp_le (n := 18) 23 dX11_enter_15 (by decide) rfl (fun c1 => ?_) (fun c1 => ?_)
    · have c10 : ¬ 1 < V := Int32.not_lt.mpr c1
      rw [if_neg c10]
      refine j_aload_n (n := 24) dX11_enter_23 rfl rfl ?_
      refine j_get (n := 27) 0 dX11_enter_24 f_X11_190 rfl rfl rfl ?_
      refine j_sipush (n := 30) (200) dX11_enter_27 rfl (by decide) ?_
      rw [e27]
      refine j_icmp_ne (n := 33) 36 dX11_enter_30 (by decide) rfl (fun c2 => ?_) (fun c2 => ?_)
      · have hlt : M 27 < 200 := by
          rcases Nat.lt_or_ge (M 27) 200 with h | h
          · exact h
          · exact absurd (show nI (M 27) = nI 200 by rw [show M 27 = 200 by omega]) c2
        rw [if_pos hlt]
        have hB : entB (M 27) V = true := by unfold entB; rw [decide_eq_true c0, decide_eq_true c10, decide_eq_true hlt]; rfl
        refine j_aload_n (n := 37) dX11_enter_36 rfl rfl ?_
        refine j_get (n := 40) 0 dX11_enter_37 f_X11_70 rfl rfl rfl ?_
        refine j_aload_n (n := 41) dX11_enter_40 rfl rfl ?_
        refine j_get (n := 44) 0 dX11_enter_41 f_X11_190 rfl rfl rfl ?_
        refine j_iload_n (n := 45) dX11_enter_44 rfl rfl ?_
        refine j_iast (n := 46) 19 (M 27) dX11_enter_45 rfl rfl (by rw [e27]) (by omega) (by omega) ?_
        refine j_ws (ws' := rW G A M1 Z (va_up R1 19 (upd (R1 19) (M 27) q)) P) rfl ?_
        refine j_nmR (fun R2 a1 a2 => ?_)
        refine j_aload_n (n := 47) dX11_enter_46 rfl rfl ?_
        refine j_get (n := 50) 0 dX11_enter_47 f_X11_73 rfl rfl rfl ?_
        refine j_aload_n (n := 51) dX11_enter_50 rfl rfl ?_
        refine j_get (n := 54) 0 dX11_enter_51 f_X11_190 rfl rfl rfl ?_
        refine j_iload_n (n := 55) dX11_enter_54 rfl rfl ?_
        refine j_iast (n := 56) 20 (M 27) dX11_enter_55 rfl rfl (by rw [e27]) (by omega) (by omega) ?_
        refine j_ws (ws' := rW G A M1 Z (va_up R2 20 (upd (R2 20) (M 27) ow)) P) rfl ?_
        refine j_nmR (fun R3 b1 b2 => ?_)
        refine j_aload_n (n := 57) dX11_enter_56 rfl rfl ?_
        refine j_get (n := 60) 0 dX11_enter_57 f_X11_76 rfl rfl rfl ?_
        refine j_aload_n (n := 61) dX11_enter_60 rfl rfl ?_
        refine j_get (n := 64) 0 dX11_enter_61 f_X11_190 rfl rfl rfl ?_
        refine j_iconst (n := 65) (1) dX11_enter_64 rfl (by decide) ?_
        refine j_zast (n := 66) 21 (M 27) dX11_enter_65 rfl rfl (by rw [e27]) (by omega) (by omega) ?_
        refine j_ws (ws' := rW G A M1 Z (va_up R3 21 (upd (R3 21) (M 27) 1)) P) rfl ?_
        refine j_nmR (fun R4 d1 d2 => ?_)
        refine j_aload_n (n := 67) dX11_enter_66 rfl rfl ?_
        refine j_get (n := 70) 0 dX11_enter_67 f_X11_44 rfl rfl rfl ?_
        refine j_aload_n (n := 71) dX11_enter_70 rfl rfl ?_
        refine j_get (n := 74) 0 dX11_enter_71 f_X11_190 rfl rfl rfl ?_
        refine j_aload_n (n := 75) dX11_enter_74 rfl rfl ?_
        refine j_get (n := 78) 0 dX11_enter_75 f_X11_44 rfl rfl rfl ?_
        refine j_sipush (n := 81) (200) dX11_enter_78 rfl (by decide) ?_
        refine j_iald (n := 82) 12 200 dX11_enter_81 rfl rfl rfl (by omega) (by omega) ?_
        refine j_iast (n := 83) 12 (M 27) dX11_enter_82 rfl rfl (by rw [e27]) (by omega) (by omega) ?_
        refine j_ws (ws' := rW G A M1 Z (va_up R4 12 (upd (R4 12) (M 27) (R4 12 200))) P) rfl ?_
        refine j_nmR (fun R5 g1 g2 => ?_)
        refine j_iconst (n := 84) (0) dX11_enter_83 rfl (by decide) ?_
        refine j_istore (n := 86) dX11_enter_84 rfl (by decide) ?_
        refine j_keep [0, 4] rfl ?_
        have e11 : R5 11 = cpX (R5 11) (M 27) 0 := (cpX_0 _ _).symm
        refine j_inR (c := 11) (f := cpX (R5 11) (M 27) 0) e11 ?_
        refine ent_86 hlt e27 ?_ 40 0 (by omega)
        refine j_nmR (fun R6 k1 k2 => ?_)
        refine j_aload_n (n := 126) dX11_enter_125 rfl rfl ?_
        refine j_dup (n := 127) dX11_enter_126 rfl rfl ?_
        refine j_get (n := 130) 0 dX11_enter_127 f_X11_190 rfl rfl rfl ?_
        refine j_iconst (n := 131) (1) dX11_enter_130 rfl (by decide) ?_
        refine j_iadd (n := 132) dX11_enter_131 rfl ?_
        refine j_top (nI (M 27 + 1)) (by rw [e27]; exact nI_inc _) ?_
        refine j_put (n := 135) 0 dX11_enter_132 f_X11_190 rfl rfl rfl (Nat.le_of_ble_eq_true rfl) rfl rfl ?_
        refine j_ws (ws' := rW G A (va_up M1 27 (M 27 + 1)) Z R6 P) rfl ?_
        refine j_nmM (fun M2 n1 n2 => ?_)
        refine j_aload_n (n := 136) dX11_enter_135 rfl rfl ?_
        refine j_get (n := 139) 0 dX11_enter_136 f_X11_190 rfl rfl rfl ?_
        refine j_iconst (n := 140) (1) dX11_enter_139 rfl (by decide) ?_
        refine j_isub (n := 141) dX11_enter_140 rfl ?_
        have hR : ∀ i, i ≠ 11 → i ≠ 12 → i ≠ 19 → i ≠ 20 → i ≠ 21 → R6 i = R1 i := fun i x1 x2 x3 x4 x5 => by rw [k1 i x1, g1 i x2, d1 i x5, b1 i x4, a1 i x3]
        have q19 : R6 19 = upd (R 19) (M 27) q := by rw [k1 19 (by omega), g1 19 (by omega), d1 19 (by omega), b1 19 (by omega), a2, hsc.2 19 (by omega) (by omega) (by omega)]
        have q20 : R6 20 = upd (R 20) (M 27) ow := by rw [k1 20 (by omega), g1 20 (by omega), d1 20 (by omega), b2, a1 20 (by omega), hsc.2 20 (by omega) (by omega) (by omega)]
        have q21 : R6 21 = upd (R 21) (M 27) 1 := by rw [k1 21 (by omega), g1 21 (by omega), d2, b1 21 (by omega), a1 21 (by omega), hsc.2 21 (by omega) (by omega) (by omega)]
        have q12 : R6 12 = upd (R 12) (M 27) (R 12 200) := by rw [k1 12 (by omega), g2, d1 12 (by omega), b1 12 (by omega), a1 12 (by omega), hsc.2 12 (by omega) (by omega) (by omega)]
        have q11 : R6 11 = cpX (R 11) (M 27) 40 := by rw [k2, g1 11 (by omega), d1 11 (by omega), b1 11 (by omega), a1 11 (by omega), hsc.2 11 (by omega) (by omega) (by omega)]
        have hans : nI (M2 27) - 1 = nI (M 27) := by rw [n2, nI_sub1]
        exact j_iret dX11_enter_141 rfl rfl (by omega) (by omega) (⟨hans, M2, R6, rfl, Or.inr ⟨hB, fun i x1 x2 x3 => by rw [n1 i x3, hsc.1 i x1 x2], n2, fun i x1 x2 x3 x4 x5 x6 x7 x8 => by rw [hR i x1 x2 x6 x7 x8, hsc.2 i x3 x4 x5], q19, q20, q21, q12, q11⟩⟩)
      · have hlt : ¬ M 27 < 200 := fun h => Nat.ne_of_lt h ((nI_eq (by omega) (by omega)).mp (show nI (M 27) = nI 200 from c2))
        rw [if_neg hlt]
        refine j_bipush (n := 35) (-3) dX11_enter_33 rfl (by decide) ?_
        exact j_iret dX11_enter_35 rfl rfl (by omega) (by omega) (⟨rfl, M1, R1, rfl, Or.inl ⟨entB_f (Or.inr (Or.inr hlt)), hsc⟩⟩)
    · have c10 : 1 < V := Int32.not_le.mp c1
      rw [if_pos c10]
      refine j_bipush (n := 20) (-10) dX11_enter_18 rfl (by decide) ?_
      refine j_iload_n (n := 21) dX11_enter_20 rfl rfl ?_
      refine j_isub (n := 22) dX11_enter_21 rfl ?_
      exact j_iret dX11_enter_22 rfl rfl (by omega) (by omega) (⟨rfl, M1, R1, rfl, Or.inl ⟨entB_f (Or.inr (Or.inl c10)), hsc⟩⟩)
  · have c0 : V < 0 := Int32.not_le.mp c
    rw [if_pos c0]
    refine j_iload_n (n := 12) dX11_enter_11 rfl rfl ?_
    exact j_iret dX11_enter_12 rfl rfl (by omega) (by omega) (⟨rfl, M1, R1, rfl, Or.inl ⟨entB_f (Or.inl c0), hsc⟩⟩)
end RK

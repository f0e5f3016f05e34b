/-! the reference: ask -/
def ltoN (C : CT) (er eo es : Nat → Int32) (el : Nat → Nat) (et : Nat → Nat → Int32) (hw : Nat → Int32) (lx : Nat) (tx : Nat → Int32) (q ow : Int32) : Nat → Option Nat
  | 0 => none
  | n + 1 => if ¬ es n = 0 ∧ er n = q ∧ ¬ eo n = ow then oMin (ltoN C er eo es el et hw lx tx q ow n) (dst C hw lx tx (el n) (et n)) else ltoN C er eo es el et hw lx tx q ow n
theorem lmt_min (lim : Nat) (x y : Option Nat) : lmt lim (oMin x y) = oMin (lmt lim x) (lmt lim y) := by
  cases x with
  | none => rfl
  | some a =>
    cases y with
    | none => show lmt lim (some a) = oMin (lmt lim (some a)) none; rw [oMin_none]
    | some b =>
      show (if min a b ≤ lim then some (min a b) else none) = oMin (if a ≤ lim then some a else none) (if b ≤ lim then some b else none)
      by_cases h1 : a ≤ lim
      · by_cases h2 : b ≤ lim
        · rw [if_pos h1, if_pos h2, if_pos (by omega)]; rfl
        · rw [if_pos h1, if_neg h2, if_pos (by omega), oMin_none, Nat.min_eq_left (by omega)]
      · by_cases h2 : b ≤ lim
        · rw [if_neg h1, if_pos h2, if_pos (by omega), Nat.min_eq_right (by omega)]; rfl
        · rw [if_neg h1, if_neg h2, if_neg (by omega)]; rfl
theorem lto_lmt {C : CT} {er eo es : Nat → Int32} {el : Nat → Nat} {et : Nat → Nat → Int32} {hw : Nat → Int32} {lx : Nat} {tx : Nat → Int32} {q ow : Int32} {lim : Nat} : ∀ n : Nat, ltoS C er eo es el et hw lx tx q ow lim n = lmt lim (ltoN C er eo es el et hw lx tx q ow n) := by
  intro n
  induction n with
  | zero => rfl
  | succ n ih =>
    unfold ltoS ltoN
    split
    · rw [ih, lmt_min]
    · exact ih
theorem BD_dst {C : CT} {hw : Nat → Int32} {lx ly : Nat} {t1 t2 : Nat → Int32} (hok : CTok C) (h : lx ≤ 40) : BD (dst C hw lx t1 ly t2) := by
  have := seeN_le hw t1 lx
  exact BD_TT hok (by omega)
theorem BD_lto {C : CT} {er eo es : Nat → Int32} {el : Nat → Nat} {et : Nat → Nat → Int32} {hw : Nat → Int32} {lx : Nat} {tx : Nat → Int32} {q ow : Int32} (hok : CTok C) (h : lx ≤ 40) : ∀ n : Nat, BD (ltoN C er eo es el et hw lx tx q ow n) := by
  intro n
  induction n with
  | zero => exact BD.none
  | succ n ih =>
    unfold ltoN
    split
    · exact ih.min (BD_dst hok h)
    · exact ih
theorem rk_min {o t : Option Nat} (ho : BD o) (ht : BD t) : (ec 1000000 o ≤ ec 1000000 t → oMin o t = o) ∧ (¬ ec 1000000 o ≤ ec 1000000 t → oMin o t = t) := by
  constructor
  · intro h
    have := rk_cmp (ch := some 0) ho ht h
    rw [oAdd_0] at this
    exact this
  · intro h
    cases t with
    | none =>
      exfalso
      apply h
      cases o with
      | none => exact Int32.le_refl _
      | some v => have := ho v rfl; exact nI_le (show v ≤ 1000000 by omega) (by omega)
    | some w =>
      have hw := ht w rfl
      cases o with
      | none => rfl
      | some v =>
        have hv := ho v rfl
        have h1 : ¬ v ≤ w := fun q => h (nI_le q (by omega))
        show some (min v w) = some w
        rw [Nat.min_eq_right (by omega)]
theorem ask_2v {L : Option Nat} {rf rw : Nat} (hL : BD L) (h1 : rf ≤ rw) (h2 : rw ≤ 200) (c : ec 1000000 L ≤ nI rf) : vdT rf (lmt rw L) = 2 := by
  cases L with
  | none => exact absurd c (nI_ge (show rf < 1000000 by omega) (by omega))
  | some v =>
    have hv := hL v rfl
    have h3 := (nI_leI (a := v) (b := rf) (by omega) (by omega)).mp c
    show vdT rf (if v ≤ rw then some v else none) = 2
    rw [if_pos (by omega)]
    show (if v ≤ rf then (2 : Int32) else 1) = 2
    rw [if_pos h3]
theorem ask_1v {L : Option Nat} {rf rw : Nat} (hL : BD L) (h1 : rf ≤ rw) (h2 : rw ≤ 200) (c : ¬ ec 1000000 L ≤ nI rf) (c2 : ¬ nI rw < ec 1000000 L) : vdT rf (lmt rw L) = 1 := by
  cases L with
  | none => exact absurd (nI_lt (show rw < 1000000 by omega) (by omega)) c2
  | some v =>
    have hv := hL v rfl
    have h3 : ¬ v ≤ rf := fun q => c (nI_le q (by omega))
    have h4 : v ≤ rw := Decidable.byContradiction (fun q => c2 (nI_lt (by omega) (by omega)))
    show vdT rf (if v ≤ rw then some v else none) = 1
    rw [if_pos h4]
    show (if v ≤ rf then (2 : Int32) else 1) = 1
    rw [if_neg h3]
theorem ask_0v {L : Option Nat} {rf rw : Nat} (hL : BD L) (h2 : rw ≤ 200) (c2 : nI rw < ec 1000000 L) : vdT rf (lmt rw L) = 0 := by
  cases L with
  | none => rfl
  | some v =>
    have hv := hL v rfl
    have h4 := (nI_ltI (a := rw) (b := v) (by omega) (by omega)).mp c2
    show vdT rf (if v ≤ rw then some v else none) = 0
    rw [if_neg (by omega)]; rfl
theorem btw_n (x : Int32) {n : Nat} (h0 : 0 < n) (hn : n < 2 ^ 30) : btw x 0 (nI n - 1) = decide (¬ (x < 0 ∨ nI n ≤ x)) := by
  rcases ix3 x (n := n) (by omega) with h | h | ⟨j, hj, rfl⟩
  · rw [btw_lo h, decide_eq_false (fun q => q (Or.inl h))]
  · rw [btw_hi hn h, decide_eq_false (fun q => q (Or.inr h))]
  · rw [btw_in hn hj, decide_eq_true (p := ¬ (nI j < 0 ∨ nI n ≤ nI j)) (fun q => q.elim (nI_pos (by omega)) (nI_ge hj (by omega)))]
/-- the reference's name -/
def RNM (Z : Nat → Int32) (R : Nat → Nat → Int32) (ns : Option (Nat × (Nat → Int32))) : Prop := (Z 16 = 0 ∧ ns = none) ∨ (Z 16 = 1 ∧ ∃ (l : Nat) (t : Nat → Int32), ns = some (l, t) ∧ RTX R 200 l t)
def RBD (rf rw : Nat → Nat) : Prop := ∀ j, j < 4 → rf j ≤ rw j ∧ rw j ≤ 200
section RG
variable {G : GT} {A M : Nat → Nat} {Z : Nat → Int32} {R : Nat → Nat → Int32} {P ws : va_W} {el : Nat → Nat} {et : Nat → Nat → Int32} {rf rw : Nat → Nat} {rs : Nat → Int32} {ns : Option (Nat × (Nat → Int32))}
abbrev AKP (G : GT) (A M : Nat → Nat) (Z : Nat → Int32) (R : Nat → Nat → Int32) (P : va_W) (V : Int32) : OT := Qi (fun r u => r = V ∧ ∃ (M' : Nat → Nat) (R' : Nat → Nat → Int32), u = rW G A M' Z R' P ∧ RSC M R M' R')
theorem ask_1 {l : Nat} {t : Nat → Int32} {q ow V : Int32} (hE : RET M R el et) (hn : RTX R 200 l t) (h3 : hldF (M 27) (R 19) (R 21) el et (R 2) l t q = true → V = 3)
    (hk : hldF (M 27) (R 19) (R 21) el et (R 2) l t q = false → ∀ (M' : Nat → Nat) (R' : Nat → Nat → Int32), RSC M R M' R' → JJ G Y_X11_ask 4 0 0 (AKP G A M Z R P V) 81 [(0, .ref (A 0)), (1, .int q), (2, .int ow)] [] (rW G A M' Z R' P) 0 0) :
    ∀ (k i : Nat), i + k = M 27 → (∀ j, j < i → hldP (R 19) (R 21) el et (R 2) l t q j = false) → ∀ (M' : Nat → Nat) (R' : Nat → Nat → Int32), RSC M R M' R' → JJ G Y_X11_ask 4 0 0 (AKP G A M Z R P V) 45 [(0, .ref (A 0)), (1, .int q), (2, .int ow), (3, .int (nI i))] [] (rW G A M' Z R' P) 0 0 := by
  have h27 := hE.1
  intro k
  induction k with
  | zero =>
    intro i hi hno M' R' hsc
    obtain rfl : i = M 27 := by omega
    have e27 : M' 27 = M 27 := hsc.1 27 (by omega) (by omega)
    refine j_iload_n (n := 46) dX11_ask_45 rfl rfl ?_
    refine j_aload_n (n := 47) dX11_ask_46 rfl rfl ?_
    refine j_get (n := 50) 0 dX11_ask_47 f_X11_190 rfl rfl rfl ?_
    rw [e27]
    refine j_icmp_ge (n := 53) 81 dX11_ask_50 (by decide) rfl (fun c => ?_) (fun c => ?_)
    · refine j_keep [0, 1, 2] rfl ?_
      exact hk (any_f hno) M' R' hsc
    · exact absurd (nI_le (Nat.le_refl _) (by omega)) c
  | succ k ih =>
    intro i hi hno M' R' hsc
    have e27 : M' 27 = M 27 := hsc.1 27 (by omega) (by omega)
    have e19 : R' 19 = R 19 := hsc.2 19 (by omega) (by omega) (by omega)
    have e21 : R' 21 = R 21 := hsc.2 21 (by omega) (by omega) (by omega)
    have e2 : R' 2 = R 2 := hsc.2 2 (by omega) (by omega) (by omega)
    have ih := ih (i + 1) (by omega)
    have hnx : hldP (R 19) (R 21) el et (R 2) l t q i = false → ∀ j, j < i + 1 → hldP (R 19) (R 21) el et (R 2) l t q j = false := by
      intro h j hj
      by_cases e : j = i
      · subst e; exact h
      · exact hno j (by omega)
    obtain ⟨hx, -⟩ := hE.2 i (by omega)
    refine j_iload_n (n := 46) dX11_ask_45 rfl rfl ?_
    refine j_aload_n (n := 47) dX11_ask_46 rfl rfl ?_
    refine j_get (n := 50) 0 dX11_ask_47 f_X11_190 rfl rfl rfl ?_
    rw [e27]
    refine j_icmp_ge (n := 53) 81 dX11_ask_50 (by decide) rfl (fun c => ?_) (fun c => ?_)
    · exact absurd c (nI_ge (show i < M 27 by omega) (by omega))
    · refine j_aload_n (n := 54) dX11_ask_53 rfl rfl ?_
      refine j_iload_n (n := 55) dX11_ask_54 rfl rfl ?_
      refine j_iload_n (n := 56) dX11_ask_55 rfl rfl ?_
      refine j_callVe (n := 59) (Y1 := Y_X11_isIn) 0 dX11_ask_56 m_X11_193 cy_X11_isIn ci_X11_isIn (r_isIn (e := i) (q := q) (by omega)) rfl rfl rfl rfl rfl (by omega) (by omega) (by omega) (Nat.le_of_ble_eq_true rfl) ?_
      rw [e19, e21]
      refine j_if_eq (n := 62) 75 dX11_ask_59 (by decide) rfl (fun c1 => ?_) (fun c1 => ?_)
      · have hf : hldP (R 19) (R 21) el et (R 2) l t q i = false := by unfold hldP; rw [b01_0 c1]; rfl
        refine j_iinc (n := 78) (nI (i + 1)) dX11_ask_75 rfl rfl (nI_inc i) (by decide) ?_
        refine j_goto 45 dX11_ask_78 (by decide) ?_
        exact ih (hnx hf) M' R' hsc
      · refine j_aload_n (n := 63) dX11_ask_62 rfl rfl ?_
        refine j_sipush (n := 66) (200) dX11_ask_63 rfl (by decide) ?_
        refine j_iload_n (n := 67) dX11_ask_66 rfl rfl ?_
        refine j_callVi (n := 70) (Y1 := Y_X11_isSame) 0 dX11_ask_67 m_X11_196 cy_X11_isSame ci_X11_isSame (r_isSame (k1 := 200) (k2 := i) (by omega) (by omega) (hn.sc hsc) (hx.sc hsc)) rfl rfl rfl rfl rfl (by omega) (by omega) (by omega) (Nat.le_of_ble_eq_true rfl) (fun z w hh => ?_)
        obtain ⟨rfl, M2, R2, rfl, hsc2⟩ := hh
        rw [e2]
        refine j_if_eq (n := 73) 75 dX11_ask_70 (by decide) rfl (fun c2 => ?_) (fun c2 => ?_)
        · have hf : hldP (R 19) (R 21) el et (R 2) l t q i = false := by unfold hldP; rw [b01_0 c2, Bool.and_false]
          refine j_iinc (n := 78) (nI (i + 1)) dX11_ask_75 rfl rfl (nI_inc i) (by decide) ?_
          refine j_goto 45 dX11_ask_78 (by decide) ?_
          exact ih (hnx hf) M2 R2 (hsc.tr hsc2)
        · have ht : hldP (R 19) (R 21) el et (R 2) l t q i = true := by unfold hldP; rw [b01_n0 c1, b01_n0 c2]; rfl
          refine j_iconst (n := 74) (3) dX11_ask_73 rfl (by decide) ?_
          exact j_iret dX11_ask_74 rfl rfl (by omega) (by omega) (⟨(h3 (any_t (show i < M 27 by omega) ht)).symm, M2, R2, rfl, hsc.tr hsc2⟩)
theorem ask_2 {l : Nat} {t : Nat → Int32} {q ow V : Int32} (hI : RNI M R) (hE : RET M R el et) (hn : RTX R 200 l t)
    (hk : ∀ (M' : Nat → Nat) (R' : Nat → Nat → Int32), RSC M R M' R' → JJ G Y_X11_ask 4 0 0 (AKP G A M Z R P V) 150 [(0, .ref (A 0)), (1, .int q), (2, .int ow), (3, .int (ec 1000000 (ltoN (rCT M R) (R 19) (R 20) (R 21) el et (R 2) l t q ow (M 27))))] [] (rW G A M' Z R' P) 0 0) :
    ∀ (k i : Nat), i + k = M 27 → ∀ (M' : Nat → Nat) (R' : Nat → Nat → Int32), RSC M R M' R' → JJ G Y_X11_ask 4 0 0 (AKP G A M Z R P V) 87 [(0, .ref (A 0)), (1, .int q), (2, .int ow), (3, .int (ec 1000000 (ltoN (rCT M R) (R 19) (R 20) (R 21) el et (R 2) l t q ow i))), (4, .int (nI i))] [] (rW G A M' Z R' P) 0 0 := by
  have h27 := hE.1
  have hok := hI.1
  intro k
  induction k with
  | zero =>
    intro i hi M' R' hsc
    obtain rfl : i = M 27 := by omega
    have e27 : M' 27 = M 27 := hsc.1 27 (by omega) (by omega)
    refine j_iload (n := 89) dX11_ask_87 rfl rfl ?_
    refine j_aload_n (n := 90) dX11_ask_89 rfl rfl ?_
    refine j_get (n := 93) 0 dX11_ask_90 f_X11_190 rfl rfl rfl ?_
    rw [e27]
    refine j_icmp_ge (n := 96) 150 dX11_ask_93 (by decide) rfl (fun c => ?_) (fun c => ?_)
    · refine j_keep [0, 1, 2, 3] rfl ?_
      exact hk M' R' hsc
    · exact absurd (nI_le (Nat.le_refl _) (by omega)) c
  | succ k ih =>
    intro i hi M' R' hsc
    have e27 : M' 27 = M 27 := hsc.1 27 (by omega) (by omega)
    have e19 : R' 19 = R 19 := hsc.2 19 (by omega) (by omega) (by omega)
    have e20 : R' 20 = R 20 := hsc.2 20 (by omega) (by omega) (by omega)
    have e21 : R' 21 = R 21 := hsc.2 21 (by omega) (by omega) (by omega)
    have e2 : R' 2 = R 2 := hsc.2 2 (by omega) (by omega) (by omega)
    have ih := ih (i + 1) (by omega)
    obtain ⟨hx, -⟩ := hE.2 i (by omega)
    obtain ⟨hI', eC⟩ := hI.sc hsc
    have hB := BD_lto (C := rCT M R) (er := R 19) (eo := R 20) (es := R 21) (el := el) (et := et) (hw := R 2) (lx := l) (tx := t) (q := q) (ow := ow) hok hn.2.1 i
    have hD : BD (dst (rCT M R) (R 2) l t (el i) (et i)) := BD_dst hok hn.2.1
    have hun : ltoN (rCT M R) (R 19) (R 20) (R 21) el et (R 2) l t q ow (i + 1) = if ¬ R 21 i = 0 ∧ R 19 i = q ∧ ¬ R 20 i = ow then oMin (ltoN (rCT M R) (R 19) (R 20) (R 21) el et (R 2) l t q ow i) (dst (rCT M R) (R 2) l t (el i) (et i)) else ltoN (rCT M R) (R 19) (R 20) (R 21) el et (R 2) l t q ow i := rfl
    rw [hun] at ih
    refine j_iload (n := 89) dX11_ask_87 rfl rfl ?_
    refine j_aload_n (n := 90) dX11_ask_89 rfl rfl ?_
    refine j_get (n := 93) 0 dX11_ask_90 f_X11_190 rfl rfl rfl ?_
    rw [e27]
    refine j_icmp_ge (n := 96) 150 dX11_ask_93 (by decide) rfl (fun c => ?_) (fun c => ?_)
    · exact absurd c (nI_ge (show i < M 27 by omega) (by omega))
    · refine j_aload_n (n := 97) dX11_ask_96 rfl rfl ?_
      refine j_iload (n := 99) dX11_ask_97 rfl rfl ?_
      refine j_iload_n (n := 100) dX11_ask_99 rfl rfl ?_
      refine j_callVe (n := 103) (Y1 := Y_X11_isIn) 0 dX11_ask_100 m_X11_193 cy_X11_isIn ci_X11_isIn (r_isIn (e := i) (q := q) (by omega)) rfl rfl rfl rfl rfl (by omega) (by omega) (by omega) (Nat.le_of_ble_eq_true rfl) ?_
      rw [e19, e21]
      refine j_if_eq (n := 106) 144 dX11_ask_103 (by decide) rfl (fun c1 => ?_) (fun c1 => ?_)
      · have hf : ¬ (¬ R 21 i = 0 ∧ R 19 i = q ∧ ¬ R 20 i = ow) := by
          intro h
          have := b01_0 c1
          rw [decide_eq_true h.1, decide_eq_true h.2.1] at this
          cases this
        rw [if_neg hf] at ih
        refine j_iinc (n := 147) (nI (i + 1)) dX11_ask_144 rfl rfl (nI_inc i) (by decide) ?_
        refine j_goto 87 dX11_ask_147 (by decide) ?_
        exact ih M' R' hsc
      · have c1 := b01_n0 c1
        have d1 : ¬ R 21 i = 0 ∧ R 19 i = q := by simpa using c1
        refine j_aload_n (n := 107) dX11_ask_106 rfl rfl ?_
        refine j_get (n := 110) 0 dX11_ask_107 f_X11_73 rfl rfl rfl ?_
        refine j_iload (n := 112) dX11_ask_110 rfl rfl ?_
        refine j_iald (n := 113) 20 i dX11_ask_112 rfl rfl rfl (by omega) (by omega) ?_
        refine j_top (R 20 i) (by rw [← e20]) ?_
        refine j_iload_n (n := 114) dX11_ask_113 rfl rfl ?_
        refine j_icmp_ne (n := 117) 120 dX11_ask_114 (by decide) rfl (fun c2 => ?_) (fun c2 => ?_)
        · rw [if_pos ⟨d1.1, d1.2, c2⟩] at ih
          refine j_aload_n (n := 121) dX11_ask_120 rfl rfl ?_
          refine j_sipush (n := 124) (200) dX11_ask_121 rfl (by decide) ?_
          refine j_iload (n := 126) dX11_ask_124 rfl rfl ?_
          refine j_callVi (n := 129) (Y1 := Y_X11_reckon) 0 dX11_ask_126 m_X11_199 cy_X11_reckon ci_X11_reckon (r_reckon hI' (k1 := 200) (k2 := i) (by omega) (by omega) (hn.sc hsc) (hx.sc hsc)) rfl rfl rfl rfl rfl (by omega) (by omega) (by omega) (Nat.le_of_ble_eq_true rfl) (fun z w hh => ?_)
          obtain ⟨rfl, M2, R2, rfl, hS, -⟩ := hh
          have hsc2 := hsc.tr hS.2.2.2.2
          rw [eC, e2]
          obtain ⟨w1, w2⟩ := rk_min hB hD
          refine j_istore (n := 131) dX11_ask_129 rfl (by decide) ?_
          refine j_iload (n := 133) dX11_ask_131 rfl rfl ?_
          refine j_iload_n (n := 134) dX11_ask_133 rfl rfl ?_
          refine j_icmp_ge (n := 137) 142 dX11_ask_134 (by decide) rfl (fun c3 => ?_) (fun c3 => ?_)
          · rw [w1 c3] at ih
            refine j_iload_n (n := 143) dX11_ask_142 rfl rfl ?_
            refine j_istore_n (n := 144) dX11_ask_143 rfl (by decide) ?_
            refine j_iinc (n := 147) (nI (i + 1)) dX11_ask_144 rfl rfl (nI_inc i) (by decide) ?_
            refine j_goto 87 dX11_ask_147 (by decide) ?_
            refine j_keep [0, 1, 2, 3, 4] rfl ?_
            exact ih M2 R2 hsc2
          · rw [w2 c3] at ih
            refine j_iload (n := 139) dX11_ask_137 rfl rfl ?_
            refine j_goto 143 dX11_ask_139 (by decide) ?_
            refine j_istore_n (n := 144) dX11_ask_143 rfl (by decide) ?_
            refine j_iinc (n := 147) (nI (i + 1)) dX11_ask_144 rfl rfl (nI_inc i) (by decide) ?_
            refine j_goto 87 dX11_ask_147 (by decide) ?_
            refine j_keep [0, 1, 2, 3, 4] rfl ?_
            exact ih M2 R2 hsc2
        · rw [if_neg (fun h => h.2.2 c2)] at ih
          refine j_goto 144 dX11_ask_117 (by decide) ?_
          refine j_iinc (n := 147) (nI (i + 1)) dX11_ask_144 rfl rfl (nI_inc i) (by decide) ?_
          refine j_goto 87 dX11_ask_147 (by decide) ?_
          exact ih M' R' hsc
theorem ask_3 {l j : Nat} {t : Nat → Int32} {ow : Int32} {L : Option Nat} {M' : Nat → Nat} {R' : Nat → Nat → Int32} (hj : j < 4) (hn : RTX R 200 l t) (hG : RRG R rf rw rs) (hb : RBD rf rw) (h12 : M 12 ≤ 8) (hL : BD L) (hsc : RSC M R M' R') : JJ G Y_X11_ask 4 0 0 (AKP G A M Z R P (if ¬ rs j = 0 ∧ mixB (bitsS (R 1) (R 2) l t) (M 12) (R 10) = true then 2 else vdT (rf j) (lmt (rw j) L))) 150 [(0, .ref (A 0)), (1, .int (nI j)), (2, .int ow), (3, .int (ec 1000000 L))] [] (rW G A M' Z R' P) 0 0 := by
  obtain ⟨g1, g2, g3, g4⟩ := hG j hj
  obtain ⟨b1, b2⟩ := hb j hj
  have e16 : R' 16 j = nI (rf j) := by rw [hsc.2 16 (by omega) (by omega) (by omega)]; exact g1
  have e17 : R' 17 j = nI (rw j) := by rw [hsc.2 17 (by omega) (by omega) (by omega)]; exact g2
  have e18 : R' 18 j = rs j := by rw [hsc.2 18 (by omega) (by omega) (by omega)]; exact g3
  have m12 : M' 12 = M 12 := hsc.1 12 (by omega) (by omega)
  have r1 : R' 1 = R 1 := hsc.2 1 (by omega) (by omega) (by omega)
  have r2 : R' 2 = R 2 := hsc.2 2 (by omega) (by omega) (by omega)
  have r10 : R' 10 = R 10 := hsc.2 10 (by omega) (by omega) (by omega)
  have tl : ∀ (M2 : Nat → Nat) (R2 : Nat → Nat → Int32), RSC M R M2 R2 → ¬ ec 1000000 L ≤ nI (rf j) → JJ G Y_X11_ask 4 0 0 (AKP G A M Z R P (vdT (rf j) (lmt (rw j) L))) 178 [(0, .ref (A 0)), (1, .int (nI j)), (2, .int ow), (3, .int (ec 1000000 L))] [] (rW G A M2 Z R2 P) 0 0 := by
    intro M2 R2 hs2 c
    have e17 : R2 17 j = nI (rw j) := by rw [hs2.2 17 (by omega) (by omega) (by omega)]; exact g2
    refine j_iload_n (n := 179) dX11_ask_178 rfl rfl ?_
    refine j_aload_n (n := 180) dX11_ask_179 rfl rfl ?_
    refine j_get (n := 183) 0 dX11_ask_180 f_X11_63 rfl rfl rfl ?_
    refine j_iload_n (n := 184) dX11_ask_183 rfl rfl ?_
    refine j_iald (n := 185) 17 j dX11_ask_184 rfl rfl rfl (by omega) (by omega) ?_
    refine j_top _ e17 ?_
    refine j_icmp_gt (n := 188) 192 dX11_ask_185 (by decide) rfl (fun c2 => ?_) (fun c2 => ?_)
    · refine j_iconst (n := 193) (0) dX11_ask_192 rfl (by decide) ?_
      exact j_iret dX11_ask_193 rfl rfl (by omega) (by omega) (⟨(ask_0v hL b2 c2).symm, M2, R2, rfl, hs2⟩)
    · refine j_iconst (n := 189) (1) dX11_ask_188 rfl (by decide) ?_
      refine j_goto 193 dX11_ask_189 (by decide) ?_
      exact j_iret dX11_ask_193 rfl rfl (by omega) (by omega) (⟨(ask_1v hL b1 b2 c c2).symm, M2, R2, rfl, hs2⟩)
  refine j_iload_n (n := 151) dX11_ask_150 rfl rfl ?_
  refine j_aload_n (n := 152) dX11_ask_151 rfl rfl ?_
  refine j_get (n := 155) 0 dX11_ask_152 f_X11_60 rfl rfl rfl ?_
  refine j_iload_n (n := 156) dX11_ask_155 rfl rfl ?_
  refine j_iald (n := 157) 16 j dX11_ask_156 rfl rfl rfl (by omega) (by omega) ?_
  refine j_top _ e16 ?_
  refine j_icmp_le (n := 160) 176 dX11_ask_157 (by decide) rfl (fun c => ?_) (fun c => ?_)
  · have hV : (if ¬ rs j = 0 ∧ mixB (bitsS (R 1) (R 2) l t) (M 12) (R 10) = true then (2 : Int32) else vdT (rf j) (lmt (rw j) L)) = 2 := by
      split
      · rfl
      · exact ask_2v hL b1 b2 c
    refine j_iconst (n := 177) (2) dX11_ask_176 rfl (by decide) ?_
    exact j_iret dX11_ask_177 rfl rfl (by omega) (by omega) (⟨hV.symm, M', R', rfl, hsc⟩)
  · refine j_aload_n (n := 161) dX11_ask_160 rfl rfl ?_
    refine j_get (n := 164) 0 dX11_ask_161 f_X11_66 rfl rfl rfl ?_
    refine j_iload_n (n := 165) dX11_ask_164 rfl rfl ?_
    refine j_zald (n := 166) 18 j dX11_ask_165 rfl rfl rfl (by omega) (by omega) ?_
    refine j_top _ e18 ?_
    refine j_if_eq (n := 169) 178 dX11_ask_166 (by decide) rfl (fun c2 => ?_) (fun c2 => ?_)
    · rw [if_neg (fun h => h.1 c2)]
      exact tl M' R' hsc c
    · refine j_aload_n (n := 170) dX11_ask_169 rfl rfl ?_
      refine j_callVi (n := 173) (Y1 := Y_X11_isMixed) 0 dX11_ask_170 m_X11_170 cy_X11_isMixed ci_X11_isMixed (r_isMixed (hn.sc hsc) (by rw [m12]; exact h12)) rfl rfl rfl rfl rfl (by omega) (by omega) (by omega) (Nat.le_of_ble_eq_true rfl) (fun z w hh => ?_)
      obtain ⟨rfl, f, rfl⟩ := hh
      rw [r1, r2, r10, m12]
      refine j_if_eq (n := 176) 178 dX11_ask_173 (by decide) rfl (fun c3 => ?_) (fun c3 => ?_)
      · rw [if_neg (fun h => Bool.false_ne_true ((b01_0 c3).symm.trans h.2))]
        exact tl M' (va_up R' 13 f) (hsc.tr RSC.x) c
      · rw [if_pos ⟨c2, b01_n0 c3⟩]
        refine j_iconst (n := 177) (2) dX11_ask_176 rfl (by decide) ?_
        exact j_iret dX11_ask_177 rfl rfl (by omega) (by omega) (⟨rfl, M', va_up R' 13 f, rfl, hsc.tr RSC.x⟩)
theorem r_ask {q ow : Int32} (hI : RNI M R) (hE : RET M R el et) (hN : RNM Z R ns) (hG : RRG R rf rw rs) (hb : RBD rf rw) (h12 : M 12 ≤ 8) : JM G Y_X11_ask 4 0 0 [.ref (A 0), .int q, .int ow] (rW G A M Z R P) (AKP G A M Z R P (vdS (rCT M R) (R 1) (R 2) (M 12) (R 10) (M 27) (R 19) (R 20) (R 21) el et rf rw rs ns q ow)) := by
  unfold vdS
  refine JM.of [(0, .ref (A 0)), (1, .int q), (2, .int ow)] rfl rfl (by simp) (Nat.le_of_ble_eq_true rfl) (by decide +kernel) ?_
  refine j_iload_n (n := 1) dX11_ask_0 rfl rfl ?_
  refine j_callSe (n := 4) (Y1 := Y_X11_isRegister) dX11_ask_1 m_X11_187 cy_X11_isRegister cs_X11_isRegister (r_isRegister) rfl rfl rfl (by omega) (by omega) (by omega) (Nat.le_of_ble_eq_true rfl) ?_
  rw [btw_03]
  refine j_if_eq (n := 7) 17 dX11_ask_4 (by decide) rfl (fun c => ?_) (fun c => ?_)
  · have c := Decidable.not_not.mp (of_decide_eq_false (b01_0 c))
    rw [if_pos (Or.inl c)]
    refine j_bipush (n := 19) (-2) dX11_ask_17 rfl (by decide) ?_
    exact j_iret dX11_ask_19 rfl rfl (by omega) (by omega) (⟨rfl, M, R, rfl, RSC.rf M R⟩)
  · have c := of_decide_eq_true (b01_n0 c)
    refine j_iload_n (n := 8) dX11_ask_7 rfl rfl ?_
    refine j_iconst (n := 9) (0) dX11_ask_8 rfl (by decide) ?_
    refine j_bipush (n := 11) (31) dX11_ask_9 rfl (by decide) ?_
    refine j_callSe (n := 14) (Y1 := Y_X11_in) dX11_ask_11 m_X11_106 cy_X11_in cs_X11_in (r_in) rfl rfl rfl (by omega) (by omega) (by omega) (Nat.le_of_ble_eq_true rfl) ?_
    rw [show btw ow 0 31 = decide (¬ (ow < 0 ∨ 32 ≤ ow)) from btw_n ow (n := 32) (by omega) (by omega)]
    refine j_if_ne (n := 17) 20 dX11_ask_14 (by decide) rfl (fun c1 => ?_) (fun c1 => ?_)
    · have c1 := of_decide_eq_true (b01_n0 c1)
      rw [if_neg (fun h => h.elim c c1)]
      rcases hN with ⟨z, rfl⟩ | ⟨z, l, t, rfl, hn⟩
      · refine j_aload_n (n := 21) dX11_ask_20 rfl rfl ?_
        refine j_get (n := 24) 0 dX11_ask_21 f_X11_158 rfl rfl rfl ?_
        refine j_if_eq (n := 27) 41 dX11_ask_24 (by decide) rfl (fun c2 => ?_) (fun c2 => ?_)
        · refine j_iconst (n := 42) (-1) dX11_ask_41 rfl (by decide) ?_
          exact j_iret dX11_ask_42 rfl rfl (by omega) (by omega) (⟨rfl, M, R, rfl, RSC.rf M R⟩)
        · exact absurd z c2
      · refine j_aload_n (n := 21) dX11_ask_20 rfl rfl ?_
        refine j_get (n := 24) 0 dX11_ask_21 f_X11_158 rfl rfl rfl ?_
        refine j_if_eq (n := 27) 41 dX11_ask_24 (by decide) rfl (fun c2 => ?_) (fun c2 => ?_)
        · exact absurd (z.symm.trans c2) (by decide)
        · refine j_aload_n (n := 28) dX11_ask_27 rfl rfl ?_
          refine j_sipush (n := 31) (200) dX11_ask_28 rfl (by decide) ?_
          refine j_aload_n (n := 32) dX11_ask_31 rfl rfl ?_
          refine j_get (n := 35) 0 dX11_ask_32 f_X11_51 rfl rfl rfl ?_
          refine j_callVi (n := 38) (Y1 := Y_X11_see) 0 dX11_ask_35 m_X11_162 cy_X11_see ci_X11_see (r_seeX (k := 200) (by omega) hn) rfl rfl rfl rfl rfl (by omega) (by omega) (by omega) (Nat.le_of_ble_eq_true rfl) (fun z1 w hh => ?_)
          obtain ⟨rfl, f, rfl, hf⟩ := hh
          have hle := seeN_le (R 2) t l
          have h40 := hn.2.1
          dsimp only
          refine j_if_ne (n := 41) 43 dX11_ask_38 (by decide) rfl (fun c3 => ?_) (fun c3 => ?_)
          · have h0 : ¬ seeN (R 2) t l = 0 := fun h => c3 (by rw [h]; rfl)
            rw [if_neg h0]
            rcases ix3 q (n := 4) (by omega) with h | h | ⟨j, hj, rfl⟩
            · exact absurd (Or.inl h) c
            · exact absurd (Or.inr (show 4 ≤ q from h)) c
            · rw [nI_clamp (show j < 2 ^ 31 by omega)]
              refine j_iconst (n := 44) (0) dX11_ask_43 rfl (by decide) ?_
              refine j_istore_n (n := 45) dX11_ask_44 rfl (by decide) ?_
              refine ask_1 hE hn (fun h => by rw [if_pos h]) (fun h M' R' hsc => ?_) (M 27) 0 (by omega) (fun j hj => by omega) M (va_up R 13 f) RSC.x
              rw [if_neg (by rw [h]; exact Bool.noConfusion), lto_lmt]
              refine j_ldc (n := 83) dX11_ask_81 rfl k_X11_134 ?_
              refine j_istore_n (n := 84) dX11_ask_83 rfl (by decide) ?_
              refine j_iconst (n := 85) (0) dX11_ask_84 rfl (by decide) ?_
              refine j_istore (n := 87) dX11_ask_85 rfl (by decide) ?_
              exact ask_2 hI hE hn (fun M2 R2 hs2 => ask_3 hj hn hG hb h12 (BD_lto hI.1 hn.2.1 _) hs2) (M 27) 0 (by omega) M' R' hsc
          · have h0 : seeN (R 2) t l = 0 := (nI_eq (by omega) (by omega)).mp (show nI (seeN (R 2) t l) = nI 0 from c3)
            rw [if_pos h0]
            refine j_iconst (n := 42) (-1) dX11_ask_41 rfl (by decide) ?_
            exact j_iret dX11_ask_42 rfl rfl (by omega) (by omega) (⟨rfl, M, _, rfl, RSC.x⟩)
    · have c1 := Decidable.not_not.mp (of_decide_eq_false (b01_0 c1))
      rw [if_pos (Or.inr c1)]
      refine j_bipush (n := 19) (-2) dX11_ask_17 rfl (by decide) ?_
      exact j_iret dX11_ask_19 rfl rfl (by omega) (by omega) (⟨rfl, M, R, rfl, RSC.rf M R⟩)
end RG

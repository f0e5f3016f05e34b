/-! PieceTable: addPiece, leastBetween, goOver -/
theorem ixm (f m o : Nat) : nI f * nI m + nI o = nI (m * f + o) := by rw [pk_mul, nI_add, Nat.mul_comm]
theorem mx_lt {m f o : Nat} (hf : f < m) (ho : o < m) : m * f + o < m * m := by
  have h1 : m * (f + 1) ≤ m * m := Nat.mul_le_mul_left m hf
  rw [Nat.mul_succ] at h1
  omega
theorem CHI_add {cs la be : Nat → Int32} {m : Nat} {x : Int32} {s : Nat} (h : CHI cs la be m) (hs : sgB (ldF x) = true) (hx : ldF x = nI s) (h1 : 33 ≤ s) (h2 : s ≤ 126) : CHI (upd cs m x) (upd la s (nI m)) (upd be m (la s)) (m + 1) := by
  obtain ⟨c1, c2, c3⟩ := h
  refine ⟨fun i hi => ?_, fun j j1 j2 => ?_, fun i hi => ?_⟩
  · by_cases e : i = m
    · subst e; rw [pk_us]; exact hs
    · rw [pk_un e]; exact c1 i (by omega)
  · show _ = if ldF (upd cs m x m) = nI j then nI m else prvF (upd cs m x) (nI j) m
    rw [pk_us, prvF_upd cs (nI j) x m m (Nat.le_refl _), hx]
    by_cases e : j = s
    · subst e; rw [pk_us, if_pos rfl]
    · rw [pk_un e, if_neg (fun q => e ((nI_eq (by omega) (by omega)).mp q).symm)]
      exact c2 j j1 j2
  · by_cases e : i = m
    · subst e; rw [pk_us, pk_us, prvF_upd cs _ x i i (Nat.le_refl _), hx]
      exact c2 s h1 h2
    · rw [pk_un e, pk_un e, prvF_upd cs _ x m i (by omega)]
      exact c3 i (by omega)
section PT2
variable {G : GT} {rest : va_W} {A : Nat → Nat} {C : CT} {stamp closed : Int32} {m Ln : Nat} {cs la be ll : Nat → Int32}
theorem c_addPiece {x : Int32} {s : Nat} (hC : CHI cs la be m) (hm : m < 120) (hs : sgB (ldF x) = true) (hx : ldF x = nI s) (h1 : 33 ≤ s) (h2 : s ≤ 126) : JV G Y_X4_addPiece 2 0 0 [.ref (A 0), .int x] (ptL G A C stamp closed m cs la be Ln ll ++ rest) (if idxF cs x m = -1 then ptL G A C stamp closed (m + 1) (upd cs m x) (upd la s (nI m)) (upd be m (la s)) Ln ll ++ rest else ptL G A C stamp closed m cs la be Ln ll ++ rest) := by
  refine JM.of [(0, .ref (A 0)), (1, .int x)] rfl rfl (by simp) (Nat.le_of_ble_eq_true rfl) (by decide +kernel) ?_
  refine j_iload_n (n := 1) dX4_addPiece_0 rfl rfl ?_
  refine j_callSe (n := 4) (Y1 := Y_X4_leadingSign) dX4_addPiece_1 m_X4_69 cy_X4_leadingSign cs_X4_leadingSign (c_leadingSign) rfl rfl rfl (by omega) (by omega) (by omega) (Nat.le_of_ble_eq_true rfl) ?_
  refine j_istore_n (n := 5) dX4_addPiece_4 rfl (by decide) ?_
  refine j_iload_n (n := 6) dX4_addPiece_5 rfl rfl ?_
  refine j_callSNe (n := 9) (Y1 := Y_X10_isSign) dX4_addPiece_6 m_X4_73 cy_X10_isSign cs_X10_isSign (c_isSign) rfl rfl rfl (by omega) (by omega) (by omega) (Nat.le_of_ble_eq_true rfl) ?_
  refine j_if_eq (n := 12) 30 dX4_addPiece_9 (by decide) rfl (fun c => ?_) (fun c => ?_)
  · rw [hs] at c; cases c
  · refine j_aload_n (n := 13) dX4_addPiece_12 rfl rfl ?_
    refine j_get (n := 16) 0 dX4_addPiece_13 f_X4_34 rfl rfl rfl ?_
    refine j_bipush (n := 18) (120) dX4_addPiece_16 rfl (by decide) ?_
    refine j_icmp_ge (n := 21) 30 dX4_addPiece_18 (by decide) rfl (fun c2 => ?_) (fun c2 => ?_)
    · exact absurd c2 (nI_ge (b := 120) hm (by omega))
    · refine j_aload_n (n := 22) dX4_addPiece_21 rfl rfl ?_
      refine j_iload_n (n := 23) dX4_addPiece_22 rfl rfl ?_
      refine j_callVe (n := 26) (Y1 := Y_X4_indexOf) 0 dX4_addPiece_23 m_X4_77 cy_X4_indexOf ci_X4_indexOf (c_indexOf hC (by omega)) rfl rfl rfl rfl rfl (by omega) (by omega) (by omega) (Nat.le_of_ble_eq_true rfl) ?_
      refine j_iconst (n := 27) (-1) dX4_addPiece_26 rfl (by decide) ?_
      refine j_icmp_eq (n := 30) 31 dX4_addPiece_27 (by decide) rfl (fun c3 => ?_) (fun c3 => ?_)
      · rw [if_pos c3]
        refine j_aload_n (n := 32) dX4_addPiece_31 rfl rfl ?_
        refine j_get (n := 35) 0 dX4_addPiece_32 f_X4_31 rfl rfl rfl ?_
        refine j_aload_n (n := 36) dX4_addPiece_35 rfl rfl ?_
        refine j_get (n := 39) 0 dX4_addPiece_36 f_X4_34 rfl rfl rfl ?_
        refine j_iload_n (n := 40) dX4_addPiece_39 rfl rfl ?_
        refine j_iast (n := 41) 4 m dX4_addPiece_40 rfl rfl rfl (by omega) (by omega) ?_
        refine j_aload_n (n := 42) dX4_addPiece_41 rfl rfl ?_
        refine j_get (n := 45) 0 dX4_addPiece_42 f_X4_40 rfl rfl rfl ?_
        refine j_aload_n (n := 46) dX4_addPiece_45 rfl rfl ?_
        refine j_get (n := 49) 0 dX4_addPiece_46 f_X4_34 rfl rfl rfl ?_
        refine j_aload_n (n := 50) dX4_addPiece_49 rfl rfl ?_
        refine j_get (n := 53) 0 dX4_addPiece_50 f_X4_37 rfl rfl rfl ?_
        refine j_iload_n (n := 54) dX4_addPiece_53 rfl rfl ?_
        refine j_iald (n := 55) 5 s dX4_addPiece_54 rfl rfl hx (by omega) (by omega) ?_
        refine j_iast (n := 56) 6 m dX4_addPiece_55 rfl rfl rfl (by omega) (by omega) ?_
        refine j_aload_n (n := 57) dX4_addPiece_56 rfl rfl ?_
        refine j_get (n := 60) 0 dX4_addPiece_57 f_X4_37 rfl rfl rfl ?_
        refine j_iload_n (n := 61) dX4_addPiece_60 rfl rfl ?_
        refine j_aload_n (n := 62) dX4_addPiece_61 rfl rfl ?_
        refine j_get (n := 65) 0 dX4_addPiece_62 f_X4_34 rfl rfl rfl ?_
        refine j_iast (n := 66) 5 s dX4_addPiece_65 rfl rfl hx (by omega) (by omega) ?_
        refine j_aload_n (n := 67) dX4_addPiece_66 rfl rfl ?_
        refine j_dup (n := 68) dX4_addPiece_67 rfl rfl ?_
        refine j_get (n := 71) 0 dX4_addPiece_68 f_X4_34 rfl rfl rfl ?_
        refine j_iconst (n := 72) (1) dX4_addPiece_71 rfl (by decide) ?_
        refine j_iadd (n := 73) dX4_addPiece_72 rfl ?_
        refine j_top (nI (m + 1)) (nI_1 m) ?_
        refine j_put (n := 76) 0 dX4_addPiece_73 f_X4_34 rfl rfl rfl (Nat.le_of_ble_eq_true rfl) rfl rfl ?_
        exact j_vret dX4_addPiece_76 rfl (by omega) (by omega) (rfl)
      · rw [if_neg c3]
        exact j_vret dX4_addPiece_30 rfl (by omega) (by omega) (rfl)
def lbF (m : Nat) (ll : Nat → Int32) (a b : Int32) : Int32 := if a < 0 ∨ b < 0 ∨ nI m ≤ a ∨ nI m ≤ b then 536870912 else ll (m * a.toNatClampNeg + b.toNatClampNeg)
theorem c_leastBetween {a b : Int32} (hm : m ≤ 120) (hLn : m * m ≤ Ln) (hL : Ln ≤ 14400) : JE G Y_X4_leastBetween 0 0 0 [.ref (A 0), .int a, .int b] (ptL G A C stamp closed m cs la be Ln ll ++ rest) (lbF m ll a b) (ptL G A C stamp closed m cs la be Ln ll ++ rest) := by
  refine JM.of [(0, .ref (A 0)), (1, .int a), (2, .int b)] rfl rfl (by simp) (Nat.le_of_ble_eq_true rfl) (by decide +kernel) ?_
  refine j_iload_n (n := 1) dX4_leastBetween_0 rfl rfl ?_
  refine j_if_lt (n := 4) 24 dX4_leastBetween_1 (by decide) rfl (fun c => ?_) (fun c => ?_)
  · refine j_ldc (n := 26) dX4_leastBetween_24 rfl k_X4_80 ?_
    exact j_iret dX4_leastBetween_26 rfl rfl (by omega) (by omega) (⟨by simp [lbF, c], rfl⟩)
  · refine j_iload_n (n := 5) dX4_leastBetween_4 rfl rfl ?_
    refine j_if_lt (n := 8) 24 dX4_leastBetween_5 (by decide) rfl (fun c2 => ?_) (fun c2 => ?_)
    · refine j_ldc (n := 26) dX4_leastBetween_24 rfl k_X4_80 ?_
      exact j_iret dX4_leastBetween_26 rfl rfl (by omega) (by omega) (⟨by simp [lbF, c2], rfl⟩)
    · refine j_iload_n (n := 9) dX4_leastBetween_8 rfl rfl ?_
      refine j_aload_n (n := 10) dX4_leastBetween_9 rfl rfl ?_
      refine j_get (n := 13) 0 dX4_leastBetween_10 f_X4_34 rfl rfl rfl ?_
      refine j_icmp_ge (n := 16) 24 dX4_leastBetween_13 (by decide) rfl (fun c3 => ?_) (fun c3 => ?_)
      · refine j_ldc (n := 26) dX4_leastBetween_24 rfl k_X4_80 ?_
        exact j_iret dX4_leastBetween_26 rfl rfl (by omega) (by omega) (⟨by simp [lbF, c3], rfl⟩)
      · refine j_iload_n (n := 17) dX4_leastBetween_16 rfl rfl ?_
        refine j_aload_n (n := 18) dX4_leastBetween_17 rfl rfl ?_
        refine j_get (n := 21) 0 dX4_leastBetween_18 f_X4_34 rfl rfl rfl ?_
        refine j_icmp_lt (n := 24) 27 dX4_leastBetween_21 (by decide) rfl (fun c4 => ?_) (fun c4 => ?_)
        · rcases ix3 a (show m < 2147483648 by omega) with h | h | ⟨i, hi, rfl⟩
          · exact absurd h c
          · exact absurd h c3
          · rcases ix3 b (show m < 2147483648 by omega) with h | h | ⟨j, hj, rfl⟩
            · exact absurd h c2
            · exact absurd c4 (Int32.not_lt.mpr h)
            · have hlt := mx_lt hi hj
              have hnn : ¬ (nI i < 0 ∨ nI j < 0 ∨ nI m ≤ nI i ∨ nI m ≤ nI j) := by
                rintro (q | q | q | q)
                · exact c q
                · exact c2 q
                · exact c3 q
                · exact Int32.not_lt.mpr q c4
              refine j_aload_n (n := 28) dX4_leastBetween_27 rfl rfl ?_
              refine j_get (n := 31) 0 dX4_leastBetween_28 f_X4_43 rfl rfl rfl ?_
              refine j_iload_n (n := 32) dX4_leastBetween_31 rfl rfl ?_
              refine j_aload_n (n := 33) dX4_leastBetween_32 rfl rfl ?_
              refine j_get (n := 36) 0 dX4_leastBetween_33 f_X4_34 rfl rfl rfl ?_
              refine j_imul (n := 37) dX4_leastBetween_36 rfl ?_
              refine j_iload_n (n := 38) dX4_leastBetween_37 rfl rfl ?_
              refine j_iadd (n := 39) dX4_leastBetween_38 rfl ?_
              refine j_iald (n := 40) 7 (m * i + j) dX4_leastBetween_39 rfl rfl (ixm i m j) (by omega) (by omega) ?_
              exact j_iret dX4_leastBetween_40 rfl rfl (by omega) (by omega) (⟨by unfold lbF; rw [if_neg hnn, nI_clamp (by omega), nI_clamp (by omega)], rfl⟩)
        · refine j_ldc (n := 26) dX4_leastBetween_24 rfl k_X4_80 ?_
          exact j_iret dX4_leastBetween_26 rfl rfl (by omega) (by omega) (⟨by simp [lbF, Int32.not_lt.mp c4], rfl⟩)
theorem go_in {o f v : Nat} {D : OM} {post : OT} (hm : m ≤ 120) (ho : o < m) (hf : f < m) (hLn : m * m ≤ Ln) (hL : Ln ≤ 14400) (hd : ∀ i, D i i = some 0) (hb : ∀ i j v, D i j = some v → v ≤ 100000) (hv : D f o = some v)
    (kout : ∀ ll' : Nat → Int32, MX 536870912 m m ll' (mixM D o (f + 1) 0) → JJ G Y_X4_goOver 0 0 0 post 7 [(0, .ref (A 0)), (1, .int (nI o)), (2, .int (nI m)), (3, .int (nI (f + 1)))] [] (ptL G A C stamp closed m cs la be Ln ll' ++ rest) 0 0) :
    ∀ (k t : Nat), t + k = m → ∀ ll : Nat → Int32, MX 536870912 m m ll (mixM D o f t) → JJ G Y_X4_goOver 0 0 0 post 39 [(0, .ref (A 0)), (1, .int (nI o)), (2, .int (nI m)), (3, .int (nI f)), (4, .int (nI v)), (5, .int (nI t))] [] (ptL G A C stamp closed m cs la be Ln ll ++ rest) 0 0 := by
  intro k
  induction k with
  | zero =>
    intro t ht ll hX
    obtain rfl : t = m := by omega
    refine j_iload (n := 41) dX4_goOver_39 rfl rfl ?_
    refine j_iload_n (n := 42) dX4_goOver_41 rfl rfl ?_
    refine j_icmp_ge (n := 45) 96 dX4_goOver_42 (by decide) rfl (fun c => ?_) (fun c => ?_)
    · refine j_iinc (n := 99) (nI (f + 1)) dX4_goOver_96 rfl rfl (nI_inc f) (by decide) ?_
      refine j_goto 7 dX4_goOver_99 (by decide) ?_
      refine j_keep [0, 1, 2, 3] rfl ?_
      exact kout ll (hX.congr (fun i j hi hj => mixM_next hj))
    · exact absurd (nI_le (Nat.le_refl t) (by omega)) c
  | succ k ih =>
    intro t ht ll hX
    have htm : t < m := by omega
    have l1 := mx_lt ho htm
    have l2 := mx_lt hf htm
    have e1 : ll (m * o + t) = ec 536870912 (D o t) := by rw [hX o t ho htm, mixM_row (hd o)]
    have e2 : ll (m * f + t) = ec 536870912 (D f t) := by rw [hX f t hf htm, mixM_at]
    have hvb := hb f o v hv
    refine j_iload (n := 41) dX4_goOver_39 rfl rfl ?_
    refine j_iload_n (n := 42) dX4_goOver_41 rfl rfl ?_
    refine j_icmp_ge (n := 45) 96 dX4_goOver_42 (by decide) rfl (fun c => ?_) (fun c => ?_)
    · exact absurd c (nI_ge htm (by omega))
    · refine j_iload (n := 47) dX4_goOver_45 rfl rfl ?_
      refine j_aload_n (n := 48) dX4_goOver_47 rfl rfl ?_
      refine j_get (n := 51) 0 dX4_goOver_48 f_X4_43 rfl rfl rfl ?_
      refine j_iload_n (n := 52) dX4_goOver_51 rfl rfl ?_
      refine j_iload_n (n := 53) dX4_goOver_52 rfl rfl ?_
      refine j_imul (n := 54) dX4_goOver_53 rfl ?_
      refine j_iload (n := 56) dX4_goOver_54 rfl rfl ?_
      refine j_iadd (n := 57) dX4_goOver_56 rfl ?_
      refine j_iald (n := 58) 7 (m * o + t) dX4_goOver_57 rfl rfl (ixm o m t) (by omega) (by omega) ?_
      refine j_iadd (n := 59) dX4_goOver_58 rfl ?_
      refine j_istore (n := 61) dX4_goOver_59 rfl (by decide) ?_
      refine j_iload (n := 63) dX4_goOver_61 rfl rfl ?_
      refine j_aload_n (n := 64) dX4_goOver_63 rfl rfl ?_
      refine j_get (n := 67) 0 dX4_goOver_64 f_X4_43 rfl rfl rfl ?_
      refine j_iload_n (n := 68) dX4_goOver_67 rfl rfl ?_
      refine j_iload_n (n := 69) dX4_goOver_68 rfl rfl ?_
      refine j_imul (n := 70) dX4_goOver_69 rfl ?_
      refine j_iload (n := 72) dX4_goOver_70 rfl rfl ?_
      refine j_iadd (n := 73) dX4_goOver_72 rfl ?_
      refine j_iald (n := 74) 7 (m * f + t) dX4_goOver_73 rfl rfl (ixm f m t) (by omega) (by omega) ?_
      rw [e1, e2]
      cases d1 : D o t with
      | none =>
        have hfw : fwS D o f t = D f t := by unfold fwS; rw [hv, d1]; exact oMin_none _
        have hx : nI v + ec 536870912 none = nI (v + 536870912) := nI_add v 536870912
        rw [hx]
        refine j_icmp_ge (n := 77) 90 dX4_goOver_74 (by decide) rfl (fun c2 => ?_) (fun c2 => ?_)
        · refine j_iinc (n := 93) (nI (t + 1)) dX4_goOver_90 rfl rfl (nI_inc t) (by decide) ?_
          refine j_goto 39 dX4_goOver_93 (by decide) ?_
          refine j_keep [0, 1, 2, 3, 4, 5] rfl ?_
          exact ih (t + 1) (by omega) ll (hX.congr (fun i j _ _ => (mixM_same hfw).symm))
        · refine absurd ?_ c2
          cases d2 : D f t with
          | none => exact nI_le (by omega) (by omega)
          | some w => have := hb f t w d2; exact nI_le (by omega) (by omega)
      | some u =>
        have hub := hb o t u d1
        have hx : nI v + ec 536870912 (some u) = nI (v + u) := nI_add v u
        rw [hx]
        refine j_icmp_ge (n := 77) 90 dX4_goOver_74 (by decide) rfl (fun c2 => ?_) (fun c2 => ?_)
        · have hfw : fwS D o f t = D f t := by
            unfold fwS; rw [hv, d1]
            cases d2 : D f t with
            | none =>
              rw [d2] at c2
              exact absurd c2 (nI_ge (show v + u < 536870912 by omega) (by omega))
            | some w =>
              rw [d2] at c2
              have hwb := hb f t w d2
              have : w ≤ v + u := (nI_leI (by omega) (by omega)).mp c2
              show some (min w (v + u)) = some w
              rw [Nat.min_eq_left this]
          refine j_iinc (n := 93) (nI (t + 1)) dX4_goOver_90 rfl rfl (nI_inc t) (by decide) ?_
          refine j_goto 39 dX4_goOver_93 (by decide) ?_
          refine j_keep [0, 1, 2, 3, 4, 5] rfl ?_
          exact ih (t + 1) (by omega) ll (hX.congr (fun i j _ _ => (mixM_same hfw).symm))
        · have hfw : fwS D o f t = some (v + u) := by
            unfold fwS; rw [hv, d1]
            cases d2 : D f t with
            | none => rfl
            | some w =>
              rw [d2] at c2
              have hwb := hb f t w d2
              have : v + u < w := Nat.lt_of_not_le (fun q => c2 (nI_le q (by omega)))
              show some (min w (v + u)) = some (v + u)
              rw [Nat.min_eq_right (by omega)]
          refine j_aload_n (n := 78) dX4_goOver_77 rfl rfl ?_
          refine j_get (n := 81) 0 dX4_goOver_78 f_X4_43 rfl rfl rfl ?_
          refine j_iload_n (n := 82) dX4_goOver_81 rfl rfl ?_
          refine j_iload_n (n := 83) dX4_goOver_82 rfl rfl ?_
          refine j_imul (n := 84) dX4_goOver_83 rfl ?_
          refine j_iload (n := 86) dX4_goOver_84 rfl rfl ?_
          refine j_iadd (n := 87) dX4_goOver_86 rfl ?_
          refine j_iload (n := 89) dX4_goOver_87 rfl rfl ?_
          refine j_iast (n := 90) 7 (m * f + t) dX4_goOver_89 rfl rfl (ixm f m t) (by omega) (by omega) ?_
          refine j_iinc (n := 93) (nI (t + 1)) dX4_goOver_90 rfl rfl (nI_inc t) (by decide) ?_
          refine j_goto 39 dX4_goOver_93 (by decide) ?_
          refine j_keep [0, 1, 2, 3, 4, 5] rfl ?_
          refine j_ws (ws' := ptL G A C stamp closed m cs la be Ln (upd ll (m * f + t) (nI (v + u))) ++ rest) rfl ?_
          refine ih (t + 1) (by omega) _ ((hX.put (v := some (v + u)) (Nat.le_refl _) htm rfl).congr (fun i j _ _ => ?_))
          rw [mixM_s, hfw]
theorem go_out {o : Nat} {D : OM} (hm : m ≤ 120) (ho : o < m) (hLn : m * m ≤ Ln) (hL : Ln ≤ 14400) (hd : ∀ i, D i i = some 0) (hb : ∀ i j v, D i j = some v → v ≤ 100000) :
    ∀ (k f : Nat), f + k = m → ∀ ll : Nat → Int32, MX 536870912 m m ll (mixM D o f 0) → JJ G Y_X4_goOver 0 0 0 (Qv (fun w => ∃ ll' : Nat → Int32, w = ptL G A C stamp closed m cs la be Ln ll' ++ rest ∧ MX 536870912 m m ll' (fwS D o))) 7 [(0, .ref (A 0)), (1, .int (nI o)), (2, .int (nI m)), (3, .int (nI f))] [] (ptL G A C stamp closed m cs la be Ln ll ++ rest) 0 0 := by
  intro k
  induction k with
  | zero =>
    intro f hf ll hX
    obtain rfl : f = m := by omega
    refine j_iload_n (n := 8) dX4_goOver_7 rfl rfl ?_
    refine j_iload_n (n := 9) dX4_goOver_8 rfl rfl ?_
    refine j_icmp_ge (n := 12) 102 dX4_goOver_9 (by decide) rfl (fun c => ?_) (fun c => ?_)
    · exact j_vret dX4_goOver_102 rfl (by omega) (by omega) (⟨ll, rfl, hX.congr (fun i j hi _ => mixM_end hi)⟩)
    · exact absurd (nI_le (Nat.le_refl f) (by omega)) c
  | succ k ih =>
    intro f hf ll hX
    have hfm : f < m := by omega
    have l1 := mx_lt hfm ho
    have e1 : ll (m * f + o) = ec 536870912 (D f o) := by rw [hX f o hfm ho, mixM_col (hd o)]
    have knext : ∀ ll' : Nat → Int32, MX 536870912 m m ll' (mixM D o (f + 1) 0) → JJ G Y_X4_goOver 0 0 0 (Qv (fun w => ∃ ll' : Nat → Int32, w = ptL G A C stamp closed m cs la be Ln ll' ++ rest ∧ MX 536870912 m m ll' (fwS D o))) 7 [(0, .ref (A 0)), (1, .int (nI o)), (2, .int (nI m)), (3, .int (nI (f + 1)))] [] (ptL G A C stamp closed m cs la be Ln ll' ++ rest) 0 0 := fun ll' h => ih (f + 1) (by omega) ll' h
    refine j_iload_n (n := 8) dX4_goOver_7 rfl rfl ?_
    refine j_iload_n (n := 9) dX4_goOver_8 rfl rfl ?_
    refine j_icmp_ge (n := 12) 102 dX4_goOver_9 (by decide) rfl (fun c => ?_) (fun c => ?_)
    · exact absurd c (nI_ge hfm (by omega))
    · refine j_aload_n (n := 13) dX4_goOver_12 rfl rfl ?_
      refine j_get (n := 16) 0 dX4_goOver_13 f_X4_43 rfl rfl rfl ?_
      refine j_iload_n (n := 17) dX4_goOver_16 rfl rfl ?_
      refine j_iload_n (n := 18) dX4_goOver_17 rfl rfl ?_
      refine j_imul (n := 19) dX4_goOver_18 rfl ?_
      refine j_iload_n (n := 20) dX4_goOver_19 rfl rfl ?_
      refine j_iadd (n := 21) dX4_goOver_20 rfl ?_
      refine j_iald (n := 22) 7 (m * f + o) dX4_goOver_21 rfl rfl (ixm f m o) (by omega) (by omega) ?_
      rw [e1]
      refine j_istore (n := 24) dX4_goOver_22 rfl (by decide) ?_
      refine j_iload (n := 26) dX4_goOver_24 rfl rfl ?_
      refine j_ldc (n := 28) dX4_goOver_26 rfl k_X4_80 ?_
      refine j_icmp_ge (n := 31) 96 dX4_goOver_28 (by decide) rfl (fun c2 => ?_) (fun c2 => ?_)
      · have hn : D f o = none := by
          cases d1 : D f o with
          | none => rfl
          | some v =>
            rw [d1] at c2
            have := hb f o v d1
            exact absurd c2 (nI_ge (b := 536870912) (show v < 536870912 by omega) (by omega))
        refine j_iinc (n := 99) (nI (f + 1)) dX4_goOver_96 rfl rfl (nI_inc f) (by decide) ?_
        refine j_goto 7 dX4_goOver_99 (by decide) ?_
        refine j_keep [0, 1, 2, 3] rfl ?_
        exact knext ll (hX.congr (fun i j _ _ => mixM_skip (fun t => fwS_skip hn)))
      · obtain ⟨v, hv⟩ : ∃ v, D f o = some v := by
          cases d1 : D f o with
          | none => rw [d1] at c2; exact absurd (Int32.le_refl _) c2
          | some v => exact ⟨v, rfl⟩
        rw [hv]
        refine j_iload_n (n := 32) dX4_goOver_31 rfl rfl ?_
        refine j_iload_n (n := 33) dX4_goOver_32 rfl rfl ?_
        refine j_icmp_eq (n := 36) 96 dX4_goOver_33 (by decide) rfl (fun c3 => ?_) (fun c3 => ?_)
        · have hfo : f = o := (nI_eq (by omega) (by omega)).mp c3
          subst hfo
          refine j_iinc (n := 99) (nI (f + 1)) dX4_goOver_96 rfl rfl (nI_inc f) (by decide) ?_
          refine j_goto 7 dX4_goOver_99 (by decide) ?_
          refine j_keep [0, 1, 2, 3] rfl ?_
          exact knext ll (hX.congr (fun i j _ _ => mixM_skip (fun t => fwS_row (hd f))))
        · refine j_iconst (n := 37) (0) dX4_goOver_36 rfl (by decide) ?_
          refine j_istore (n := 39) dX4_goOver_37 rfl (by decide) ?_
          exact go_in hm ho hfm hLn hL hd hb hv knext m 0 (by omega) ll hX
theorem c_goOver {o : Nat} {D : OM} (hm : m ≤ 120) (ho : o < m) (hLn : m * m ≤ Ln) (hL : Ln ≤ 14400) (hd : ∀ i, D i i = some 0) (hb : ∀ i j v, D i j = some v → v ≤ 100000) (hX : MX 536870912 m m ll D) : JM G Y_X4_goOver 0 0 0 [.ref (A 0), .int (nI o)] (ptL G A C stamp closed m cs la be Ln ll ++ rest) (Qv (fun w => ∃ ll' : Nat → Int32, w = ptL G A C stamp closed m cs la be Ln ll' ++ rest ∧ MX 536870912 m m ll' (fwS D o))) := by
  refine JM.of [(0, .ref (A 0)), (1, .int (nI o))] rfl rfl (by simp) (Nat.le_of_ble_eq_true rfl) (by decide +kernel) ?_
  refine j_aload_n (n := 1) dX4_goOver_0 rfl rfl ?_
  refine j_get (n := 4) 0 dX4_goOver_1 f_X4_34 rfl rfl rfl ?_
  refine j_istore_n (n := 5) dX4_goOver_4 rfl (by decide) ?_
  refine j_iconst (n := 6) (0) dX4_goOver_5 rfl (by decide) ?_
  refine j_istore_n (n := 7) dX4_goOver_6 rfl (by decide) ?_
  exact go_out hm ho hLn hL hd hb m 0 (by omega) ll (hX.congr (fun i j _ _ => by rw [mixM_0]))
end PT2

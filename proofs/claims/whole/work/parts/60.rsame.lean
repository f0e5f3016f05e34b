/-! the reference: isSame -/
/-- only what is written for a while differs -/
def RSC (M : Nat → Nat) (R : Nat → Nat → Int32) (M' : Nat → Nat) (R' : Nat → Nat → Int32) : Prop := (∀ i, i ≠ 22 → i ≠ 23 → M' i = M i) ∧ ∀ i, i ≠ 13 → i ≠ 14 → i ≠ 15 → R' i = R i
theorem RSC.rf (M : Nat → Nat) (R : Nat → Nat → Int32) : RSC M R M R := ⟨fun _ _ _ => rfl, fun _ _ _ _ => rfl⟩
theorem RSC.tr {M M1 M2 : Nat → Nat} {R R1 R2 : Nat → Nat → Int32} (h : RSC M R M1 R1) (h' : RSC M1 R1 M2 R2) : RSC M R M2 R2 := ⟨fun i a b => (h'.1 i a b).trans (h.1 i a b), fun i a b c => (h'.2 i a b c).trans (h.2 i a b c)⟩
theorem RSC.x {M : Nat → Nat} {R : Nat → Nat → Int32} {f : Nat → Int32} : RSC M R M (va_up R 13 f) := ⟨fun _ _ _ => rfl, fun i h _ _ => va_up_ne _ _ h⟩
theorem RSC.y {M : Nat → Nat} {R : Nat → Nat → Int32} {f : Nat → Int32} : RSC M R M (va_up R 14 f) := ⟨fun _ _ _ => rfl, fun i _ h _ => va_up_ne _ _ h⟩
theorem RSC.l {M : Nat → Nat} {R : Nat → Nat → Int32} {f : Nat → Int32} : RSC M R M (va_up R 15 f) := ⟨fun _ _ _ => rfl, fun i _ _ h => va_up_ne _ _ h⟩
theorem RSC.xs {M : Nat → Nat} {R : Nat → Nat → Int32} {n : Nat} : RSC M R (va_up M 22 n) R := ⟨fun i h _ => va_up_ne _ _ h, fun _ _ _ _ => rfl⟩
theorem RSC.ys {M : Nat → Nat} {R : Nat → Nat → Int32} {n : Nat} : RSC M R (va_up M 23 n) R := ⟨fun i _ h => va_up_ne _ _ h, fun _ _ _ _ => rfl⟩
theorem RTX.sc {M M' : Nat → Nat} {R R' : Nat → Nat → Int32} {k len : Nat} {t : Nat → Int32} (h : RTX R k len t) (hs : RSC M R M' R') : RTX R' k len t := by
  obtain ⟨h1, h2, h3, h4, h5⟩ := h
  refine ⟨by rw [hs.2 12 (by omega) (by omega) (by omega)]; exact h1, h2, h3, fun i hi => ?_, h5⟩
  have : tx R' k i = tx R k i := by unfold tx; rw [hs.2 11 (by omega) (by omega) (by omega)]
  rw [this]; exact h4 i hi
/-- the state after both texts were seen -/
def SEE2 (M : Nat → Nat) (R : Nat → Nat → Int32) (lx : Nat) (tx' : Nat → Int32) (ly : Nat) (ty : Nat → Int32) (M' : Nat → Nat) (R' : Nat → Nat → Int32) : Prop := M' 22 = seeN (R 2) tx' lx ∧ M' 23 = seeN (R 2) ty ly ∧ (∀ i, i < seeN (R 2) tx' lx → R' 13 i = seeF (R 2) tx' lx i) ∧ (∀ i, i < seeN (R 2) ty ly → R' 14 i = seeF (R 2) ty ly i) ∧ RSC M R M' R'
section RB
variable {G : GT} {A M : Nat → Nat} {Z : Nat → Int32} {R : Nat → Nat → Int32} {P ws : va_W}
abbrev SMP (G : GT) (A M : Nat → Nat) (Z : Nat → Int32) (R : Nat → Nat → Int32) (P : va_W) (b : Bool) : OT := Qi (fun r u => r = b01 b ∧ ∃ (M' : Nat → Nat) (R' : Nat → Nat → Int32), u = rW G A M' Z R' P ∧ RSC M R M' R')
theorem same_46 {M' : Nat → Nat} {R' : Nat → Nat → Int32} {n : Nat} (hn : n ≤ 40) (hM : M' 22 = n) (hsc : RSC M R M' R') : ∀ (k i : Nat), i + k = n → ∀ ok : Bool, JJ G Y_X11_isSame 2 0 0 (SMP G A M Z R P (ok && (List.range n).all (fun j => decide (j < i) || decide (R' 13 j = R' 14 j)))) 46 [(0, .ref (A 0)), (3, .int (b01 ok)), (4, .int (nI i))] [] (rW G A M' Z R' P) 0 0 := by
  intro k
  induction k with
  | zero =>
    intro i hi ok
    obtain rfl : i = n := by omega
    have hall : (List.range i).all (fun j => decide (j < i) || decide (R' 13 j = R' 14 j)) = true := by
      rw [List.all_eq_true]
      intro j hj
      rw [decide_eq_true (List.mem_range.mp hj)]; rfl
    rw [hall, Bool.and_true]
    refine j_iload (n := 48) dX11_isSame_46 rfl rfl ?_
    refine j_aload_n (n := 49) dX11_isSame_48 rfl rfl ?_
    refine j_get (n := 52) 0 dX11_isSame_49 f_X11_177 rfl rfl rfl ?_
    rw [hM]
    refine j_icmp_ge (n := 55) 88 dX11_isSame_52 (by decide) rfl (fun c => ?_) (fun c => ?_)
    · refine j_iload_n (n := 89) dX11_isSame_88 rfl rfl ?_
      exact j_iret dX11_isSame_89 rfl (b01_nar ok) (by omega) (by omega) (⟨rfl, M', R', rfl, hsc⟩)
    · exact absurd (nI_le (Nat.le_refl _) (by omega)) c
  | succ k ih =>
    intro i hi ok
    refine j_iload (n := 48) dX11_isSame_46 rfl rfl ?_
    refine j_aload_n (n := 49) dX11_isSame_48 rfl rfl ?_
    refine j_get (n := 52) 0 dX11_isSame_49 f_X11_177 rfl rfl rfl ?_
    rw [hM]
    refine j_icmp_ge (n := 55) 88 dX11_isSame_52 (by decide) rfl (fun c => ?_) (fun c => ?_)
    · exact absurd c (nI_ge (show i < n by omega) (by omega))
    · refine j_iload_n (n := 56) dX11_isSame_55 rfl rfl ?_
      refine j_if_eq (n := 59) 88 dX11_isSame_56 (by decide) rfl (fun c2 => ?_) (fun c2 => ?_)
      · have e := b01_0 c2
        subst e
        refine j_iload_n (n := 89) dX11_isSame_88 rfl rfl ?_
        exact j_iret dX11_isSame_89 rfl (b01_nar false) (by omega) (by omega) (⟨rfl, M', R', rfl, hsc⟩)
      · have e := b01_n0 c2
        subst e
        refine j_aload_n (n := 60) dX11_isSame_59 rfl rfl ?_
        refine j_get (n := 63) 0 dX11_isSame_60 f_X11_51 rfl rfl rfl ?_
        refine j_iload (n := 65) dX11_isSame_63 rfl rfl ?_
        refine j_iald (n := 66) 13 i dX11_isSame_65 rfl rfl rfl (by omega) (by omega) ?_
        refine j_aload_n (n := 67) dX11_isSame_66 rfl rfl ?_
        refine j_get (n := 70) 0 dX11_isSame_67 f_X11_54 rfl rfl rfl ?_
        refine j_iload (n := 72) dX11_isSame_70 rfl rfl ?_
        refine j_iald (n := 73) 14 i dX11_isSame_72 rfl rfl rfl (by omega) (by omega) ?_
        refine j_icmp_ne (n := 76) 80 dX11_isSame_73 (by decide) rfl (fun c3 => ?_) (fun c3 => ?_)
        · refine j_iconst (n := 81) (0) dX11_isSame_80 rfl (by decide) ?_
          refine j_istore_n (n := 82) dX11_isSame_81 rfl (by decide) ?_
          refine j_iinc (n := 85) (nI (i + 1)) dX11_isSame_82 rfl rfl (nI_inc i) (by decide) ?_
          refine j_goto 46 dX11_isSame_85 (by decide) ?_
          have hall : (true && (List.range n).all (fun j => decide (j < i) || decide (R' 13 j = R' 14 j))) = (false && (List.range n).all (fun j => decide (j < i + 1) || decide (R' 13 j = R' 14 j))) := by
            rw [Bool.true_and, Bool.false_and, List.all_eq_false]
            exact ⟨i, List.mem_range.mpr (by omega), by rw [decide_eq_false (show ¬ i < i by omega), decide_eq_false c3]; exact Bool.noConfusion⟩
          rw [hall]
          exact ih (i + 1) (by omega) false
        · refine j_iconst (n := 77) (1) dX11_isSame_76 rfl (by decide) ?_
          refine j_goto 81 dX11_isSame_77 (by decide) ?_
          refine j_istore_n (n := 82) dX11_isSame_81 rfl (by decide) ?_
          refine j_iinc (n := 85) (nI (i + 1)) dX11_isSame_82 rfl rfl (nI_inc i) (by decide) ?_
          refine j_goto 46 dX11_isSame_85 (by decide) ?_
          have hall : (true && (List.range n).all (fun j => decide (j < i) || decide (R' 13 j = R' 14 j))) = (true && (List.range n).all (fun j => decide (j < i + 1) || decide (R' 13 j = R' 14 j))) := by
            congr 2
            funext j
            by_cases e : j = i
            · subst e; rw [decide_eq_false (show ¬ j < j by omega), decide_eq_true c3, decide_eq_true (show j < j + 1 by omega)]; rfl
            · by_cases e2 : j < i
              · rw [decide_eq_true e2, decide_eq_true (show j < i + 1 by omega)]
              · rw [decide_eq_false e2, decide_eq_false (show ¬ j < i + 1 by omega)]
          rw [hall]
          exact ih (i + 1) (by omega) true
theorem same_eq {nx ny : Nat} {f g s u : Nat → Int32} (hf : ∀ i, i < nx → f i = s i) (hg : ∀ i, i < ny → g i = u i) : (decide (nx = ny) && (List.range nx).all (fun j => decide (j < 0) || decide (f j = g j))) = sameB ny nx u s := by
  unfold sameB
  by_cases e : nx = ny
  · subst e
    rw [decide_eq_true rfl]
    congr 1
    apply Bool.eq_iff_iff.mpr
    rw [List.all_eq_true, List.all_eq_true]
    constructor
    · intro h i hi
      have := h i hi
      have hi := List.mem_range.mp hi
      rw [hf i hi, hg i hi] at this
      simp at this
      simp [this]
    · intro h i hi
      have := h i hi
      have hi := List.mem_range.mp hi
      rw [hf i hi, hg i hi]
      simp at this
      simp [this]
  · rw [decide_eq_false e, decide_eq_false (fun q => e q.symm)]; rfl
theorem same_26 {M' : Nat → Nat} {R' : Nat → Nat → Int32} {lx ly : Nat} {t1 t2 : Nat → Int32} {v1 v2 : Value} (b1 : lx ≤ 40) (b2 : ly ≤ 40) (hS : SEE2 M R lx t1 ly t2 M' R') : JJ G Y_X11_isSame 2 0 0 (SMP G A M Z R P (sameS (R 2) lx t1 ly t2)) 26 [(0, .ref (A 0)), (1, v1), (2, v2)] [] (rW G A M' Z R' P) 0 0 := by
  have l1 := seeN_le (R 2) t1 lx
  have l2 := seeN_le (R 2) t2 ly
  obtain ⟨e1, e2, hf, hg, hsc⟩ := hS
  unfold sameS
  rw [← same_eq hf hg]
  have hlp := fun ok => same_46 (G := G) (A := A) (M := M) (R := R) (M' := M') (Z := Z) (R' := R') (P := P) (n := seeN (R 2) t1 lx) (by omega) e1 hsc (seeN (R 2) t1 lx) 0 (by omega) ok
  generalize seeN (R 2) t1 lx = nx at *
  generalize seeN (R 2) t2 ly = ny at *
  refine j_aload_n (n := 27) dX11_isSame_26 rfl rfl ?_
  refine j_get (n := 30) 0 dX11_isSame_27 f_X11_177 rfl rfl rfl ?_
  refine j_aload_n (n := 31) dX11_isSame_30 rfl rfl ?_
  refine j_get (n := 34) 0 dX11_isSame_31 f_X11_180 rfl rfl rfl ?_
  rw [e1, e2]
  refine j_icmp_ne (n := 37) 41 dX11_isSame_34 (by decide) rfl (fun c => ?_) (fun c => ?_)
  · rw [decide_eq_false (fun q => c (by rw [q]))]
    refine j_iconst (n := 42) (0) dX11_isSame_41 rfl (by decide) ?_
    refine j_istore_n (n := 43) dX11_isSame_42 rfl (by decide) ?_
    refine j_iconst (n := 44) (0) dX11_isSame_43 rfl (by decide) ?_
    refine j_istore (n := 46) dX11_isSame_44 rfl (by decide) ?_
    refine j_keep [0, 3, 4] rfl ?_
    exact hlp false
  · rw [decide_eq_true ((nI_eq (by omega) (by omega)).mp c)]
    refine j_iconst (n := 38) (1) dX11_isSame_37 rfl (by decide) ?_
    refine j_goto 42 dX11_isSame_38 (by decide) ?_
    refine j_istore_n (n := 43) dX11_isSame_42 rfl (by decide) ?_
    refine j_iconst (n := 44) (0) dX11_isSame_43 rfl (by decide) ?_
    refine j_istore (n := 46) dX11_isSame_44 rfl (by decide) ?_
    refine j_keep [0, 3, 4] rfl ?_
    exact hlp true
theorem r_isSame {k1 k2 lx ly : Nat} {t1 t2 : Nat → Int32} (hk1 : k1 ≤ 200) (hk2 : k2 ≤ 200) (h1 : RTX R k1 lx t1) (h2 : RTX R k2 ly t2) : JM G Y_X11_isSame 2 0 0 [.ref (A 0), .int (nI k1), .int (nI k2)] (rW G A M Z R P) (SMP G A M Z R P (sameS (R 2) lx t1 ly t2)) := by
  refine JM.of [(0, .ref (A 0)), (1, .int (nI k1)), (2, .int (nI k2))] rfl rfl (by simp) (Nat.le_of_ble_eq_true rfl) (by decide +kernel) ?_
  refine j_aload_n (n := 1) dX11_isSame_0 rfl rfl ?_
  refine j_aload_n (n := 2) dX11_isSame_1 rfl rfl ?_
  refine j_iload_n (n := 3) dX11_isSame_2 rfl rfl ?_
  refine j_aload_n (n := 4) dX11_isSame_3 rfl rfl ?_
  refine j_get (n := 7) 0 dX11_isSame_4 f_X11_51 rfl rfl rfl ?_
  refine j_callVi (n := 10) (Y1 := Y_X11_see) 0 dX11_isSame_7 m_X11_162 cy_X11_see ci_X11_see (r_seeX hk1 h1) rfl rfl rfl rfl rfl (by omega) (by omega) (by omega) (Nat.le_of_ble_eq_true rfl) (fun z w hh => ?_)
  obtain ⟨rfl, f, rfl, hf⟩ := hh
  refine j_put (n := 13) 0 dX11_isSame_10 f_X11_177 rfl rfl rfl (Nat.le_of_ble_eq_true rfl) rfl rfl ?_
  refine j_ws (ws' := rW G A (va_up M 22 (seeN (R 2) t1 lx)) Z (va_up R 13 f) P) rfl ?_
  obtain ⟨R1, hR1⟩ : ∃ R1, R1 = va_up R 13 f := ⟨_, rfl⟩
  have r2 : R1 2 = R 2 := by rw [hR1]; rfl
  obtain ⟨M1, hM1⟩ : ∃ M1, M1 = va_up M 22 (seeN (R 2) t1 lx) := ⟨_, rfl⟩
  have m22 : M1 22 = seeN (R 2) t1 lx := by rw [hM1]; rfl
  have hsc1 : RSC M R M1 R1 := by rw [hR1, hM1]; exact RSC.x.tr RSC.xs
  have hf1 : ∀ i, i < seeN (R 2) t1 lx → R1 13 i = seeF (R 2) t1 lx i := by rw [hR1]; exact hf
  rw [← hR1, ← hM1]
  clear hR1 hf hM1
  refine j_aload_n (n := 14) dX11_isSame_13 rfl rfl ?_
  refine j_aload_n (n := 15) dX11_isSame_14 rfl rfl ?_
  refine j_iload_n (n := 16) dX11_isSame_15 rfl rfl ?_
  refine j_aload_n (n := 17) dX11_isSame_16 rfl rfl ?_
  refine j_get (n := 20) 0 dX11_isSame_17 f_X11_54 rfl rfl rfl ?_
  refine j_callVi (n := 23) (Y1 := Y_X11_see) 0 dX11_isSame_20 m_X11_162 cy_X11_see ci_X11_see (r_seeY hk2 (h2.sc hsc1)) rfl rfl rfl rfl rfl (by omega) (by omega) (by omega) (Nat.le_of_ble_eq_true rfl) (fun z w hh => ?_)
  obtain ⟨rfl, g, rfl, hg⟩ := hh
  rw [r2] at hg ⊢
  refine j_put (n := 26) 0 dX11_isSame_23 f_X11_180 rfl rfl rfl (Nat.le_of_ble_eq_true rfl) rfl rfl ?_
  refine j_ws (ws' := rW G A (va_up M1 23 (seeN (R 2) t2 ly)) Z (va_up R1 14 g) P) rfl ?_
  refine same_26 h1.2.1 h2.2.1 ⟨m22, rfl, hf1, hg, (hsc1.tr RSC.y).tr RSC.ys⟩
end RB

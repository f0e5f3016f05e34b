/-! one call on both objects: enter -/
theorem nar_sg {m : Nat} (h : m ≤ 126) : vp_nar .byte (nI m) = nI m := by
  rw [vp_nar_byte]
  exact sm_128 ⟨m, by omega⟩
section S4
variable {G : GT} {k cc : Nat}
theorem ren_ret {M M' : Nat → Nat} {ZR : Nat → Int32} {R R' : Nat → Nat → Int32} {el : Nat → Nat} {et : Nat → Nat → Int32} {q ow : Int32} {n l : Nat} {t : Nat → Int32} (h7 : M 27 = n) (hn : n < 200) (rE : RET M R el et) (hx : RTX R 200 l t) (h : REN M R q ow M' R') : RET M' R' (va_up el n l) (va_up et n t) ∧ RTX R' 200 l t := by
  obtain ⟨m, m27, r, r19, r20, r21, r12, r11⟩ := h
  rw [h7] at m27 r12 r11 r21
  have e200 : ∀ i, i < 40 → R' 11 (40 * 200 + i) = R 11 (40 * 200 + i) := fun i hi => by
    rw [r11]; unfold cpX; rw [if_neg (by omega)]
  refine ⟨⟨by omega, fun e he => ?_⟩, ?_⟩
  · rw [m27] at he
    by_cases ee : e = n
    · subst ee
      rw [va_up_self, va_up_self]
      refine ⟨⟨by rw [r12, pk_us]; exact hx.1, hx.2.1, hx.2.2.1, fun i hi => ?_, hx.2.2.2.2⟩, Or.inr (by rw [r21, pk_us])⟩
      have h40 := hx.2.1
      obtain ⟨s, hs, s1, s2⟩ := hx.2.2.2.2 i hi
      have h4 : R 11 (40 * 200 + i) = t i := hx.2.2.2.1 i hi
      unfold tx
      rw [r11]
      unfold cpX
      rw [if_pos (by omega), show 40 * e + i - 40 * e = i by omega, show 8000 + i = 40 * 200 + i by omega, h4, hs]
      exact nar_sg s2
    · rw [va_up_ne _ _ ee, va_up_ne _ _ ee]
      obtain ⟨x1, x2⟩ := rE.2 e (by omega)
      have h40 := x1.2.1
      refine ⟨⟨by rw [r12, pk_un ee]; exact x1.1, x1.2.1, x1.2.2.1, fun i hi => ?_, x1.2.2.2.2⟩, by rw [r21, pk_un ee]; exact x2⟩
      have h4 := x1.2.2.2.1 i hi
      unfold tx at h4 ⊢
      rw [r11]
      unfold cpX
      rw [if_neg (by omega)]
      exact h4
  · have h40 := hx.2.1
    refine ⟨by rw [r12, pk_un (by omega)]; exact hx.1, hx.2.1, hx.2.2.1, fun i hi => ?_, hx.2.2.2.2⟩
    have h4 := hx.2.2.2.1 i hi
    unfold tx at h4 ⊢
    rw [e200 i (by omega)]
    exact h4
theorem st_enter {q ow : Int32} : STEP G Y_X10_enter Y_X11_enter [.int q, .int ow] k cc cc := step_mk (fun Q N Z F nm Ef T E A M ZR R el et rf rw rs ns h0 hS => by
  obtain ⟨hP, hX, hE, hf, hN, hG, b6, b4, b8, b9, b10, s1, s5⟩ := hS.1
  obtain ⟨rI, rE, rN, rG⟩ := hS.2.1
  obtain ⟨t1, t2, t3, t4, t5, t6, t7, t8, t9, t10, t11, t12, t13, t14, t15⟩ := hS.2.2
  obtain ⟨m1, m2, m3⟩ := ms0_le hP
  have con := c_enter (G := G) (Q := Q) (tail := rL G A M ZR R) (q := q) (ow := ow) hP hX hE hf hN hG b6
  have con2 := fun P => r_enter (G := G) (A := A) (M := M) (Z := ZR) (R := R) (P := P) (q := q) (ow := ow) rI rE rN rG hG.bd (by omega)
  rw [t1, t2, t3, t4, t5, t6] at con2
  generalize vdS (cCT N F) (F 11) (F 12) (N 6) (F 14) (N 7) (R 19) (R 20) (R 21) el et rf rw rs ns q ow = V at con con2
  refine ⟨7, mc0 N Z F + 1, ms0 N Z F + 4, _, by omega, by omega, by omega, fun h => by have := m3 (by omega); omega, con, fun v1 w1 h => ?_⟩
  obtain ⟨rfl, Q', N', Z', F', T', hR, hcase⟩ := h
  rcases hcase with ⟨hB, rfl⟩ | ⟨hB, x, l, t, hns, rfl, hE', hf'⟩
  · refine ⟨Q', N', Z', F', nm, Ef, T', E, rfl, hR.1.2.1 8 (by omega), by rw [hR.1.2.2.1 0 (by omega) (by omega)]; exact h0, 5, _, by omega, con2, fun P v2 w2 h2 => ?_⟩
    obtain ⟨rfl, M', R', rfl, hcase⟩ := h2
    rcases hcase with ⟨-, hsc⟩ | ⟨hB', -⟩
    · exact ⟨rfl, M', ZR, R', el, et, rf, rw, rs, ns, rfl, hS.both hR hsc⟩
    · rw [hB] at hB'; cases hB'
  · refine ⟨Q', va_up N' 7 (N 7 + 1), Z', F', nm, va_up Ef (N 7) (some x.1), T', E ++ [x], rfl, hR.1.2.1 8 (by omega), by show N' 0 ≤ cc; rw [hR.1.2.2.1 0 (by omega) (by omega)]; exact h0, 5, _, by omega, con2, fun P v2 w2 h2 => ?_⟩
    obtain ⟨rfl, M', R', rfl, hcase⟩ := h2
    rcases hcase with ⟨hB', -⟩ | ⟨-, hr⟩
    · rw [hB] at hB'; cases hB'
    · have hlt : N 7 < 200 := by
        unfold entB at hB
        rw [Bool.and_eq_true] at hB
        exact of_decide_eq_true hB.2
      obtain ⟨z, hx⟩ : ZR 16 = 1 ∧ RTX R 200 l t := by
        rcases rN with ⟨-, e⟩ | ⟨z, l', t', e, hx⟩
        · rw [e] at hns; cases hns
        · rw [e] at hns; cases hns; exact ⟨z, hx⟩
      obtain ⟨hre, hrx⟩ := ren_ret (ZR := ZR) t6 hlt rE hx hr
      obtain ⟨m, m27, r, r19, r20, r21, r12, r11⟩ := hr
      obtain ⟨c1, c2, c3, c4, c5, c6, d6, d4, d8, d9, d10, e1, e5⟩ := (hS.1.run hR).up
      obtain ⟨u1, u2, u3, u4, u5, u6, u7, u8, u9, u10, u11, u12, u13, u14, u15⟩ := hS.2.2.run hR.1
      have r' : ∀ i, i ≤ 10 ∨ (16 ≤ i ∧ i ≤ 18) ∨ 22 ≤ i → R' i = R i := fun i hi => r i (by omega) (by omega) (by omega) (by omega) (by omega) (by omega) (by omega) (by omega)
      refine ⟨rfl, M', ZR, R', va_up el (N 7) l, va_up et (N 7) t, rf, rw, rs, ns, rfl, ⟨c1, c2, ?_, hf', c5, c6, d6, d4, d8, d9, d10, e1, e5⟩, ⟨?_, hre, Or.inr ⟨z, l, t, hns, hrx⟩, fun j hj => ?_⟩, ?_, ?_, ?_, ?_, ?_, ?_, ?_, ?_, u9, u10, ?_, ?_, ?_, ?_, ?_⟩
      · rw [r19, r20, r21, t6]; exact hE'
      · exact (rI.cg (m 4 (by omega) (by omega) (by omega)) (m 8 (by omega) (by omega) (by omega)) (fun i a b => r' i (by omega))).1
      · rw [r' 16 (by omega), r' 17 (by omega), r' 18 (by omega)]; exact rG j hj
      · show (M' 4, R' 4, R' 5, R' 6) = _
        rw [m 4 (by omega) (by omega) (by omega), r' 4 (by omega), r' 5 (by omega), r' 6 (by omega)]; exact u1
      · rw [r' 1 (by omega)]; exact u2
      · rw [r' 2 (by omega)]; exact u3
      · rw [r' 10 (by omega)]; exact u4
      · rw [m 12 (by omega) (by omega) (by omega)]; exact u5
      · show M' 27 = N 7 + 1
        rw [m27, t6]
      · rw [m 3 (by omega) (by omega) (by omega)]; exact u7
      · rw [r' 3 (by omega)]; exact u8
      · rw [m 33 (by omega) (by omega) (by omega)]; exact u11
      · rw [r' 22 (by omega)]; exact u12
      · rw [r' 23 (by omega)]; exact u13
      · rw [m 37 (by omega) (by omega) (by omega), r' 24 (by omega), r' 25 (by omega), r' 26 (by omega)]; exact u14
      · rw [m 41 (by omega) (by omega) (by omega), r' 27 (by omega), r' 28 (by omega), r' 29 (by omega)]; exact u15)
end S4

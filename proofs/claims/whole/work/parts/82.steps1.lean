/-! one call on both objects: the calls that only tell -/
theorem tl3_congr {n m : Nat} {f g h f' g' h' : Nat → Int32} {i w : Int32} (hm : m < 2 ^ 31) (e : n = m) (hk : ∀ k, k < m → f k = f' k ∧ g k = g' k ∧ h k = h' k) : tl3 n f g h i w = tl3 m f' g' h' i w := by
  subst e
  unfold tl3
  rcases ix3 i (n := n) (by omega) with hi | hi | ⟨j, hj, rfl⟩
  · rw [if_pos (Or.inl hi), if_pos (Or.inl hi)]
  · rw [if_pos (Or.inr hi), if_pos (Or.inr hi)]
  · obtain ⟨a1, a2, a3⟩ := hk j hj
    rw [nI_clamp (show j < 2 ^ 31 by omega), a1, a2, a3]
section S1
variable {G : GT} {k cc : Nat}
theorem st_chain {p q : Int32} : STEP G Y_X10_chain Y_X11_chain [.int p, .int q] k cc cc := step_mk (fun Q N Z F nm Ef T E A M ZR R el et rf rw rs ns h0 hS => by
  have hC := hS.1
  obtain ⟨hP, hX, hE, hf, hN, hG, b6, b4, b8, b9, b10, s1, s5⟩ := hS.1
  obtain ⟨rI, rE, rN, rG⟩ := hS.2.1
  obtain ⟨t1, t2, t3, t4, t5, t6, t7, t8, t9, t10, t11, t12, t13, t14, t15⟩ := hS.2.2
  obtain ⟨m1, m2, m3⟩ := ms0_le hP
  refine ⟨4, mc0 N Z F, ms0 N Z F, _, by omega, by omega, by omega, fun h => by have := m3 (by omega); omega, c_chain hP, fun v1 w1 h => ?_⟩
  obtain ⟨rfl, Q', N', Z', F', rfl, hE', hP'⟩ := h
  refine ⟨Q', N', Z', F', nm, Ef, T, E, rfl, hE'.2.1 8 (by omega), by rw [hE'.2.2.1 0 (by omega) (by omega)]; exact h0, 3, _, by omega, fun P => r_chain rI, fun P v2 w2 h2 => ?_⟩
  obtain ⟨rfl, rfl⟩ := h2
  exact ⟨by rw [t1], M, ZR, R, el, et, rf, rw, rs, ns, rfl, hS.both ⟨hE', EQT.rf T, hP', hX.eqs hE'⟩ (RSC.rf M R)⟩)
theorem st_fault {w : Int32} : STEP G Y_X10_fault Y_X11_fault [.int w] k cc cc := step_mk (fun Q N Z F nm Ef T E A M ZR R el et rf rw rs ns h0 hS => by
  obtain ⟨hP, hX, hE, hf, hN, hG, b6, b4, b8, b9, b10, s1, s5⟩ := hS.1
  obtain ⟨t1, t2, t3, t4, t5, t6, t7, t8, t9, t10, t11, t12, t13, t14, t15⟩ := hS.2.2
  refine ⟨0, 0, 0, _, by omega, by omega, by omega, fun h => by omega, c_fault, fun v1 w1 h => ?_⟩
  obtain ⟨rfl, rfl⟩ := h
  refine ⟨Q, N, Z, F, nm, Ef, T, E, rfl, rfl, h0, 0, _, by omega, fun P => r_fault, fun P v2 w2 h2 => ?_⟩
  obtain ⟨rfl, rfl⟩ := h2
  exact ⟨by rw [t9, t10], M, ZR, R, el, et, rf, rw, rs, ns, rfl, hS.both (Q := Q) (RUN.rf hP hX) (RSC.rf M R)⟩)
theorem st_about {w : Int32} : STEP G Y_X10_about Y_X11_about [.int w] k cc cc := step_mk (fun Q N Z F nm Ef T E A M ZR R el et rf rw rs ns h0 hS => by
  obtain ⟨hP, hX, hE, hf, hN, hG, b6, b4, b8, b9, b10, s1, s5⟩ := hS.1
  obtain ⟨rI, rE, rN, rG⟩ := hS.2.1
  obtain ⟨t1, t2, t3, t4, t5, t6, t7, t8, t9, t10, t11, t12, t13, t14, t15⟩ := hS.2.2
  refine ⟨4, 0, 0, _, by omega, by omega, by omega, fun h => by omega, c_about hP hX hN b6, fun v1 w1 h => ?_⟩
  obtain ⟨rfl, T', rfl, hT, hX'⟩ := h
  refine ⟨Q, N, Z, F, nm, Ef, T', E, rfl, rfl, h0, 4, _, by omega, fun P => r_about rN (by omega), fun P v2 w2 h2 => ?_⟩
  obtain ⟨rfl, M', R', rfl, hsc⟩ := h2
  exact ⟨by rw [t2, t3, t4, t5], M', ZR, R', el, et, rf, rw, rs, ns, rfl, hS.both (Q := Q) ⟨EQS.rf Q N Z F, hT, hP, hX'⟩ hsc⟩)
theorem st_ask {q ow : Int32} : STEP G Y_X10_ask Y_X11_ask [.int q, .int ow] k cc cc := step_mk (fun Q N Z F nm Ef T E A M ZR R el et rf rw rs ns h0 hS => by
  obtain ⟨hP, hX, hE, hf, hN, hG, b6, b4, b8, b9, b10, s1, s5⟩ := hS.1
  obtain ⟨rI, rE, rN, rG⟩ := hS.2.1
  obtain ⟨t1, t2, t3, t4, t5, t6, t7, t8, t9, t10, t11, t12, t13, t14, t15⟩ := hS.2.2
  obtain ⟨m1, m2, m3⟩ := ms0_le hP
  refine ⟨7, mc0 N Z F, ms0 N Z F, _, by omega, by omega, by omega, fun h => by have := m3 (by omega); omega, c_ask hP hX hE hf hN hG b6, fun v1 w1 h => ?_⟩
  obtain ⟨rfl, Q', N', Z', F', T', rfl, hR⟩ := h
  refine ⟨Q', N', Z', F', nm, Ef, T', E, rfl, hR.1.2.1 8 (by omega), by rw [hR.1.2.2.1 0 (by omega) (by omega)]; exact h0, 4, _, by omega, fun P => r_ask rI rE rN rG hG.bd (by omega), fun P v2 w2 h2 => ?_⟩
  obtain ⟨rfl, M', R', rfl, hsc⟩ := h2
  exact ⟨by rw [t1, t2, t3, t4, t5, t6], M', ZR, R', el, et, rf, rw, rs, ns, rfl, hS.both hR hsc⟩)
theorem st_entry {e w : Int32} : STEP G Y_X10_entry Y_X11_entry [.int e, .int w] k cc cc := step_mk (fun Q N Z F nm Ef T E A M ZR R el et rf rw rs ns h0 hS => by
  obtain ⟨hP, hX, hE, hf, hN, hG, b6, b4, b8, b9, b10, s1, s5⟩ := hS.1
  obtain ⟨rI, rE, rN, rG⟩ := hS.2.1
  obtain ⟨t1, t2, t3, t4, t5, t6, t7, t8, t9, t10, t11, t12, t13, t14, t15⟩ := hS.2.2
  refine ⟨3, 0, 0, _, by omega, by omega, by omega, fun h => by omega, c_entry hP hX hE hf, fun v1 w1 h => ?_⟩
  obtain ⟨rfl, T', rfl, hT, hX'⟩ := h
  refine ⟨Q, N, Z, F, nm, Ef, T', E, rfl, rfl, h0, 2, _, by omega, fun P => r_entry rE, fun P v2 w2 h2 => ?_⟩
  obtain ⟨rfl, R', rfl, hsc⟩ := h2
  exact ⟨by rw [t3, t6], M, ZR, R', el, et, rf, rw, rs, ns, rfl, hS.both (Q := Q) ⟨EQS.rf Q N Z F, hT, hP, hX'⟩ hsc⟩)
theorem st_far {e : Int32} : STEP G Y_X10_far Y_X11_far [.int e] k cc cc := step_mk (fun Q N Z F nm Ef T E A M ZR R el et rf rw rs ns h0 hS => by
  obtain ⟨hP, hX, hE, hf, hN, hG, b6, b4, b8, b9, b10, s1, s5⟩ := hS.1
  obtain ⟨rI, rE, rN, rG⟩ := hS.2.1
  obtain ⟨t1, t2, t3, t4, t5, t6, t7, t8, t9, t10, t11, t12, t13, t14, t15⟩ := hS.2.2
  obtain ⟨m1, m2, m3⟩ := ms0_le hP
  refine ⟨7, mc0 N Z F, ms0 N Z F, _, by omega, by omega, by omega, fun h => by have := m3 (by omega); omega, c_far hP hX hE hf hN, fun v1 w1 h => ?_⟩
  obtain ⟨rfl, Q', N', Z', F', T', rfl, hR⟩ := h
  refine ⟨Q', N', Z', F', nm, Ef, T', E, rfl, hR.1.2.1 8 (by omega), by rw [hR.1.2.2.1 0 (by omega) (by omega)]; exact h0, 3, _, by omega, fun P => r_far rI rE rN, fun P v2 w2 h2 => ?_⟩
  obtain ⟨rfl, M', R', rfl, hsc⟩ := h2
  exact ⟨by rw [t1, t3, t6], M', ZR, R', el, et, rf, rw, rs, ns, rfl, hS.both hR hsc⟩)
theorem st_nearest {i w : Int32} : STEP G Y_X10_nearest Y_X11_nearest [.int i, .int w] k cc cc := step_mk (fun Q N Z F nm Ef T E A M ZR R el et rf rw rs ns h0 hS => by
  obtain ⟨hP, hX, hE, hf, hN, hG, b6, b4, b8, b9, b10, s1, s5⟩ := hS.1
  obtain ⟨t1, t2, t3, t4, t5, t6, t7, t8, t9, t10, t11, t12, t13, t14, t15⟩ := hS.2.2
  refine ⟨1, 0, 0, _, by omega, by omega, by omega, fun h => by omega, c_nearest b8, fun v1 w1 h => ?_⟩
  obtain ⟨rfl, rfl⟩ := h
  refine ⟨Q, N, Z, F, nm, Ef, T, E, rfl, rfl, h0, 1, _, by omega, fun P => r_nearest (by omega), fun P v2 w2 h2 => ?_⟩
  obtain ⟨rfl, rfl⟩ := h2
  exact ⟨by rw [t11, t12, t13], M, ZR, R, el, et, rf, rw, rs, ns, rfl, hS.both (Q := Q) (RUN.rf hP hX) (RSC.rf M R)⟩)
theorem st_way {i w : Int32} : STEP G Y_X10_way Y_X11_way [.int i, .int w] k cc cc := step_mk (fun Q N Z F nm Ef T E A M ZR R el et rf rw rs ns h0 hS => by
  obtain ⟨hP, hX, hE, hf, hN, hG, b6, b4, b8, b9, b10, s1, s5⟩ := hS.1
  obtain ⟨t1, t2, t3, t4, t5, t6, t7, t8, t9, t10, t11, t12, t13, t14, t15⟩ := hS.2.2
  have e9 : N 9 = M 37 := t14.1
  refine ⟨1, 0, 0, _, by omega, by omega, by omega, fun h => by omega, c_way b9, fun v1 w1 h => ?_⟩
  obtain ⟨rfl, rfl⟩ := h
  refine ⟨Q, N, Z, F, nm, Ef, T, E, rfl, rfl, h0, 1, _, by omega, fun P => r_way (by omega), fun P v2 w2 h2 => ?_⟩
  obtain ⟨rfl, rfl⟩ := h2
  exact ⟨tl3_congr (by omega) e9 t14.2, M, ZR, R, el, et, rf, rw, rs, ns, rfl, hS.both (Q := Q) (RUN.rf hP hX) (RSC.rf M R)⟩)
theorem st_like {i w : Int32} : STEP G Y_X10_like Y_X11_like [.int i, .int w] k cc cc := step_mk (fun Q N Z F nm Ef T E A M ZR R el et rf rw rs ns h0 hS => by
  obtain ⟨hP, hX, hE, hf, hN, hG, b6, b4, b8, b9, b10, s1, s5⟩ := hS.1
  obtain ⟨t1, t2, t3, t4, t5, t6, t7, t8, t9, t10, t11, t12, t13, t14, t15⟩ := hS.2.2
  have e10 : M 41 = min (N 10) 1000 := t15.1
  have hj : ∀ j, j < M 41 → F 31 j = nI (65536 * (R 27 j).toNatClampNeg + 256 * (R 28 j).toNatClampNeg + (R 29 j).toNatClampNeg) ∧ (R 27 j).toNatClampNeg < 256 ∧ (R 28 j).toNatClampNeg < 256 ∧ (R 29 j).toNatClampNeg < 256 ∧ nI (R 27 j).toNatClampNeg = R 27 j ∧ nI (R 28 j).toNatClampNeg = R 28 j ∧ nI (R 29 j).toNatClampNeg = R 29 j := by
    intro j hj
    obtain ⟨e, f, v, x1, x2, x3, x4, x5, x6, x7⟩ := t15.2 j hj
    rw [x5, x6, x7, nI_clamp (show e < 2 ^ 31 by omega), nI_clamp (show f < 2 ^ 31 by omega), nI_clamp (show v < 2 ^ 31 by omega)]
    exact ⟨x4, x1, x2, x3, rfl, rfl, rfl⟩
  refine ⟨1, 0, 0, _, by omega, by omega, by omega, fun h => by omega, c_like (E' := fun j => (R 27 j).toNatClampNeg) (F' := fun j => (R 28 j).toNatClampNeg) (C' := fun j => (R 29 j).toNatClampNeg) b10 (fun j h1 h2 => by obtain ⟨y1, y2, y3, y4, -⟩ := hj j (by omega); exact ⟨y1, y2, y3, y4⟩), fun v1 w1 h => ?_⟩
  obtain ⟨rfl, rfl⟩ := h
  refine ⟨Q, N, Z, F, nm, Ef, T, E, rfl, rfl, h0, 1, _, by omega, fun P => r_like (by omega), fun P v2 w2 h2 => ?_⟩
  obtain ⟨rfl, rfl⟩ := h2
  exact ⟨tl3_congr (by omega) e10.symm (fun j h1 => (hj j h1).2.2.2.2), M, ZR, R, el, et, rf, rw, rs, ns, rfl, hS.both (Q := Q) (RUN.rf hP hX) (RSC.rf M R)⟩)
theorem st_count {w : Int32} : STEP G Y_X10_count Y_X11_count [.int w] k cc cc := step_mk (fun Q N Z F nm Ef T E A M ZR R el et rf rw rs ns h0 hS => by
  obtain ⟨hP, hX, hE, hf, hN, hG, b6, b4, b8, b9, b10, s1, s5⟩ := hS.1
  obtain ⟨rI, rE, rN, rG⟩ := hS.2.1
  obtain ⟨t1, t2, t3, t4, t5, t6, t7, t8, t9, t10, t11, t12, t13, t14, t15⟩ := hS.2.2
  obtain ⟨m1, m2, m3⟩ := ms0_le hP
  refine ⟨5, mc0 N Z F, ms0 N Z F, _, by omega, by omega, by omega, fun h => by have := m3 (by omega); omega, c_count hP hE hf hG, fun v1 w1 h => ?_⟩
  obtain ⟨rfl, Q', N', Z', F', rfl, hE', hP'⟩ := h
  refine ⟨Q', N', Z', F', nm, Ef, T, E, rfl, hE'.2.1 8 (by omega), by rw [hE'.2.2.1 0 (by omega) (by omega)]; exact h0, 1, _, by omega, fun P => r_count rI rE.1 rG, fun P v2 w2 h2 => ?_⟩
  obtain ⟨rfl, rfl⟩ := h2
  exact ⟨by rw [t1, t5, t6, t7], M, ZR, R, el, et, rf, rw, rs, ns, rfl, hS.both ⟨hE', EQT.rf T, hP', hX.eqs hE'⟩ (RSC.rf M R)⟩)
end S1

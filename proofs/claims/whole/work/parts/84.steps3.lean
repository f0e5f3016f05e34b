/-! one call on both objects: names, registers, lists -/
theorem XInv.snoc {N : Nat → Nat} {F : Nat → Nat → Int32} {T : List TR} {rn : TR} (h : XInv N F T) (hr : TOK (F 12) (N 5) (N 1) (cCT N F) rn) : XInv N F (T ++ [rn]) := by
  intro i r hi
  rcases Nat.lt_or_ge i T.length with hl | hl
  · rw [List.getElem?_append_left hl] at hi; exact h i r hi
  · rw [List.getElem?_append_right hl] at hi
    rcases Nat.eq_zero_or_pos (i - T.length) with e | e
    · rw [e] at hi; cases hi; exact hr
    · rw [show i - T.length = (i - T.length - 1) + 1 by omega] at hi; cases hi
theorem ENT.app {E : List ER} {T : List TR} {en : Nat} {er eo es : Nat → Int32} {el : Nat → Nat} {et : Nat → Nat → Int32} {rn : TR} (h : ENT E T en er eo es el et) : ENT E (T ++ [rn]) en er eo es el et := by
  obtain ⟨h1, h2, h3⟩ := h
  refine ⟨h1, h2, fun e he => ?_⟩
  obtain ⟨x, r, g1, g2, g3⟩ := h3 e he
  exact ⟨x, r, g1, gs_app g2, g3⟩
theorem RGI.cg {Z Z' : Nat → Int32} {rf rw : Nat → Nat} {rs : Nat → Int32} (h : RGI Z rf rw rs) (hz : ∀ i, 10 ≤ i → Z' i = Z i) : RGI Z' rf rw rs := by
  intro j hj
  rw [hz _ (by omega), hz _ (by omega), hz _ (by omega)]
  exact h j hj
theorem wcount_le (C : CT) (X Y : Nat → Int32) (xc yc : Nat) : ∀ f n : Nat, wcount C X Y xc yc f n ≤ n + f := by
  intro f
  induction f with
  | zero => intro n; exact Nat.le_refl _
  | succ f ih =>
    intro n
    unfold wcount
    split
    · omega
    · have := ih (n + 1); omega
theorem wyEq.sy {a b : WT} (h : wyEq a b) : wyEq b a := ⟨h.1.symm, fun k hk => by obtain ⟨x, y, z⟩ := h.2 k (by rw [← h.1]; exact hk); exact ⟨x.symm, y.symm, z.symm⟩⟩
theorem wyEq.tr {a b c : WT} (h : wyEq a b) (h' : wyEq b c) : wyEq a c := ⟨h.1.trans h'.1, fun k hk => by obtain ⟨x, y, z⟩ := h'.2 k hk; obtain ⟨x', y', z'⟩ := h.2 k (by rw [h'.1]; exact hk); exact ⟨x'.trans x, y'.trans y, z'.trans z⟩⟩
theorem wyA_eq {C : CT} {hw : Nat → Int32} {en : Nat} {es : Nat → Int32} {el : Nat → Nat} {et : Nat → Nat → Int32} {ns : Option (Nat × (Nat → Int32))} {e : Int32} {a b : WT} (h : wyEq a b) : (wyA C hw en es el et ns e a).1 = (wyA C hw en es el et ns e b).1 ∧ wyEq (wyA C hw en es el et ns e a).2 (wyA C hw en es el et ns e b).2 := by
  unfold wyA
  split
  · exact ⟨rfl, h⟩
  · cases ns with
    | none => exact ⟨rfl, h⟩
    | some n =>
      dsimp only
      split
      · exact ⟨rfl, h⟩
      · exact ⟨rfl, wyEq.rf _⟩
theorem wyA_le {C : CT} {hw : Nat → Int32} {en : Nat} {es : Nat → Int32} {el : Nat → Nat} {et : Nat → Nat → Int32} {ns : Option (Nat × (Nat → Int32))} {e : Int32} {a : WT} (h : a.1 ≤ 40) : (wyA C hw en es el et ns e a).2.1 ≤ 40 := by
  unfold wyA
  split
  · exact h
  · cases ns with
    | none => exact h
    | some n =>
      dsimp only
      split
      · exact h
      · exact Nat.le_trans (wcount_le _ _ _ _ _ 40 0) (by omega)
theorem nrA_le {C : CT} {hw : Nat → Int32} {en : Nat} {er es : Nat → Int32} {el : Nat → Nat} {et : Nat → Nat → Int32} {ns : Option (Nat × (Nat → Int32))} {q lim : Int32} {s : NT} (he : en ≤ 200) (h : s.1 ≤ 200) : (nrA C hw en er es el et ns q lim s).2.1 ≤ 200 := by
  unfold nrA
  split
  · exact h
  · cases ns with
    | none => exact h
    | some n => exact Nat.le_trans (nrS_le en) he
theorem lkA_le {C : CT} {hw : Nat → Int32} {en : Nat} {er eo es : Nat → Int32} {el : Nat → Nat} {et : Nat → Nat → Int32} {rf : Nat → Nat} {q : Int32} {s : LT2} (he : en ≤ 200) (h : s.1 < 1000000) : (lkA C hw en er eo es el et rf q s).2.1 < 1000000 := by
  unfold lkA
  split
  · exact h
  · refine Nat.lt_of_le_of_lt (poS_le en) ?_
    have : en * en ≤ 200 * 200 := Nat.mul_le_mul he he
    omega
section S3
variable {G : GT} {k cc : Nat}
theorem st_name : STEP G Y_X10_name Y_X11_name [] k cc cc := step_mk (fun Q N Z F nm Ef T E A M ZR R el et rf rw rs ns h0 hS => by
  obtain ⟨hP, hX, hE, hf, hN, hG, b6, b4, b8, b9, b10, s1, s5⟩ := hS.1
  obtain ⟨rI, rE, rN, rG⟩ := hS.2.1
  obtain ⟨t1, t2, t3, t4, t5, t6, t7, t8, t9, t10, t11, t12, t13, t14, t15⟩ := hS.2.2
  have con := c_name (G := G) (Q := Q) (N := N) (Z := Z) (F := F) (nm := nm) (Ef := Ef) (T := T) (E := E) (tail := rL G A M ZR R) b4 hP.2.2.2.2.1 hP.2.2.2.2.2
  have con2 := fun P => r_name (G := G) (A := A) (M := M) (Z := ZR) (R := R) (P := P) (tp := F 9) (by omega) (by rw [t7]; exact t8)
  rw [t3, t7] at con2
  have hZ : ∀ (J : Int32 × Int32) (i : Nat), 10 ≤ i → (va_up (va_up Z 1 J.1) 2 J.2) i = Z i := fun J i hi => by rw [va_up_ne _ _ (by omega), va_up_ne _ _ (by omega)]
  generalize jdL (F 12) (F 9) (N 4) 0 0 = J at con con2
  have h27 := rE.1
  refine ⟨3, 5, 168, _, by omega, by omega, by omega, fun h => by omega, con, fun v1 w1 h => ?_⟩
  rcases h with ⟨hJ, rfl, rfl⟩ | ⟨hJ, rfl, rn, rfl, hrn, e1, e2⟩
  · refine ⟨Q, va_up N 4 0, va_up (va_up Z 1 J.1) 2 J.2, F, nm, Ef, T, E, rfl, rfl, h0, 3, _, by omega, con2, fun P v2 w2 h2 => ?_⟩
    rcases h2 with ⟨-, rfl, M', Z', rfl, m3, m, z17, z18, z16⟩ | ⟨hJ', -⟩
    · refine ⟨rfl, M', Z', R, el, et, rf, rw, rs, ns, rfl, ⟨hP, hX, hE, hf, hN, hG.cg (hZ J), b6, by show 0 ≤ 200; omega, b8, b9, b10, by show N 1 ≤ k + 1; omega, by show N 5 ≤ k + 1; omega⟩, ?_, ?_, t2, t3, t4, ?_, ?_, m3, fun j hj => absurd hj (Nat.not_lt_zero j), z17, z18, ?_, t12, t13, ?_, ?_⟩
      · refine ⟨(rI.cg (m 4 (by omega)) (m 8 (by omega)) (fun _ _ _ => rfl)).1, ⟨by rw [m 27 (by omega)]; exact rE.1, fun e he => rE.2 e (by rw [← m 27 (by omega)]; exact he)⟩, ?_, rG⟩
        unfold RNM
        rw [z16]; exact rN
      · show (M' 4, R 4, R 5, R 6) = _
        rw [m 4 (by omega)]; exact t1
      · rw [m 12 (by omega)]; exact t5
      · rw [m 27 (by omega)]; exact t6
      · rw [m 33 (by omega)]; exact t11
      · rw [m 37 (by omega)]; exact t14
      · rw [m 41 (by omega)]; exact t15
    · exact absurd hJ' hJ
  · refine ⟨Q, va_up N 4 0, va_up (va_up Z 1 J.1) 2 J.2, F, some (rn.1 0), Ef, T ++ [rn], E, rfl, rfl, h0, 3, _, by omega, con2, fun P v2 w2 h2 => ?_⟩
    rcases h2 with ⟨hJ', -⟩ | ⟨-, rfl, M', Z', R', rfl, m3, m, z17, z18, z16, hx, r, r12, r11⟩
    · exact absurd hJ hJ'
    · have m' : ∀ i, i ≠ 3 → M' i = M i := m
      refine ⟨rfl, M', Z', R', el, et, rf, rw, rs, some (N 4, tdF (F 9) (N 4)), rfl, ⟨hP, hX.snoc hrn, ?_, hf, Or.inr ⟨T.length, rn, gs_last, rfl, by rw [e1, e2]⟩, hG.cg (hZ J), b6, by show 0 ≤ 200; omega, b8, b9, b10, by show N 1 ≤ k + 1; omega, by show N 5 ≤ k + 1; omega⟩, ⟨?_, ⟨?_, fun e he => ?_⟩, Or.inr ⟨z16, _, _, rfl, hx⟩, fun j hj => ?_⟩, ?_, ?_, ?_, ?_, ?_, ?_, m3, fun j hj => absurd hj (Nat.not_lt_zero j), z17, z18, ?_, ?_, ?_, ?_, ?_⟩
      · rw [r 19 (by omega) (by omega) (by omega), r 20 (by omega) (by omega) (by omega), r 21 (by omega) (by omega) (by omega)]; exact hE.app
      · exact (rI.cg (m 4 (by omega)) (m 8 (by omega)) (fun i a b => r i (by omega) (by omega) (by omega))).1
      · rw [m 27 (by omega)]; exact h27
      · rw [m 27 (by omega)] at he
        obtain ⟨x1, x2⟩ := rE.2 e he
        refine ⟨⟨by rw [r12 e (by omega)]; exact x1.1, x1.2.1, x1.2.2.1, fun i hi => ?_, x1.2.2.2.2⟩, by rw [r 21 (by omega) (by omega) (by omega)]; exact x2⟩
        have := x1.2.1
        rw [show tx R' e i = tx R e i from r11 _ (by omega)]
        exact x1.2.2.2.1 i hi
      · rw [r 16 (by omega) (by omega) (by omega), r 17 (by omega) (by omega) (by omega), r 18 (by omega) (by omega) (by omega)]; exact rG j hj
      · show (M' 4, R' 4, R' 5, R' 6) = _
        rw [m 4 (by omega), r 4 (by omega) (by omega) (by omega), r 5 (by omega) (by omega) (by omega), r 6 (by omega) (by omega) (by omega)]; exact t1
      · rw [r 1 (by omega) (by omega) (by omega)]; exact t2
      · rw [r 2 (by omega) (by omega) (by omega)]; exact t3
      · rw [r 10 (by omega) (by omega) (by omega)]; exact t4
      · rw [m 12 (by omega)]; exact t5
      · rw [m 27 (by omega)]; exact t6
      · rw [m 33 (by omega)]; exact t11
      · rw [r 22 (by omega) (by omega) (by omega)]; exact t12
      · rw [r 23 (by omega) (by omega) (by omega)]; exact t13
      · rw [m 37 (by omega), r 24 (by omega) (by omega) (by omega), r 25 (by omega) (by omega) (by omega), r 26 (by omega) (by omega) (by omega)]; exact t14
      · rw [m 41 (by omega), r 27 (by omega) (by omega) (by omega), r 28 (by omega) (by omega) (by omega), r 29 (by omega) (by omega) (by omega)]; exact t15)
theorem okRul_n {q a b : Int32} (h : okRul q a b = true) : ∃ j a' b' : Nat, j < 4 ∧ q = nI j ∧ a = nI a' ∧ b = nI b' ∧ a' ≤ b' ∧ b' ≤ 200 := by
  unfold okRul at h
  rw [Bool.and_eq_true] at h
  have h1 := of_decide_eq_true h.1
  have h2 := of_decide_eq_true h.2
  rcases ix3 q (n := 4) (by omega) with hq | hq | ⟨j, hj, rfl⟩
  · exact absurd (Or.inl hq) h1
  · exact absurd (Or.inr (show 4 ≤ q from hq)) h1
  · obtain ⟨a', ha, rfl⟩ := nI_of (fun z => h2 (Or.inl z))
    have hb0 : ¬ b < 0 := fun z => h2 (Or.inr (Or.inl (Int32.lt_of_lt_of_le z (nI_pos' ha))))
    obtain ⟨b', hb, rfl⟩ := nI_of hb0
    refine ⟨j, a', b', hj, rfl, rfl, rfl, ?_, ?_⟩
    · exact Decidable.byContradiction (fun z => h2 (Or.inr (Or.inl (nI_lt (by omega) ha))))
    · exact Decidable.byContradiction (fun z => h2 (Or.inr (Or.inr (show nI 200 < nI b' from nI_lt (by omega) hb))))
theorem st_rule {q a b s : Int32} (hs : s = 0 ∨ s = 1) : STEP G Y_X10_rule Y_X11_rule [.int q, .int a, .int b, .int s] k cc cc := step_mk (fun Q N Z F nm Ef T E A M ZR R el et rf rw rs ns h0 hS => by
  obtain ⟨hP, hX, hE, hf, hN, hG, b6, b4, b8, b9, b10, s1, s5⟩ := hS.1
  obtain ⟨rI, rE, rN, rG⟩ := hS.2.1
  obtain ⟨t1, t2, t3, t4, t5, t6, t7, t8, t9, t10, t11, t12, t13, t14, t15⟩ := hS.2.2
  have con := c_rule (G := G) (Q := Q) (N := N) (Z := Z) (F := F) (nm := nm) (Ef := Ef) (P := poolE G T E (rL G A M ZR R)) (q := q) (a := a) (b := b) hs
  have con2 := fun P => r_rule (G := G) (A := A) (M := M) (Z := ZR) (R := R) (P := P) (q := q) (a := a) (b := b) hs
  by_cases hc : okRul q a b = true
  · rw [if_pos hc, if_pos hc] at con
    simp only [if_pos hc] at con2
    obtain ⟨j, a', b', hj, rfl, rfl, rfl, hab, hb2⟩ := okRul_n hc
    rw [nI_clamp (show j < 2 ^ 31 by omega)] at con con2
    have hz : ∀ i, i < 10 → (va_up (va_up (va_up Z (10 + 3 * j) (nI a')) (11 + 3 * j) (nI b')) (12 + 3 * j) s) i = Z i := fun i hi => by rw [va_up_ne _ _ (by omega), va_up_ne _ _ (by omega), va_up_ne _ _ (by omega)]
    have hG' : RGI (va_up (va_up (va_up Z (10 + 3 * j) (nI a')) (11 + 3 * j) (nI b')) (12 + 3 * j) s) (va_up rf j a') (va_up rw j b') (va_up rs j s) := by
      intro i hi
      by_cases e : i = j
      · subst e
        refine ⟨?_, ?_, ?_, ?_, ?_, ?_⟩
        · rw [va_up_ne _ _ (show 10 + 3 * i ≠ 12 + 3 * i by omega), va_up_ne _ _ (show 10 + 3 * i ≠ 11 + 3 * i by omega), va_up_self, va_up_self]
        · rw [va_up_ne _ _ (show 11 + 3 * i ≠ 12 + 3 * i by omega), va_up_self, va_up_self]
        · rw [va_up_self, va_up_self]
        · rw [va_up_self, va_up_self]; exact hab
        · rw [va_up_self]; exact hb2
        · rw [va_up_self]; exact hs
      · obtain ⟨g1, g2, g3, g4, g5, g6⟩ := hG i hi
        refine ⟨?_, ?_, ?_, ?_, ?_, ?_⟩
        · rw [va_up_ne _ _ (show 10 + 3 * i ≠ 12 + 3 * j by omega), va_up_ne _ _ (show 10 + 3 * i ≠ 11 + 3 * j by omega), va_up_ne _ _ (show 10 + 3 * i ≠ 10 + 3 * j by omega), va_up_ne _ _ e]; exact g1
        · rw [va_up_ne _ _ (show 11 + 3 * i ≠ 12 + 3 * j by omega), va_up_ne _ _ (show 11 + 3 * i ≠ 11 + 3 * j by omega), va_up_ne _ _ (show 11 + 3 * i ≠ 10 + 3 * j by omega), va_up_ne _ _ e]; exact g2
        · rw [va_up_ne _ _ (show 12 + 3 * i ≠ 12 + 3 * j by omega), va_up_ne _ _ (show 12 + 3 * i ≠ 11 + 3 * j by omega), va_up_ne _ _ (show 12 + 3 * i ≠ 10 + 3 * j by omega), va_up_ne _ _ e]; exact g3
        · rw [va_up_ne _ _ e, va_up_ne _ _ e]; exact g4
        · rw [va_up_ne _ _ e]; exact g5
        · rw [va_up_ne _ _ e]; exact g6
    generalize va_up (va_up (va_up Z (10 + 3 * j) (nI a')) (11 + 3 * j) (nI b')) (12 + 3 * j) s = Z' at con hz hG'
    have hP' : PInv N Z' F := by unfold PInv; rw [hz 0 (by omega)]; exact hP
    refine ⟨1, 0, 0, _, by omega, by omega, by omega, fun h => by omega, con, fun v1 w1 h => ?_⟩
    obtain ⟨rfl, rfl⟩ := h
    refine ⟨Q, N, Z', F, nm, Ef, T, E, rfl, rfl, h0, 2, _, by omega, con2, fun P v2 w2 h2 => ?_⟩
    obtain ⟨rfl, rfl⟩ := h2
    have hr : ∀ i, i ≠ 16 → i ≠ 17 → i ≠ 18 → (va_up (va_up (va_up R 16 (upd (R 16) j (nI a'))) 17 (upd (R 17) j (nI b'))) 18 (upd (R 18) j s)) i = R i := fun i h1 h2 h3 => by rw [va_up_ne _ _ h3, va_up_ne _ _ h2, va_up_ne _ _ h1]
    have hR' : RRG (va_up (va_up (va_up R 16 (upd (R 16) j (nI a'))) 17 (upd (R 17) j (nI b'))) 18 (upd (R 18) j s)) (va_up rf j a') (va_up rw j b') (va_up rs j s) := by
      intro i hi
      show upd (R 16) j (nI a') i = nI (va_up rf j a' i) ∧ upd (R 17) j (nI b') i = nI (va_up rw j b' i) ∧ upd (R 18) j s i = va_up rs j s i ∧ _
      by_cases e : i = j
      · subst e
        rw [pk_us, pk_us, pk_us, va_up_self, va_up_self, va_up_self]
        exact ⟨rfl, rfl, rfl, hs⟩
      · rw [pk_un e, pk_un e, pk_un e, va_up_ne _ _ e, va_up_ne _ _ e, va_up_ne _ _ e]
        exact rG i hi
    generalize hRe : va_up (va_up (va_up R 16 (upd (R 16) j (nI a'))) 17 (upd (R 17) j (nI b'))) 18 (upd (R 18) j s) = R' at hr hR'
    have r : ∀ i, i ≠ 16 → i ≠ 17 → i ≠ 18 → R' i = R i := hr
    refine ⟨rfl, M, ZR, R', el, et, va_up rf j a', va_up rw j b', va_up rs j s, ns, rfl, ⟨hP', hX, ?_, hf, hN, hG', b6, b4, b8, b9, b10, by omega, by omega⟩, ⟨(rI.cg rfl rfl (fun i x y => r i (by omega) (by omega) (by omega))).1, ⟨rE.1, fun e he => ?_⟩, ?_, hR'⟩, ?_, ?_, ?_, ?_, t5, t6, t7, ?_, ?_, ?_, t11, ?_, ?_, ?_, ?_⟩
    · rw [r 19 (by omega) (by omega) (by omega), r 20 (by omega) (by omega) (by omega), r 21 (by omega) (by omega) (by omega)]; exact hE
    · obtain ⟨x1, x2⟩ := rE.2 e he
      exact ⟨x1.cg (r 11 (by omega) (by omega) (by omega)) (r 12 (by omega) (by omega) (by omega)), by rw [r 21 (by omega) (by omega) (by omega)]; exact x2⟩
    · rcases rN with a3 | ⟨z, l, t, e, hx⟩
      · exact Or.inl a3
      · exact Or.inr ⟨z, l, t, e, hx.cg (r 11 (by omega) (by omega) (by omega)) (r 12 (by omega) (by omega) (by omega))⟩
    · show (M 4, R' 4, R' 5, R' 6) = _
      rw [r 4 (by omega) (by omega) (by omega), r 5 (by omega) (by omega) (by omega), r 6 (by omega) (by omega) (by omega)]; exact t1
    · rw [r 1 (by omega) (by omega) (by omega)]; exact t2
    · rw [r 2 (by omega) (by omega) (by omega)]; exact t3
    · rw [r 10 (by omega) (by omega) (by omega)]; exact t4
    · rw [r 3 (by omega) (by omega) (by omega)]; exact t8
    · rw [hz 1 (by omega)]; exact t9
    · rw [hz 2 (by omega)]; exact t10
    · rw [r 22 (by omega) (by omega) (by omega)]; exact t12
    · rw [r 23 (by omega) (by omega) (by omega)]; exact t13
    · rw [r 24 (by omega) (by omega) (by omega), r 25 (by omega) (by omega) (by omega), r 26 (by omega) (by omega) (by omega)]; exact t14
    · rw [r 27 (by omega) (by omega) (by omega), r 28 (by omega) (by omega) (by omega), r 29 (by omega) (by omega) (by omega)]; exact t15
  · rw [if_neg hc, if_neg hc] at con
    simp only [if_neg hc] at con2
    refine ⟨1, 0, 0, _, by omega, by omega, by omega, fun h => by omega, con, fun v1 w1 h => ?_⟩
    obtain ⟨rfl, rfl⟩ := h
    refine ⟨Q, N, Z, F, nm, Ef, T, E, rfl, rfl, h0, 2, _, by omega, con2, fun P v2 w2 h2 => ?_⟩
    obtain ⟨rfl, rfl⟩ := h2
    exact ⟨rfl, M, ZR, R, el, et, rf, rw, rs, ns, rfl, hS.both (Q := Q) (RUN.rf hP hX) (RSC.rf M R)⟩)
theorem st_strike {e : Int32} : STEP G Y_X10_strike Y_X11_strike [.int e] k cc cc := step_mk (fun Q N Z F nm Ef T E A M ZR R el et rf rw rs ns h0 hS => by
  obtain ⟨hP, hX, hE, hf, hN, hG, b6, b4, b8, b9, b10, s1, s5⟩ := hS.1
  obtain ⟨rI, rE, rN, rG⟩ := hS.2.1
  obtain ⟨t1, t2, t3, t4, t5, t6, t7, t8, t9, t10, t11, t12, t13, t14, t15⟩ := hS.2.2
  have con := c_strike (G := G) (Q := Q) (Z := Z) (F := F) (nm := nm) (tail := rL G A M ZR R) (e := e) hE hf
  have con2 := fun P => r_strike (G := G) (A := A) (M := M) (Z := ZR) (R := R) (P := P) (e := e) rE.1
  rw [t6] at con2
  refine ⟨2, 0, 0, _, by omega, by omega, by omega, fun h => by omega, con, fun v1 w1 h => ?_⟩
  rcases h with ⟨hs, rfl, rfl⟩ | ⟨hs, rfl, E', rfl, hE', hf'⟩
  · simp only [if_neg (show ¬ stnd (N 7) (R 21) e = true by rw [hs]; exact Bool.noConfusion)] at con2
    refine ⟨Q, N, Z, F, nm, Ef, T, E, rfl, rfl, h0, 2, _, by omega, con2, fun P v2 w2 h2 => ?_⟩
    obtain ⟨rfl, rfl⟩ := h2
    exact ⟨rfl, M, ZR, R, el, et, rf, rw, rs, ns, rfl, hS.both (Q := Q) (RUN.rf hP hX) (RSC.rf M R)⟩
  · simp only [if_pos hs] at con2
    refine ⟨Q, N, Z, F, nm, Ef, T, E', rfl, rfl, h0, 2, _, by omega, con2, fun P v2 w2 h2 => ?_⟩
    obtain ⟨rfl, rfl⟩ := h2
    refine ⟨rfl, M, ZR, _, el, et, rf, rw, rs, ns, rfl, ⟨hP, hX, hE', hf', hN, hG, b6, b4, b8, b9, b10, by omega, by omega⟩, ⟨(rI.cg rfl rfl (fun i x y => va_up_ne _ _ (by omega))).1, ⟨rE.1, fun i hi => ?_⟩, ?_, rG⟩, t1, t2, t3, t4, t5, t6, t7, t8, t9, t10, t11, t12, t13, t14, t15⟩
    · obtain ⟨x1, x2⟩ := rE.2 i hi
      refine ⟨x1.cg rfl rfl, ?_⟩
      show upd (R 21) e.toNatClampNeg 0 i = 0 ∨ upd (R 21) e.toNatClampNeg 0 i = 1
      by_cases ei : i = e.toNatClampNeg
      · rw [ei, pk_us]; exact Or.inl rfl
      · rw [pk_un ei]; exact x2
    · rcases rN with a3 | ⟨z, l, t, e, hx⟩
      · exact Or.inl a3
      · exact Or.inr ⟨z, l, t, e, hx.cg rfl rfl⟩)
theorem st_near {q lim : Int32} : STEP G Y_X10_near Y_X11_near [.int q, .int lim] k cc cc := step_mk (fun Q N Z F nm Ef T E A M ZR R el et rf rw rs ns h0 hS => by
  obtain ⟨hP, hX, hE, hf, hN, hG, b6, b4, b8, b9, b10, s1, s5⟩ := hS.1
  obtain ⟨rI, rE, rN, rG⟩ := hS.2.1
  obtain ⟨t1, t2, t3, t4, t5, t6, t7, t8, t9, t10, t11, t12, t13, t14, t15⟩ := hS.2.2
  obtain ⟨m1, m2, m3⟩ := ms0_le hP
  have con := c_near (G := G) (Q := Q) (tail := rL G A M ZR R) (q := q) (lim := lim) hP hX hE hf hN
  have con2 := fun P => r_near (G := G) (A := A) (M := M) (Z := ZR) (R := R) (P := P) (q := q) (lim := lim) rI rE rN
  have hle := nrA_le (C := cCT N F) (hw := F 12) (er := R 19) (es := R 21) (el := el) (et := et) (ns := ns) (q := q) (lim := lim) (s := (N 8, F 24, F 25)) hE.2.1 b8
  rw [t1, t3, t6, t11, t12, t13] at con2
  generalize nrA (cCT N F) (F 12) (N 7) (R 19) (R 21) el et ns q lim (N 8, F 24, F 25) = B at con con2 hle
  obtain ⟨v, s⟩ := B
  dsimp only at con con2 hle
  refine ⟨7, mc0 N Z F, ms0 N Z F, _, by omega, by omega, by omega, fun h => by have := m3 (by omega); omega, con, fun v1 w1 h => ?_⟩
  obtain ⟨rfl, Q', N', Z', F', T', rfl, hR⟩ := h
  refine ⟨Q', N', Z', F', nm, Ef, T', E, rfl, hR.1.2.1 8 (by omega), by rw [hR.1.2.2.1 0 (by omega) (by omega)]; exact h0, 3, _, by omega, con2, fun P v2 w2 h2 => ?_⟩
  obtain ⟨rfl, M', R', rfl, m, m33, r, r22, r23⟩ := h2
  have h1 : SCl k (nrN N s) Z (nrF F s) nm Ef T E (R 19) (R 20) (R 21) el et rf rw rs ns := ⟨hP, hX, hE, hf, hN, hG, b6, b4, hle, b9, b10, s1, s5⟩
  have h3 : TIE (nrN N s) Z (nrF F s) M' ZR R' := by
    refine ⟨?_, ?_, ?_, ?_, ?_, ?_, ?_, ?_, t9, t10, m33, r22, r23, ?_, ?_⟩
    · show (M' 4, R' 4, R' 5, R' 6) = _
      rw [m 4 (by omega) (by omega) (by omega), r 4 (by omega) (by omega) (by omega) (by omega) (by omega), r 5 (by omega) (by omega) (by omega) (by omega) (by omega), r 6 (by omega) (by omega) (by omega) (by omega) (by omega)]; exact t1
    · rw [r 1 (by omega) (by omega) (by omega) (by omega) (by omega)]; exact t2
    · rw [r 2 (by omega) (by omega) (by omega) (by omega) (by omega)]; exact t3
    · rw [r 10 (by omega) (by omega) (by omega) (by omega) (by omega)]; exact t4
    · rw [m 12 (by omega) (by omega) (by omega)]; exact t5
    · rw [m 27 (by omega) (by omega) (by omega)]; exact t6
    · rw [m 3 (by omega) (by omega) (by omega)]; exact t7
    · rw [r 3 (by omega) (by omega) (by omega) (by omega) (by omega)]; exact t8
    · rw [m 37 (by omega) (by omega) (by omega), r 24 (by omega) (by omega) (by omega) (by omega) (by omega), r 25 (by omega) (by omega) (by omega) (by omega) (by omega), r 26 (by omega) (by omega) (by omega) (by omega) (by omega)]; exact t14
    · rw [m 41 (by omega) (by omega) (by omega), r 27 (by omega) (by omega) (by omega) (by omega) (by omega), r 28 (by omega) (by omega) (by omega) (by omega) (by omega), r 29 (by omega) (by omega) (by omega) (by omega) (by omega)]; exact t15
  refine ⟨rfl, M', ZR, R', el, et, rf, rw, rs, ns, rfl, ?_, hS.2.1.cg (m 4 (by omega) (by omega) (by omega)) (m 8 (by omega) (by omega) (by omega)) (m 27 (by omega) (by omega) (by omega)) (fun i hi => r i (by omega) (by omega) (by omega) (by omega) (by omega)), h3.run hR.1⟩
  rw [r 19 (by omega) (by omega) (by omega) (by omega) (by omega), r 20 (by omega) (by omega) (by omega) (by omega) (by omega), r 21 (by omega) (by omega) (by omega) (by omega) (by omega)]
  exact (h1.run hR).up)
theorem st_ways {e : Int32} : STEP G Y_X10_ways Y_X11_ways [.int e] k cc cc := step_mk (fun Q N Z F nm Ef T E A M ZR R el et rf rw rs ns h0 hS => by
  obtain ⟨hP, hX, hE, hf, hN, hG, b6, b4, b8, b9, b10, s1, s5⟩ := hS.1
  obtain ⟨rI, rE, rN, rG⟩ := hS.2.1
  obtain ⟨t1, t2, t3, t4, t5, t6, t7, t8, t9, t10, t11, t12, t13, t14, t15⟩ := hS.2.2
  obtain ⟨m1, m2, m3⟩ := ms0_le hP
  have con := c_ways (G := G) (Q := Q) (tail := rL G A M ZR R) (e := e) hP hX hE hf hN
  have con2 := fun P => r_ways (G := G) (A := A) (M := M) (Z := ZR) (R := R) (P := P) (e := e) rI rE rN
  rw [t1, t3, t6] at con2
  obtain ⟨w1, w2⟩ := wyA_eq (C := cCT N F) (hw := F 12) (en := N 7) (es := R 21) (el := el) (et := et) (ns := ns) (e := e) t14
  have hle := wyA_le (C := cCT N F) (hw := F 12) (en := N 7) (es := R 21) (el := el) (et := et) (ns := ns) (e := e) (a := (N 9, F 27, F 28, F 29)) b9
  refine ⟨7, mc0 N Z F, ms0 N Z F, _, by omega, by omega, by omega, fun h => by have := m3 (by omega); omega, con, fun v1 w1' h => ?_⟩
  obtain ⟨rfl, Q', N', Z', F', T', s, rfl, hs, hR⟩ := h
  refine ⟨Q', N', Z', F', nm, Ef, T', E, rfl, hR.1.2.1 8 (by omega), by rw [hR.1.2.2.1 0 (by omega) (by omega)]; exact h0, 3, _, by omega, con2, fun P v2 w2' h2 => ?_⟩
  obtain ⟨rfl, M', R', rfl, ⟨m, r⟩, hy⟩ := h2
  have h1 : SCl k (wyNN N s) Z (wyF F s) nm Ef T E (R 19) (R 20) (R 21) el et rf rw rs ns := ⟨hP, hX, hE, hf, hN, hG, b6, b4, b8, by show s.1 ≤ 40; rw [hs.1]; exact hle, b10, s1, s5⟩
  have h3 : TIE (wyNN N s) Z (wyF F s) M' ZR R' := by
    refine ⟨?_, ?_, ?_, ?_, ?_, ?_, ?_, ?_, t9, t10, ?_, ?_, ?_, (hs.tr w2).tr hy.sy, ?_⟩
    · show (M' 4, R' 4, R' 5, R' 6) = _
      rw [m 4 (by omega) (by omega) (by omega), r 4 (by omega) (by omega) (by omega) (by omega) (by omega) (by omega), r 5 (by omega) (by omega) (by omega) (by omega) (by omega) (by omega), r 6 (by omega) (by omega) (by omega) (by omega) (by omega) (by omega)]; exact t1
    · rw [r 1 (by omega) (by omega) (by omega) (by omega) (by omega) (by omega)]; exact t2
    · rw [r 2 (by omega) (by omega) (by omega) (by omega) (by omega) (by omega)]; exact t3
    · rw [r 10 (by omega) (by omega) (by omega) (by omega) (by omega) (by omega)]; exact t4
    · rw [m 12 (by omega) (by omega) (by omega)]; exact t5
    · rw [m 27 (by omega) (by omega) (by omega)]; exact t6
    · rw [m 3 (by omega) (by omega) (by omega)]; exact t7
    · rw [r 3 (by omega) (by omega) (by omega) (by omega) (by omega) (by omega)]; exact t8
    · rw [m 33 (by omega) (by omega) (by omega)]; exact t11
    · rw [r 22 (by omega) (by omega) (by omega) (by omega) (by omega) (by omega)]; exact t12
    · rw [r 23 (by omega) (by omega) (by omega) (by omega) (by omega) (by omega)]; exact t13
    · rw [m 41 (by omega) (by omega) (by omega), r 27 (by omega) (by omega) (by omega) (by omega) (by omega) (by omega), r 28 (by omega) (by omega) (by omega) (by omega) (by omega) (by omega), r 29 (by omega) (by omega) (by omega) (by omega) (by omega) (by omega)]; exact t15
  refine ⟨w1, M', ZR, R', el, et, rf, rw, rs, ns, rfl, ?_, hS.2.1.cg (m 4 (by omega) (by omega) (by omega)) (m 8 (by omega) (by omega) (by omega)) (m 27 (by omega) (by omega) (by omega)) (fun i hi => r i (by omega) (by omega) (by omega) (by omega) (by omega) (by omega)), h3.run hR.1⟩
  rw [r 19 (by omega) (by omega) (by omega) (by omega) (by omega) (by omega), r 20 (by omega) (by omega) (by omega) (by omega) (by omega) (by omega), r 21 (by omega) (by omega) (by omega) (by omega) (by omega) (by omega)]
  exact (h1.run hR).up)
theorem st_likes {q : Int32} : STEP G Y_X10_likes Y_X11_likes [.int q] k cc cc := step_mk (fun Q N Z F nm Ef T E A M ZR R el et rf rw rs ns h0 hS => by
  obtain ⟨hP, hX, hE, hf, hN, hG, b6, b4, b8, b9, b10, s1, s5⟩ := hS.1
  obtain ⟨rI, rE, rN, rG⟩ := hS.2.1
  obtain ⟨t1, t2, t3, t4, t5, t6, t7, t8, t9, t10, t11, t12, t13, t14, t15⟩ := hS.2.2
  obtain ⟨m1, m2, m3⟩ := ms0_le hP
  have con := c_likes (G := G) (Q := Q) (nm := nm) (tail := rL G A M ZR R) (q := q) hP hX hE hf hG
  have con2 := fun P => r_likes (G := G) (A := A) (M := M) (Z := ZR) (R := R) (P := P) (q := q) (s := (N 10, F 31)) rI rE rG hG.bd t15
  rw [t1, t3, t6] at con2
  have hle := lkA_le (C := cCT N F) (hw := F 12) (er := R 19) (eo := R 20) (es := R 21) (el := el) (et := et) (rf := rf) (q := q) (s := (N 10, F 31)) hE.2.1 b10
  generalize lkA (cCT N F) (F 12) (N 7) (R 19) (R 20) (R 21) el et rf q (N 10, F 31) = B at con con2 hle
  obtain ⟨v, s⟩ := B
  dsimp only at con con2 hle
  refine ⟨7, mc0 N Z F, ms0 N Z F, _, by omega, by omega, by omega, fun h => by have := m3 (by omega); omega, con, fun v1 w1' h => ?_⟩
  obtain ⟨rfl, Q', N', Z', F', T', rfl, hR⟩ := h
  refine ⟨Q', N', Z', F', nm, Ef, T', E, rfl, hR.1.2.1 8 (by omega), by rw [hR.1.2.2.1 0 (by omega) (by omega)]; exact h0, 3, _, by omega, con2, fun P v2 w2' h2 => ?_⟩
  obtain ⟨rfl, M', R', rfl, m, r, hl⟩ := h2
  have h1 : SCl k (pkN N s) Z (pkF F s) nm Ef T E (R 19) (R 20) (R 21) el et rf rw rs ns := ⟨hP, hX, hE, hf, hN, hG, b6, b4, b8, b9, hle, s1, s5⟩
  have h3 : TIE (pkN N s) Z (pkF F s) M' ZR R' := by
    refine ⟨?_, ?_, ?_, ?_, ?_, ?_, ?_, ?_, t9, t10, ?_, ?_, ?_, ?_, hl⟩
    · show (M' 4, R' 4, R' 5, R' 6) = _
      rw [m 4 (by omega) (by omega) (by omega), r 4 (by omega) (by omega) (by omega) (by omega) (by omega) (by omega), r 5 (by omega) (by omega) (by omega) (by omega) (by omega) (by omega), r 6 (by omega) (by omega) (by omega) (by omega) (by omega) (by omega)]; exact t1
    · rw [r 1 (by omega) (by omega) (by omega) (by omega) (by omega) (by omega)]; exact t2
    · rw [r 2 (by omega) (by omega) (by omega) (by omega) (by omega) (by omega)]; exact t3
    · rw [r 10 (by omega) (by omega) (by omega) (by omega) (by omega) (by omega)]; exact t4
    · rw [m 12 (by omega) (by omega) (by omega)]; exact t5
    · rw [m 27 (by omega) (by omega) (by omega)]; exact t6
    · rw [m 3 (by omega) (by omega) (by omega)]; exact t7
    · rw [r 3 (by omega) (by omega) (by omega) (by omega) (by omega) (by omega)]; exact t8
    · rw [m 33 (by omega) (by omega) (by omega)]; exact t11
    · rw [r 22 (by omega) (by omega) (by omega) (by omega) (by omega) (by omega)]; exact t12
    · rw [r 23 (by omega) (by omega) (by omega) (by omega) (by omega) (by omega)]; exact t13
    · rw [m 37 (by omega) (by omega) (by omega), r 24 (by omega) (by omega) (by omega) (by omega) (by omega) (by omega), r 25 (by omega) (by omega) (by omega) (by omega) (by omega) (by omega), r 26 (by omega) (by omega) (by omega) (by omega) (by omega) (by omega)]; exact t14
  refine ⟨rfl, M', ZR, R', el, et, rf, rw, rs, ns, rfl, ?_, hS.2.1.cg (m 4 (by omega) (by omega) (by omega)) (m 8 (by omega) (by omega) (by omega)) (m 27 (by omega) (by omega) (by omega)) (fun i hi => r i (by omega) (by omega) (by omega) (by omega) (by omega) (by omega)), h3.run hR.1⟩
  rw [r 19 (by omega) (by omega) (by omega) (by omega) (by omega) (by omega), r 20 (by omega) (by omega) (by omega) (by omega) (by omega) (by omega), r 21 (by omega) (by omega) (by omega) (by omega) (by omega) (by omega)]
  exact (h1.run hR).up)
end S3

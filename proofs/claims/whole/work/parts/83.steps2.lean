/-! one call on both objects: tables, tape -/
theorem TPR.less {f g : Nat → Int32} {n m : Nat} (h : TPR f g n) (hm : m ≤ n) : TPR f g m := fun j hj => h j (by omega)
theorem upd_id {f : Nat → Int32} {k : Nat} {x : Int32} (h : f k = x) : upd f k x = f := by
  funext j
  by_cases e : j = k
  · subst e; rw [pk_us, h]
  · rw [pk_un e]
theorem va_up_id {α : Type} {f : Nat → α} {k : Nat} {x : α} (h : f k = x) : va_up f k x = f := by
  funext j
  by_cases e : j = k
  · subst e; rw [va_up_self, h]
  · rw [va_up_ne _ _ e]
theorem XInv.seen {N : Nat → Nat} {F : Nat → Nat → Int32} {T : List TR} {g : Nat → Int32} (h : XInv N F T) (h5 : N 5 < 1000) : XInv (va_up N 5 (N 5 + 1)) (va_up F 12 g) T := by
  intro i r hr
  obtain ⟨h1, h2, h3, h4, h5', h6, h7, h8⟩ := h i r hr
  refine ⟨h1, h2, h3, h4, ?_, fun q => ?_, h7, h8⟩
  · rcases h5' with h | ⟨a, ha, e⟩
    · exact Or.inl h
    · exact Or.inr ⟨a, by show a ≤ N 5 + 1; omega, e⟩
  · exfalso
    have q : tSt r = nI (N 5 + 1) := q
    rcases h5' with h | ⟨a, ha, e⟩
    · rw [h] at q; exact nI_nm1 (by omega) q.symm
    · rw [e, nI_eq (by omega) (by omega)] at q; omega
theorem XInv.conf {N : Nat → Nat} {F : Nat → Nat → Int32} {T : List TR} {C' : CT} (h : XInv N F T) (h1' : N 1 < 1000) : ∀ (i : Nat) (r : TR), T[i]? = some r → TOK (F 12) (N 5) (N 1 + 1) C' r := by
  intro i r hr
  obtain ⟨h1, h2, h3, h4, h5, h6, h7, h8⟩ := h i r hr
  refine ⟨h1, h2, h3, h4, h5, h6, ?_, fun q => ?_⟩
  · rcases h7 with h | ⟨a, ha, e⟩
    · exact Or.inl h
    · exact Or.inr ⟨a, by omega, e⟩
  · exfalso
    rcases h7 with h | ⟨a, ha, e⟩
    · rw [h] at q; exact nI_nm1 (by omega) q.symm
    · rw [e, nI_eq (by omega) (by omega)] at q; omega
theorem SRf.cg' {M M' : Nat → Nat} {ZR : Nat → Int32} {R R' : Nat → Nat → Int32} {el : Nat → Nat} {et : Nat → Nat → Int32} {rf rw : Nat → Nat} {rs : Nat → Int32} {ns : Option (Nat × (Nat → Int32))} (h : SRf M ZR R el et rf rw rs ns) (h4 : M' 4 = M 4) (h8 : M' 8 = M 8) (h27 : M' 27 = M 27) (hr : ∀ i, (4 ≤ i ∧ i ≤ 9) ∨ (11 ≤ i ∧ i ≤ 12) ∨ (16 ≤ i ∧ i ≤ 21) → R' i = R i) : SRf M' ZR R' el et rf rw rs ns := by
  obtain ⟨a1, a2, a3, a4⟩ := h
  refine ⟨(a1.cg h4 h8 (fun i x y => hr i (by omega))).1, ⟨by rw [h27]; exact a2.1, fun e he => ?_⟩, ?_, fun j hj => ?_⟩
  · rw [h27] at he
    obtain ⟨b1, b2⟩ := a2.2 e he
    exact ⟨b1.cg (hr 11 (by omega)) (hr 12 (by omega)), by rw [hr 21 (by omega)]; exact b2⟩
  · rcases a3 with a3 | ⟨z, l, t, e, hx⟩
    · exact Or.inl a3
    · exact Or.inr ⟨z, l, t, e, hx.cg (hr 11 (by omega)) (hr 12 (by omega))⟩
  · rw [hr 16 (by omega), hr 17 (by omega), hr 18 (by omega)]; exact a4 j hj
theorem conS_f {C : CT} {p q c : Int32} (h : (conS C p q c).2.2 = false) : (conS C p q c).2.1 = C := by
  unfold conS at h ⊢
  split
  · rename_i h1
    rw [if_pos h1] at h
    split
    · rename_i h2
      rw [if_pos h2] at h
      unfold forgetS at h ⊢
      split
      · rfl
      · rename_i h3; rw [h3] at h; cases h
    · rename_i h2
      rw [if_neg h2] at h
      unfold tellS at h ⊢
      split
      · rename_i h3; rw [h3] at h; cases h
      · rename_i h3
        rw [h3] at h
        split
        · rfl
        · rename_i h4
          dsimp only at h
          rw [if_neg h4] at h
          cases h
  · rfl
theorem conS_n {C : CT} {p q c : Int32} : (conS C p q c).2.1.1 ≤ C.1 + 1 := by
  unfold conS
  split
  · split
    · unfold forgetS
      split
      · exact Nat.le_succ _
      · show C.1 - 1 ≤ C.1 + 1; omega
    · unfold tellS
      split
      · exact Nat.le_succ _
      · split
        · exact Nat.le_succ _
        · exact Nat.le_refl _
  · exact Nat.le_succ _
section S2
variable {G : GT} {k cc : Nat}
theorem st_end {n : Int32} : STEP G Y_X10_end Y_X11_end [.int n] k cc cc := step_mk (fun Q N Z F nm Ef T E A M ZR R el et rf rw rs ns h0 hS => by
  obtain ⟨hP, hX, hE, hf, hN, hG, b6, b4, b8, b9, b10, s1, s5⟩ := hS.1
  obtain ⟨t1, t2, t3, t4, t5, t6, t7, t8, t9, t10, t11, t12, t13, t14, t15⟩ := hS.2.2
  have con := c_end (G := G) (Q := Q) (N := N) (Z := Z) (F := F) (nm := nm) (Ef := Ef) (P := poolE G T E (rL G A M ZR R)) (n := n) b4
  have con2 := fun P => r_end (G := G) (A := A) (M := M) (Z := ZR) (R := R) (P := P) (n := n) (by omega)
  rw [t7] at con2
  by_cases hc : n < 0 ∨ nI (N 4) < n
  · rw [if_pos hc] at con
    simp only [if_pos hc] at con2
    refine ⟨0, 0, 0, _, by omega, by omega, by omega, fun h => by omega, con, fun v1 w1 h => ?_⟩
    obtain ⟨rfl, rfl⟩ := h
    refine ⟨Q, N, Z, F, nm, Ef, T, E, rfl, rfl, h0, 0, _, by omega, con2, fun P v2 w2 h2 => ?_⟩
    obtain ⟨rfl, rfl⟩ := h2
    exact ⟨rfl, M, ZR, R, el, et, rf, rw, rs, ns, rfl, hS.both (Q := Q) (RUN.rf hP hX) (RSC.rf M R)⟩
  · rw [if_neg hc] at con
    simp only [if_neg hc] at con2
    obtain ⟨j, hj, rfl⟩ := nI_of (fun h => hc (Or.inl h))
    rw [nI_clamp hj] at con con2
    have hle : j ≤ N 4 := Decidable.byContradiction (fun q => hc (Or.inr (nI_lt (by omega) hj)))
    refine ⟨0, 0, 0, _, by omega, by omega, by omega, fun h => by omega, con, fun v1 w1 h => ?_⟩
    obtain ⟨rfl, rfl⟩ := h
    refine ⟨Q, va_up N 4 j, Z, F, nm, Ef, T, E, rfl, rfl, h0, 0, _, by omega, con2, fun P v2 w2 h2 => ?_⟩
    obtain ⟨rfl, rfl⟩ := h2
    exact ⟨rfl, va_up M 3 j, ZR, R, el, et, rf, rw, rs, ns, rfl, ⟨hP, hX, hE, hf, hN, hG, b6, by show j ≤ 200; omega, b8, b9, b10, by show N 1 ≤ k + 1; omega, by show N 5 ≤ k + 1; omega⟩, hS.2.1.cg rfl rfl rfl (fun _ _ => rfl), t1, t2, t3, t4, t5, t6, rfl, t8.less hle, t9, t10, t11, t12, t13, t14, t15⟩)
theorem st_script {x s : Int32} : STEP G Y_X10_script Y_X11_script [.int x, .int s] k cc cc := step_mk (fun Q N Z F nm Ef T E A M ZR R el et rf rw rs ns h0 hS => by
  obtain ⟨hP, hX, hE, hf, hN, hG, b6, b4, b8, b9, b10, s1, s5⟩ := hS.1
  obtain ⟨t1, t2, t3, t4, t5, t6, t7, t8, t9, t10, t11, t12, t13, t14, t15⟩ := hS.2.2
  have con := c_script (G := G) (Q := Q) (N := N) (Z := Z) (F := F) (nm := nm) (Ef := Ef) (P := poolE G T E (rL G A M ZR R)) (x := x) (s := s)
  have con2 := fun P => r_script (G := G) (A := A) (M := M) (Z := ZR) (R := R) (P := P) (x := x) (s := s)
  by_cases hc : okScr x s = true
  · rw [if_pos hc, if_pos hc] at con
    simp only [if_pos hc] at con2
    refine ⟨3, 0, 0, _, by omega, by omega, by omega, fun h => by omega, con, fun v1 w1 h => ?_⟩
    obtain ⟨rfl, rfl⟩ := h
    refine ⟨Q, N, Z, _, nm, Ef, T, E, rfl, rfl, h0, 2, _, by omega, con2, fun P v2 w2 h2 => ?_⟩
    obtain ⟨rfl, rfl⟩ := h2
    refine ⟨by rw [t2], M, ZR, _, el, et, rf, rw, rs, ns, rfl, ⟨hP, hX, hE, hf, hN, hG, b6, b4, b8, b9, b10, by omega, by omega⟩, hS.2.1.cg rfl rfl rfl (fun i hi => va_up_ne _ _ (by omega)), t1, ?_, t3, t4, t5, t6, t7, t8, t9, t10, t11, t12, t13, t14, t15⟩
    show upd (R 1) x.toNatClampNeg s = upd (F 11) x.toNatClampNeg s
    rw [t2]
  · rw [if_neg hc, if_neg hc] at con
    simp only [if_neg hc] at con2
    refine ⟨3, 0, 0, _, by omega, by omega, by omega, fun h => by omega, con, fun v1 w1 h => ?_⟩
    obtain ⟨rfl, rfl⟩ := h
    refine ⟨Q, N, Z, F, nm, Ef, T, E, rfl, rfl, h0, 2, _, by omega, con2, fun P v2 w2 h2 => ?_⟩
    obtain ⟨rfl, rfl⟩ := h2
    exact ⟨rfl, M, ZR, R, el, et, rf, rw, rs, ns, rfl, hS.both (Q := Q) (RUN.rf hP hX) (RSC.rf M R)⟩)
theorem st_seen {x s : Int32} (hk : k < 512) : STEP G Y_X10_seen Y_X11_seen [.int x, .int s] k cc cc := step_mk (fun Q N Z F nm Ef T E A M ZR R el et rf rw rs ns h0 hS => by
  obtain ⟨hP, hX, hE, hf, hN, hG, b6, b4, b8, b9, b10, s1, s5⟩ := hS.1
  obtain ⟨t1, t2, t3, t4, t5, t6, t7, t8, t9, t10, t11, t12, t13, t14, t15⟩ := hS.2.2
  have con := c_seen (G := G) (Q := Q) (N := N) (Z := Z) (F := F) (nm := nm) (Ef := Ef) (P := poolE G T E (rL G A M ZR R)) (x := x) (s := s)
  have con2 := fun P => r_seen (G := G) (A := A) (M := M) (Z := ZR) (R := R) (P := P) (x := x) (s := s)
  by_cases hc : okHow x s = true
  · simp only [if_pos hc] at con2
    by_cases hc2 : F 12 x.toNatClampNeg = s
    · rw [if_pos hc, if_neg (fun h => h.2 hc2)] at con
      refine ⟨3, 0, 0, _, by omega, by omega, by omega, fun h => by omega, con, fun v1 w1 h => ?_⟩
      obtain ⟨rfl, rfl⟩ := h
      refine ⟨Q, N, Z, F, nm, Ef, T, E, rfl, rfl, h0, 2, _, by omega, con2, fun P v2 w2 h2 => ?_⟩
      obtain ⟨rfl, rfl⟩ := h2
      refine ⟨by rw [t3], M, ZR, R, el, et, rf, rw, rs, ns, ?_, hS.both (Q := Q) (RUN.rf hP hX) (RSC.rf M R)⟩
      rw [upd_id (by rw [t3]; exact hc2), va_up_id rfl]
    · rw [if_pos hc, if_pos ⟨hc, hc2⟩] at con
      refine ⟨3, 0, 0, _, by omega, by omega, by omega, fun h => by omega, con, fun v1 w1 h => ?_⟩
      obtain ⟨rfl, rfl⟩ := h
      refine ⟨Q, va_up N 5 (N 5 + 1), Z, _, nm, Ef, T, E, rfl, rfl, h0, 2, _, by omega, con2, fun P v2 w2 h2 => ?_⟩
      obtain ⟨rfl, rfl⟩ := h2
      obtain ⟨p1, p2, p3, p4, p5, p6⟩ := hP
      refine ⟨by rw [t3], M, ZR, _, el, et, rf, rw, rs, ns, rfl, ⟨⟨p1, p2, p3, p4, p5, by show N 5 + 1 < 1000; omega⟩, hX.seen p6, hE, hf, hN, hG, b6, b4, b8, b9, b10, by show N 1 ≤ k + 1; omega, by show N 5 + 1 ≤ k + 1; omega⟩, hS.2.1.cg rfl rfl rfl (fun i hi => va_up_ne _ _ (by omega)), t1, t2, ?_, t4, t5, t6, t7, t8, t9, t10, t11, t12, t13, t14, t15⟩
      show upd (R 2) x.toNatClampNeg s = upd (F 12) x.toNatClampNeg s
      rw [t3]
  · rw [if_neg hc, if_neg (fun h => hc h.1)] at con
    simp only [if_neg hc] at con2
    refine ⟨3, 0, 0, _, by omega, by omega, by omega, fun h => by omega, con, fun v1 w1 h => ?_⟩
    obtain ⟨rfl, rfl⟩ := h
    refine ⟨Q, N, Z, F, nm, Ef, T, E, rfl, rfl, h0, 2, _, by omega, con2, fun P v2 w2 h2 => ?_⟩
    obtain ⟨rfl, rfl⟩ := h2
    exact ⟨rfl, M, ZR, R, el, et, rf, rw, rs, ns, rfl, hS.both (Q := Q) (RUN.rf hP hX) (RSC.rf M R)⟩)
theorem st_allow {s : Int32} : STEP G Y_X10_allow Y_X11_allow [.int s] k cc cc := step_mk (fun Q N Z F nm Ef T E A M ZR R el et rf rw rs ns h0 hS => by
  obtain ⟨hP, hX, hE, hf, hN, hG, b6, b4, b8, b9, b10, s1, s5⟩ := hS.1
  obtain ⟨t1, t2, t3, t4, t5, t6, t7, t8, t9, t10, t11, t12, t13, t14, t15⟩ := hS.2.2
  have con := c_allow (G := G) (Q := Q) (N := N) (Z := Z) (F := F) (nm := nm) (Ef := Ef) (P := poolE G T E (rL G A M ZR R)) (s := s) b6
  have con2 := fun P => r_allow (G := G) (A := A) (M := M) (Z := ZR) (R := R) (P := P) (s := s) (by omega)
  rw [t4, t5] at con2
  by_cases hc : setB s = true ∧ ¬ (inB (N 6) (F 14) s = true ∨ 8 ≤ N 6)
  · rw [if_pos hc] at con
    simp only [if_pos hc] at con2
    refine ⟨1, 0, 0, _, by omega, by omega, by omega, fun h => by omega, con, fun v1 w1 h => ?_⟩
    obtain ⟨rfl, rfl⟩ := h
    refine ⟨Q, va_up N 6 (N 6 + 1), Z, _, nm, Ef, T, E, rfl, rfl, h0, 1, _, by omega, con2, fun P v2 w2 h2 => ?_⟩
    obtain ⟨rfl, rfl⟩ := h2
    have h8 : ¬ 8 ≤ N 6 := fun h => hc.2 (Or.inr h)
    exact ⟨rfl, va_up M 12 (N 6 + 1), ZR, _, el, et, rf, rw, rs, ns, rfl, ⟨hP, hX, hE, hf, hN, hG, by show N 6 + 1 ≤ 8; omega, b4, b8, b9, b10, by show N 1 ≤ k + 1; omega, by show N 5 ≤ k + 1; omega⟩, hS.2.1.cg' rfl rfl rfl (fun i hi => va_up_ne _ _ (by omega)), t1, t2, t3, rfl, rfl, t6, t7, t8, t9, t10, t11, t12, t13, t14, t15⟩
  · rw [if_neg hc] at con
    simp only [if_neg hc] at con2
    refine ⟨1, 0, 0, _, by omega, by omega, by omega, fun h => by omega, con, fun v1 w1 h => ?_⟩
    obtain ⟨rfl, rfl⟩ := h
    refine ⟨Q, N, Z, F, nm, Ef, T, E, rfl, rfl, h0, 1, _, by omega, con2, fun P v2 w2 h2 => ?_⟩
    obtain ⟨rfl, rfl⟩ := h2
    exact ⟨rfl, M, ZR, R, el, et, rf, rw, rs, ns, rfl, hS.both (Q := Q) (RUN.rf hP hX) (RSC.rf M R)⟩)
theorem st_feed {a b c d e : Int32} : STEP G Y_X10_feed Y_X11_feed [.int a, .int b, .int c, .int d, .int e] k cc cc := step_mk (fun Q N Z F nm Ef T E A M ZR R el et rf rw rs ns h0 hS => by
  obtain ⟨hP, hX, hE, hf, hN, hG, b6, b4, b8, b9, b10, s1, s5⟩ := hS.1
  obtain ⟨t1, t2, t3, t4, t5, t6, t7, t8, t9, t10, t11, t12, t13, t14, t15⟩ := hS.2.2
  have con := c_feed (G := G) (Q := Q) (N := N) (Z := Z) (F := F) (nm := nm) (Ef := Ef) (P := poolE G T E (rL G A M ZR R)) (a := a) (b := b) (c := c) (d := d) (e := e) b4
  have con2 := fun P => r_feed (G := G) (A := A) (M := M) (Z := ZR) (R := R) (P := P) (a := a) (b := b) (c := c) (d := d) (e := e) (by omega)
  rw [t7] at con2
  by_cases hc : N 4 ≤ 180
  · rw [if_pos hc, if_pos hc, if_pos hc] at con
    simp only [if_pos hc] at con2
    refine ⟨1, 0, 0, _, by omega, by omega, by omega, fun h => by omega, con, fun v1 w1 h => ?_⟩
    obtain ⟨rfl, rfl⟩ := h
    refine ⟨Q, va_up N 4 (N 4 + 20), Z, _, nm, Ef, T, E, rfl, rfl, h0, 1, _, by omega, con2, fun P v2 w2 h2 => ?_⟩
    obtain ⟨rfl, M', R', rfl, hT, m3, r3⟩ := h2
    have m : ∀ i, i ≠ 3 → M' i = M i := hT.1
    have r : ∀ i, i ≠ 3 → R' i = R i := hT.2
    refine ⟨rfl, M', ZR, R', el, et, rf, rw, rs, ns, rfl, ⟨hP, hX, ?_, hf, hN, hG, b6, by show N 4 + 20 ≤ 200; omega, b8, b9, b10, by show N 1 ≤ k + 1; omega, by show N 5 ≤ k + 1; omega⟩, hS.2.1.cg (m 4 (by omega)) (m 8 (by omega)) (m 27 (by omega)) (fun i hi => r i (by omega)), ?_, ?_, ?_, ?_, ?_, ?_, m3, ?_, t9, t10, ?_, ?_, ?_, ?_, ?_⟩
    · rw [r 19 (by omega), r 20 (by omega), r 21 (by omega)]; exact hE
    · show (M' 4, R' 4, R' 5, R' 6) = _
      rw [m 4 (by omega), r 4 (by omega), r 5 (by omega), r 6 (by omega)]; exact t1
    · rw [r 1 (by omega)]; exact t2
    · rw [r 2 (by omega)]; exact t3
    · rw [r 10 (by omega)]; exact t4
    · rw [m 12 (by omega)]; exact t5
    · rw [m 27 (by omega)]; exact t6
    · rw [r3]; exact t8.feed
    · rw [m 33 (by omega)]; exact t11
    · rw [r 22 (by omega)]; exact t12
    · rw [r 23 (by omega)]; exact t13
    · rw [m 37 (by omega), r 24 (by omega), r 25 (by omega), r 26 (by omega)]; exact t14
    · rw [m 41 (by omega), r 27 (by omega), r 28 (by omega), r 29 (by omega)]; exact t15
  · rw [if_neg hc, if_neg hc, if_neg hc] at con
    simp only [if_neg hc] at con2
    refine ⟨1, 0, 0, _, by omega, by omega, by omega, fun h => by omega, con, fun v1 w1 h => ?_⟩
    obtain ⟨rfl, rfl⟩ := h
    refine ⟨Q, N, Z, F, nm, Ef, T, E, rfl, rfl, h0, 1, _, by omega, con2, fun P v2 w2 h2 => ?_⟩
    obtain ⟨rfl, M', R', rfl, hT, m3, r3⟩ := h2
    refine ⟨rfl, M', ZR, R', el, et, rf, rw, rs, ns, rfl, hS.both (Q := Q) (RUN.rf hP hX) ⟨fun i h1 h2 => ?_, fun i h1 h2 h3 => ?_⟩⟩
    · by_cases e : i = 3
      · subst e; rw [m3, t7]
      · exact hT.1 i e
    · by_cases e : i = 3
      · subst e; exact r3
      · exact hT.2 i e)
theorem st_confuse {p q c : Int32} (hk : k < 512) : STEP G Y_X10_confuse Y_X11_confuse [.int p, .int q, .int c] k cc (cc + 1) := step_mk (fun Q N Z F nm Ef T E A M ZR R el et rf rw rs ns h0 hS => by
  obtain ⟨hP, hX, hE, hf, hN, hG, b6, b4, b8, b9, b10, s1, s5⟩ := hS.1
  obtain ⟨rI, rE, rN, rG⟩ := hS.2.1
  obtain ⟨t1, t2, t3, t4, t5, t6, t7, t8, t9, t10, t11, t12, t13, t14, t15⟩ := hS.2.2
  have con := c_confuse (G := G) (Q := Q) (N := N) (Z := Z) (F := F) (nm := nm) (Ef := Ef) (P := poolE G T E (rL G A M ZR R)) (p := p) (q := q) (c := c) hP.1.1
  have con2 := fun P => r_confuse (G := G) (A := A) (M := M) (Z := ZR) (R := R) (P := P) (p := p) (q := q) (c := c) rI
  have hok := conS_ok (p := p) (q := q) (c := c) hP.1
  have hff := conS_f (C := cCT N F) (p := p) (q := q) (c := c)
  have hnn := conS_n (C := cCT N F) (p := p) (q := q) (c := c)
  rw [t1] at con2
  generalize conS (cCT N F) p q c = S at con con2 hok hff hnn
  obtain ⟨v, ⟨n', f1, f2, f3⟩, ch⟩ := S
  dsimp only at con con2 hok hff hnn
  obtain ⟨p1, p2, p3, p4, p5, p6⟩ := hP
  refine ⟨2, 0, 0, _, by omega, by omega, by omega, fun h => by omega, con, fun v1 w1 h => ?_⟩
  obtain ⟨rfl, rfl⟩ := h
  refine ⟨Q, va_up (va_up N 0 n') 1 (if ch = true then N 1 + 1 else N 1), Z, va_up (va_up (va_up F 1 f1) 2 f2) 3 f3, nm, Ef, T, E, rfl, rfl, by show n' ≤ cc + 1; have : n' ≤ N 0 + 1 := hnn; omega, 3, _, by omega, con2, fun P v2 w2 h2 => ?_⟩
  obtain ⟨rfl, M', R', rfl, hC, hI', hch⟩ := h2
  have m : ∀ i, i ≠ 4 → i ≠ 8 → M' i = M i := hch.1
  have r : ∀ i, i < 4 ∨ 9 < i → R' i = R i := hch.2
  have hP' : PInv (va_up (va_up N 0 n') 1 (if ch = true then N 1 + 1 else N 1)) Z (va_up (va_up (va_up F 1 f1) 2 f2) 3 f3) := by
    cases ch with
    | true =>
      refine ⟨hok, p2, fun q => ?_, ?_, by show N 1 + 1 < 1000; omega, p6⟩
      · exfalso
        have q : Z 0 = nI (N 1 + 1) := q
        rcases p4 with h | ⟨a, ha, e⟩
        · rw [h] at q; exact nI_nm1 (by omega) q.symm
        · rw [e, nI_eq (by omega) (by omega)] at q; omega
      · rcases p4 with h | ⟨a, ha, e⟩
        · exact Or.inl h
        · exact Or.inr ⟨a, by show a ≤ N 1 + 1; omega, e⟩
    | false =>
      have e := hff rfl
      have e0 : n' = N 0 := congrArg (fun z : CT => z.1) e
      have e1 : f1 = F 1 := congrArg (fun z : CT => z.2.1) e
      have e2 : f2 = F 2 := congrArg (fun z : CT => z.2.2.1) e
      have e3 : f3 = F 3 := congrArg (fun z : CT => z.2.2.2) e
      subst e0; subst e1; subst e2; subst e3
      exact ⟨p1, p2, p3, p4, p5, p6⟩
  have hX' : XInv (va_up (va_up N 0 n') 1 (if ch = true then N 1 + 1 else N 1)) (va_up (va_up (va_up F 1 f1) 2 f2) 3 f3) T := by
    cases ch with
    | true => exact hX.conf (C' := (n', f1, f2, f3)) p5
    | false =>
      have e := hff rfl
      have e0 : n' = N 0 := congrArg (fun z : CT => z.1) e
      have e1 : f1 = F 1 := congrArg (fun z : CT => z.2.1) e
      have e2 : f2 = F 2 := congrArg (fun z : CT => z.2.2.1) e
      have e3 : f3 = F 3 := congrArg (fun z : CT => z.2.2.2) e
      subst e0; subst e1; subst e2; subst e3
      exact hX
  refine ⟨rfl, M', ZR, R', el, et, rf, rw, rs, ns, rfl, ⟨hP', hX', ?_, hf, hN, hG, b6, b4, b8, b9, b10, ?_, by show N 5 ≤ k + 1; omega⟩, ?_, hC, ?_, ?_, ?_, ?_, ?_, ?_, ?_, t9, t10, ?_, ?_, ?_, ?_, ?_⟩
  · rw [r 19 (by omega), r 20 (by omega), r 21 (by omega)]; exact hE
  · show (if ch = true then N 1 + 1 else N 1) ≤ k + 1
    split <;> omega
  · refine ⟨hI', ⟨by rw [m 27 (by omega) (by omega)]; exact rE.1, fun e he => ?_⟩, ?_, fun j hj => ?_⟩
    · rw [m 27 (by omega) (by omega)] at he
      obtain ⟨x1, x2⟩ := rE.2 e he
      exact ⟨x1.cg (r 11 (by omega)) (r 12 (by omega)), by rw [r 21 (by omega)]; exact x2⟩
    · rcases rN with a3 | ⟨z, l, t, e, hx⟩
      · exact Or.inl a3
      · exact Or.inr ⟨z, l, t, e, hx.cg (r 11 (by omega)) (r 12 (by omega))⟩
    · rw [r 16 (by omega), r 17 (by omega), r 18 (by omega)]; exact rG j hj
  · rw [r 1 (by omega)]; exact t2
  · rw [r 2 (by omega)]; exact t3
  · rw [r 10 (by omega)]; exact t4
  · rw [m 12 (by omega) (by omega)]; exact t5
  · rw [m 27 (by omega) (by omega)]; exact t6
  · rw [m 3 (by omega) (by omega)]; exact t7
  · rw [r 3 (by omega)]; exact t8
  · rw [m 33 (by omega) (by omega)]; exact t11
  · rw [r 22 (by omega)]; exact t12
  · rw [r 23 (by omega)]; exact t13
  · rw [m 37 (by omega) (by omega), r 24 (by omega), r 25 (by omega), r 26 (by omega)]; exact t14
  · rw [m 41 (by omega) (by omega), r 27 (by omega), r 28 (by omega), r 29 (by omega)]; exact t15)
end S2

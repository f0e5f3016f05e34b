/-! the law's invariant: the class's state and the reference's, and what ties them -/
def SCl (k : Nat) (N : Nat → Nat) (Z : Nat → Int32) (F : Nat → Nat → Int32) (nm : Option Nat) (Ef : Nat → Option Nat) (T : List TR) (E : List ER) (er eo es : Nat → Int32) (el : Nat → Nat) (et : Nat → Nat → Int32) (rf rw : Nat → Nat) (rs : Nat → Int32) (ns : Option (Nat × (Nat → Int32))) : Prop :=
  PInv N Z F ∧ XInv N F T ∧ ENT E T (N 7) er eo es el et ∧ EFI E Ef ∧ NMI nm T ns ∧ RGI Z rf rw rs ∧ N 6 ≤ 8 ∧ N 4 ≤ 200 ∧ N 8 ≤ 200 ∧ N 9 ≤ 40 ∧ N 10 < 1000000 ∧ N 1 ≤ k ∧ N 5 ≤ k
def SRf (M : Nat → Nat) (ZR : Nat → Int32) (R : Nat → Nat → Int32) (el : Nat → Nat) (et : Nat → Nat → Int32) (rf rw : Nat → Nat) (rs : Nat → Int32) (ns : Option (Nat × (Nat → Int32))) : Prop := RNI M R ∧ RET M R el et ∧ RNM ZR R ns ∧ RRG R rf rw rs
def TIE (N : Nat → Nat) (Z : Nat → Int32) (F : Nat → Nat → Int32) (M : Nat → Nat) (ZR : Nat → Int32) (R : Nat → Nat → Int32) : Prop :=
  rCT M R = cCT N F ∧ R 1 = F 11 ∧ R 2 = F 12 ∧ R 10 = F 14 ∧ M 12 = N 6 ∧ M 27 = N 7 ∧ M 3 = N 4 ∧ TPR (F 9) (R 3) (N 4) ∧ ZR 17 = Z 1 ∧ ZR 18 = Z 2 ∧ M 33 = N 8 ∧ R 22 = F 24 ∧ R 23 = F 25 ∧ wyEq (N 9, F 27, F 28, F 29) (M 37, R 24, R 25, R 26) ∧ LKI (N 10, F 31) (M 41) (R 27) (R 28) (R 29)
def SY (k : Nat) (N : Nat → Nat) (Z : Nat → Int32) (F : Nat → Nat → Int32) (nm : Option Nat) (Ef : Nat → Option Nat) (T : List TR) (E : List ER) (M : Nat → Nat) (ZR : Nat → Int32) (R : Nat → Nat → Int32) (el : Nat → Nat) (et : Nat → Nat → Int32) (rf rw : Nat → Nat) (rs : Nat → Int32) (ns : Option (Nat × (Nat → Int32))) : Prop :=
  SCl k N Z F nm Ef T E (R 19) (R 20) (R 21) el et rf rw rs ns ∧ SRf M ZR R el et rf rw rs ns ∧ TIE N Z F M ZR R
section SYL
variable {k : Nat} {Q N Q' N' : Nat → Nat} {Z Z' : Nat → Int32} {F F' : Nat → Nat → Int32} {nm : Option Nat} {Ef : Nat → Option Nat} {T T' : List TR} {E : List ER} {M M' : Nat → Nat} {ZR : Nat → Int32} {R R' : Nat → Nat → Int32} {er eo es : Nat → Int32} {el : Nat → Nat} {et : Nat → Nat → Int32} {rf rw : Nat → Nat} {rs : Nat → Int32} {ns : Option (Nat × (Nat → Int32))}
theorem SCl.run (h : SCl k N Z F nm Ef T E er eo es el et rf rw rs ns) (hR : RUN Q N Z F T Q' N' Z' F' T') : SCl k N' Z' F' nm Ef T' E er eo es el et rf rw rs ns := by
  obtain ⟨-, -, h3, h4, h5, h6, b6, b4, b8, b9, b10, s1, s5⟩ := h
  obtain ⟨hS, hT, hP, hX⟩ := hR
  have hn := hS.2.2.1
  refine ⟨hP, hX, ?_, h4, h5.eqt hT, h6.eqz hS.2.2.2.1, ?_, ?_, ?_, ?_, ?_, ?_, ?_⟩
  · rw [hn 7 (by omega) (by omega)]; exact h3.eqt hT
  · rw [hn 6 (by omega) (by omega)]; exact b6
  · rw [hn 4 (by omega) (by omega)]; exact b4
  · rw [hn 8 (by omega) (by omega)]; exact b8
  · rw [hn 9 (by omega) (by omega)]; exact b9
  · rw [hn 10 (by omega) (by omega)]; exact b10
  · rw [hn 1 (by omega) (by omega)]; exact s1
  · rw [hn 5 (by omega) (by omega)]; exact s5
theorem SCl.up (h : SCl k N Z F nm Ef T E er eo es el et rf rw rs ns) : SCl (k + 1) N Z F nm Ef T E er eo es el et rf rw rs ns := by
  obtain ⟨h1, h2, h3, h4, h5, h6, b6, b4, b8, b9, b10, s1, s5⟩ := h
  exact ⟨h1, h2, h3, h4, h5, h6, b6, b4, b8, b9, b10, by omega, by omega⟩
theorem TIE.run (h : TIE N Z F M ZR R) (hS : EQS Q N Z F Q' N' Z' F') : TIE N' Z' F' M ZR R := by
  obtain ⟨h1, h2, h3, h4, h5, h6, h7, h8, h9, h10, h11, h12, h13, h14, h15⟩ := h
  have hn := hS.2.2.1
  have hz := hS.2.2.2.1
  have hf := hS.2.2.2.2
  have f : ∀ i, i = 9 ∨ i = 11 ∨ i = 12 ∨ i = 14 ∨ i = 24 ∨ i = 25 ∨ i = 27 ∨ i = 28 ∨ i = 29 ∨ i = 31 → F' i = F i := fun i hi => hf i (by omega) (by omega) (by omega) (by omega) (by omega)
  refine ⟨by rw [hS.cct.1]; exact h1, ?_, ?_, ?_, ?_, ?_, ?_, ?_, ?_, ?_, ?_, ?_, ?_, ?_, ?_⟩
  · rw [f 11 (by omega)]; exact h2
  · rw [f 12 (by omega)]; exact h3
  · rw [f 14 (by omega)]; exact h4
  · rw [hn 6 (by omega) (by omega)]; exact h5
  · rw [hn 7 (by omega) (by omega)]; exact h6
  · rw [hn 4 (by omega) (by omega)]; exact h7
  · rw [f 9 (by omega), hn 4 (by omega) (by omega)]; exact h8
  · rw [hz 1 (by omega)]; exact h9
  · rw [hz 2 (by omega)]; exact h10
  · rw [hn 8 (by omega) (by omega)]; exact h11
  · rw [f 24 (by omega)]; exact h12
  · rw [f 25 (by omega)]; exact h13
  · rw [f 27 (by omega), f 28 (by omega), f 29 (by omega), hn 9 (by omega) (by omega)]; exact h14
  · rw [f 31 (by omega), hn 10 (by omega) (by omega)]; exact h15
theorem SRf.cg (h : SRf M ZR R el et rf rw rs ns) (h4 : M' 4 = M 4) (h8 : M' 8 = M 8) (h27 : M' 27 = M 27) (hr : ∀ i, (4 ≤ i ∧ i ≤ 12) ∨ (16 ≤ i ∧ i ≤ 21) → R' i = R i) : SRf M' ZR R' el et rf rw rs ns := by
  obtain ⟨a1, a2, a3, a4⟩ := h
  refine ⟨(a1.cg h4 h8 (fun i x y => hr i (by omega))).1, ⟨by rw [h27]; exact a2.1, fun e he => ?_⟩, ?_, fun j hj => ?_⟩
  · rw [h27] at he
    obtain ⟨b1, b2⟩ := a2.2 e he
    exact ⟨b1.cg (hr 11 (by omega)) (hr 12 (by omega)), by rw [hr 21 (by omega)]; exact b2⟩
  · rcases a3 with a3 | ⟨z, l, t, e, hx⟩
    · exact Or.inl a3
    · exact Or.inr ⟨z, l, t, e, hx.cg (hr 11 (by omega)) (hr 12 (by omega))⟩
  · rw [hr 16 (by omega), hr 17 (by omega), hr 18 (by omega)]; exact a4 j hj
theorem SRf.sc (h : SRf M ZR R el et rf rw rs ns) (hs : RSC M R M' R') : SRf M' ZR R' el et rf rw rs ns :=
  h.cg (hs.1 4 (by omega) (by omega)) (hs.1 8 (by omega) (by omega)) (hs.1 27 (by omega) (by omega)) (fun i hi => hs.2 i (by omega) (by omega) (by omega))
theorem TIE.sc (h : TIE N Z F M ZR R) (hs : RSC M R M' R') : TIE N Z F M' ZR R' := by
  obtain ⟨h1, h2, h3, h4, h5, h6, h7, h8, h9, h10, h11, h12, h13, h14, h15⟩ := h
  have m : ∀ i, i ≠ 22 → i ≠ 23 → M' i = M i := hs.1
  have r : ∀ i, i ≠ 13 → i ≠ 14 → i ≠ 15 → R' i = R i := hs.2
  refine ⟨?_, ?_, ?_, ?_, ?_, ?_, ?_, ?_, h9, h10, ?_, ?_, ?_, ?_, ?_⟩
  · show (M' 4, R' 4, R' 5, R' 6) = _
    rw [m 4 (by omega) (by omega), r 4 (by omega) (by omega) (by omega), r 5 (by omega) (by omega) (by omega), r 6 (by omega) (by omega) (by omega)]; exact h1
  · rw [r 1 (by omega) (by omega) (by omega)]; exact h2
  · rw [r 2 (by omega) (by omega) (by omega)]; exact h3
  · rw [r 10 (by omega) (by omega) (by omega)]; exact h4
  · rw [m 12 (by omega) (by omega)]; exact h5
  · rw [m 27 (by omega) (by omega)]; exact h6
  · rw [m 3 (by omega) (by omega)]; exact h7
  · rw [r 3 (by omega) (by omega) (by omega)]; exact h8
  · rw [m 33 (by omega) (by omega)]; exact h11
  · rw [r 22 (by omega) (by omega) (by omega)]; exact h12
  · rw [r 23 (by omega) (by omega) (by omega)]; exact h13
  · rw [m 37 (by omega) (by omega), r 24 (by omega) (by omega) (by omega), r 25 (by omega) (by omega) (by omega), r 26 (by omega) (by omega) (by omega)]; exact h14
  · rw [m 41 (by omega) (by omega), r 27 (by omega) (by omega) (by omega), r 28 (by omega) (by omega) (by omega), r 29 (by omega) (by omega) (by omega)]; exact h15
/-- a call that changes nothing that is told -/
theorem SY.both (h : SY k N Z F nm Ef T E M ZR R el et rf rw rs ns) (hR : RUN Q N Z F T Q' N' Z' F' T') (hs : RSC M R M' R') : SY (k + 1) N' Z' F' nm Ef T' E M' ZR R' el et rf rw rs ns := by
  obtain ⟨h1, h2, h3⟩ := h
  refine ⟨?_, h2.sc hs, (h3.run hR.1).sc hs⟩
  rw [hs.2 19 (by omega) (by omega) (by omega), hs.2 20 (by omega) (by omega) (by omega), hs.2 21 (by omega) (by omega) (by omega)]
  exact (h1.run hR).up
theorem RGI.bd (h : RGI Z rf rw rs) : RBD rf rw := fun j hj => by obtain ⟨-, -, -, a, b, -⟩ := h j hj; exact ⟨a, b⟩
theorem ms0_le (hP : PInv N Z F) : mc0 N Z F ≤ 1 ∧ ms0 N Z F ≤ 14400 ∧ (N 0 ≤ 9 → ms0 N Z F ≤ 648) := by
  have h1 := newLn_le (nd_le hP.1) hP.2.1
  refine ⟨?_, ?_, fun h9 => ?_⟩
  · unfold mc0 clMc
    split
    · omega
    · split <;> omega
  · unfold ms0 clMs
    split
    · omega
    · split
      · exact h1.1
      · omega
  · have hm : (nd (cCT N F)).2 ≤ 18 := by
      have := ndS_le (cCT N F) (N 0)
      have e : nd (cCT N F) = ndS (cCT N F) (N 0) := rfl
      rw [e]
      omega
    have hmm : (nd (cCT N F)).2 * (nd (cCT N F)).2 ≤ 324 := Nat.mul_le_mul hm hm
    unfold ms0 clMs
    split
    · omega
    · split
      · unfold newLn
        split <;> omega
      · omega
end SYL
/-- the two objects stand in the world, after k calls, cc of them confuse -/
def STt (G : GT) (k cc q8 a0 : Nat) (w : va_W) : Prop := ∃ (Q N : Nat → Nat) (Z : Nat → Int32) (F : Nat → Nat → Int32) (nm : Option Nat) (Ef : Nat → Option Nat) (T : List TR) (E : List ER) (A M : Nat → Nat) (ZR : Nat → Int32) (R : Nat → Nat → Int32) (el : Nat → Nat) (et : Nat → Nat → Int32) (rf rw : Nat → Nat) (rs : Nat → Int32) (ns : Option (Nat × (Nat → Int32))), Q 8 = q8 ∧ A 0 = a0 ∧ N 0 ≤ cc ∧ w = cW G Q N Z F nm Ef (poolE G T E (rL G A M ZR R)) ∧ SY k N Z F nm Ef T E M ZR R el et rf rw rs ns
/-- one call on both: the same answer, and both stand again -/
def STEP (G : GT) (Y1 Y2 : YT) (As : List Value) (k cc cc' : Nat) : Prop := ∀ (q8 a0 : Nat) (w : va_W), STt G k cc q8 a0 w → ∃ (d1 mc1 ms1 : Nat) (f1 : Int32 → va_W → Prop) (fs : List Value), d1 ≤ 8 ∧ mc1 ≤ 5 ∧ ms1 ≤ 14404 ∧ (cc < 10 → ms1 ≤ 700) ∧ w[8]? = some (q8, .inr (10, fs)) ∧ JM G Y1 d1 mc1 ms1 (.ref q8 :: As) w (Qi f1) ∧ ∀ (v1 : Int32) (w1 : va_W), f1 v1 w1 → ∃ (w1' : va_W) (d2 : Nat) (f2 : Int32 → va_W → Prop) (gs : List Value), w1.Perm w1' ∧ d2 ≤ 8 ∧ w1'[0]? = some (a0, .inr (11, gs)) ∧ JM G Y2 d2 0 0 (.ref a0 :: As) w1' (Qi f2) ∧ ∀ (v2 : Int32) (w2 : va_W), f2 v2 w2 → v1 = v2 ∧ ∃ w2' : va_W, w2.Perm w2' ∧ STt G (k + 1) cc' q8 a0 w2'
section STE
variable {G : GT} {Y1 Y2 : YT} {As : List Value} {k cc cc' : Nat}
theorem cw_tail (Q N : Nat → Nat) (Z : Nat → Int32) (F : Nat → Nat → Int32) (nm : Option Nat) (Ef : Nat → Option Nat) (T : List TR) (E : List ER) (tail : va_W) : cW G Q N Z F nm Ef (poolE G T E tail) = cW G Q N Z F nm Ef (poolE G T E []) ++ tail := by
  show cPT G Q N Z F ++ (cRest G Q N Z F nm Ef ++ (T.flatMap (tC G) ++ (E.map eCell ++ tail))) = (cPT G Q N Z F ++ (cRest G Q N Z F nm Ef ++ (T.flatMap (tC G) ++ (E.map eCell ++ [])))) ++ tail
  simp only [List.append_assoc, List.append_nil]
theorem cw_perm (Q N : Nat → Nat) (Z : Nat → Int32) (F : Nat → Nat → Int32) (nm : Option Nat) (Ef : Nat → Option Nat) (T : List TR) (E : List ER) (tail : va_W) : (cW G Q N Z F nm Ef (poolE G T E tail)).Perm (tail ++ cW G Q N Z F nm Ef (poolE G T E [])) := by
  rw [cw_tail]
  exact List.perm_append_comm
theorem step_mk (h : ∀ (Q N : Nat → Nat) (Z : Nat → Int32) (F : Nat → Nat → Int32) (nm : Option Nat) (Ef : Nat → Option Nat) (T : List TR) (E : List ER) (A M : Nat → Nat) (ZR : Nat → Int32) (R : Nat → Nat → Int32) (el : Nat → Nat) (et : Nat → Nat → Int32) (rf rw : Nat → Nat) (rs : Nat → Int32) (ns : Option (Nat × (Nat → Int32))), N 0 ≤ cc → SY k N Z F nm Ef T E M ZR R el et rf rw rs ns →
    ∃ (d1 mc1 ms1 : Nat) (f1 : Int32 → va_W → Prop), d1 ≤ 8 ∧ mc1 ≤ 5 ∧ ms1 ≤ 14404 ∧ (cc < 10 → ms1 ≤ 700) ∧ JM G Y1 d1 mc1 ms1 (.ref (Q 8) :: As) (cW G Q N Z F nm Ef (poolE G T E (rL G A M ZR R))) (Qi f1) ∧ ∀ (v1 : Int32) (w1 : va_W), f1 v1 w1 →
      ∃ (Q' N' : Nat → Nat) (Z' : Nat → Int32) (F' : Nat → Nat → Int32) (nm' : Option Nat) (Ef' : Nat → Option Nat) (T' : List TR) (E' : List ER), w1 = cW G Q' N' Z' F' nm' Ef' (poolE G T' E' (rL G A M ZR R)) ∧ Q' 8 = Q 8 ∧ N' 0 ≤ cc' ∧
        ∃ (d2 : Nat) (f2 : va_W → Int32 → va_W → Prop), d2 ≤ 8 ∧ (∀ P : va_W, JM G Y2 d2 0 0 (.ref (A 0) :: As) (rW G A M ZR R P) (Qi (f2 P))) ∧ ∀ (P : va_W) (v2 : Int32) (w2 : va_W), f2 P v2 w2 → v1 = v2 ∧
          ∃ (M' : Nat → Nat) (ZR' : Nat → Int32) (R' : Nat → Nat → Int32) (el' : Nat → Nat) (et' : Nat → Nat → Int32) (rf' rw' : Nat → Nat) (rs' : Nat → Int32) (ns' : Option (Nat × (Nat → Int32))), w2 = rW G A M' ZR' R' P ∧ SY (k + 1) N' Z' F' nm' Ef' T' E' M' ZR' R' el' et' rf' rw' rs' ns') : STEP G Y1 Y2 As k cc cc' := by
  intro q8 a0 w hw
  obtain ⟨Q, N, Z, F, nm, Ef, T, E, A, M, ZR, R, el, et, rf, rw, rs, ns, rfl, rfl, h0, rfl, hS⟩ := hw
  obtain ⟨d1, mc1, ms1, f1, b1, b2, b3, b4, hM, hk⟩ := h Q N Z F nm Ef T E A M ZR R el et rf rw rs ns h0 hS
  refine ⟨d1, mc1, ms1, f1, _, b1, b2, b3, b4, rfl, hM, fun v1 w1 hf1 => ?_⟩
  obtain ⟨Q', N', Z', F', nm', Ef', T', E', rfl, e8, h0', d2, f2, c1, hM2, hk2⟩ := hk v1 w1 hf1
  refine ⟨rW G A M ZR R (cW G Q' N' Z' F' nm' Ef' (poolE G T' E' [])), d2, f2 (cW G Q' N' Z' F' nm' Ef' (poolE G T' E' [])), _, cw_perm _ _ _ _ _ _ _ _ _, c1, rfl, hM2 _, fun v2 w2 hf2 => ?_⟩
  obtain ⟨ev, M', ZR', R', el', et', rf', rw', rs', ns', rfl, hS'⟩ := hk2 _ v2 w2 hf2
  exact ⟨ev, _, (cw_perm Q' N' Z' F' nm' Ef' T' E' (rL G A M' ZR' R')).symm, Q', N', Z', F', nm', Ef', T', E', A, M', ZR', R', el', et', rf', rw', rs', ns', e8, rfl, h0', rfl, hS'⟩
end STE

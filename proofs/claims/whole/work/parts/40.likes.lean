/-! likes -/
def pAdd (s : Nat × (Nat → Int32)) (e f v : Nat) : Nat × (Nat → Int32) := (s.1 + 1, if s.1 < 1000 then upd s.2 s.1 (nI (65536 * e + 256 * f + v)) else s.2)
/-- the pairs of e with the next j entries -/
def piS (C : CT) (hw er eo es : Nat → Int32) (el : Nat → Nat) (et : Nat → Nat → Int32) (lim e : Nat) (s : Nat × (Nat → Int32)) : Nat → Nat × (Nat → Int32)
  | 0 => s
  | j + 1 => if ¬ es (e + 1 + j) = 0 ∧ er (e + 1 + j) = er e ∧ ¬ eo (e + 1 + j) = eo e then match lmt lim (dst C hw (el e) (et e) (el (e + 1 + j)) (et (e + 1 + j))) with
    | some v => pAdd (piS C hw er eo es el et lim e s j) e (e + 1 + j) v
    | none => piS C hw er eo es el et lim e s j
    else piS C hw er eo es el et lim e s j
theorem piS_le {C : CT} {hw er eo es : Nat → Int32} {el : Nat → Nat} {et : Nat → Nat → Int32} {lim e : Nat} {s : Nat × (Nat → Int32)} : ∀ j : Nat, (piS C hw er eo es el et lim e s j).1 ≤ s.1 + j := by
  intro j
  induction j with
  | zero => exact Nat.le_refl _
  | succ j ih =>
    unfold piS
    split
    · split
      · show _ + 1 ≤ _; omega
      · omega
    · omega
def poS (C : CT) (hw er eo es : Nat → Int32) (el : Nat → Nat) (et : Nat → Nat → Int32) (en : Nat) (q : Int32) (lim : Nat) (p0 : Nat → Int32) : Nat → Nat × (Nat → Int32)
  | 0 => (0, p0)
  | e + 1 => if ¬ es e = 0 ∧ er e = q then piS C hw er eo es el et lim e (poS C hw er eo es el et en q lim p0 e) (en - (e + 1)) else poS C hw er eo es el et en q lim p0 e
theorem poS_le {C : CT} {hw er eo es : Nat → Int32} {el : Nat → Nat} {et : Nat → Nat → Int32} {en : Nat} {q : Int32} {lim : Nat} {p0 : Nat → Int32} : ∀ e : Nat, (poS C hw er eo es el et en q lim p0 e).1 ≤ e * en := by
  intro e
  induction e with
  | zero => exact Nat.zero_le _
  | succ e ih =>
    rw [Nat.succ_mul]
    unfold poS
    split
    · have := piS_le (C := C) (hw := hw) (er := er) (eo := eo) (es := es) (el := el) (et := et) (lim := lim) (e := e) (s := poS C hw er eo es el et en q lim p0 e) (en - (e + 1))
      omega
    · omega
abbrev pkN (N : Nat → Nat) (s : Nat × (Nat → Int32)) : Nat → Nat := va_up N 10 s.1
abbrev pkF (F : Nat → Nat → Int32) (s : Nat × (Nat → Int32)) : Nat → Nat → Int32 := va_up F 31 s.2
section LK
variable {G : GT} {Q N : Nat → Nat} {Z : Nat → Int32} {F : Nat → Nat → Int32} {nm : Option Nat} {Ef : Nat → Option Nat} {T : List TR} {E : List ER} {tail P : va_W} {er eo es : Nat → Int32} {el : Nat → Nat} {et : Nat → Nat → Int32} {rf rw : Nat → Nat} {rs : Nat → Int32} {ns : Option (Nat × (Nat → Int32))}
theorem pk_self : pkN N (N 10, F 31) = N ∧ pkF F (N 10, F 31) = F := by
  constructor
  · funext j
    show (if j = 10 then N 10 else N j) = N j
    split
    · rename_i h; rw [h]
    · rfl
  · funext j
    show (if j = 31 then F 31 else F j) = F j
    split
    · rename_i h; rw [h]
    · rfl
theorem RUN.pair {Q' N' : Nat → Nat} {Z' : Nat → Int32} {F' : Nat → Nat → Int32} {T' : List TR} {s : Nat × (Nat → Int32)} (s' : Nat × (Nat → Int32)) (h : RUN Q (pkN N s) Z (pkF F s) T Q' N' Z' F' T') : RUN Q (pkN N s') Z (pkF F s') T Q' (pkN N' s') Z' (pkF F' s') T' := by
  have h1 := (h.1.upN 10 s'.1).upF 31 s'.2
  rw [va_up_up, va_up_up] at h1
  exact ⟨h1, h.2.1, h.2.2.1, h.2.2.2⟩
def pP (er eo es : Nat → Int32) (e f : Nat) : Prop := ¬ es f = 0 ∧ er f = er e ∧ ¬ eo f = eo e
theorem adp_loop {e lim mc ms M M' : Nat} {x0 : ER} {r0 : TR} (he : e < N 7) (hx0 : E[e]? = some x0) (hr0 : T[x0.2.2.2.2.1]? = some r0) (hE : ENT E T (N 7) er eo es el et) (hf : EFI E Ef) (hlim : lim ≤ 200) (s : Nat × (Nat → Int32)) (hs : s.1 ≤ 40000) (g03 : r0.1 0 = x0.2.2.2.1) (g04 : x0.2.1 = er e) (g05 : x0.2.2.1 = eo e) (g08 : tLen r0 = el e) (g09 : tT r0 = et e) :
    ∀ (k j : Nat), e + 1 + j + k = N 7 → ∀ (Q' N' : Nat → Nat) (Z' : Nat → Int32) (F' : Nat → Nat → Int32) (T' : List TR) (kc ks : Nat), RUN Q (pkN N (piS (cCT N F) (F 12) er eo es el et lim e s j)) Z (pkF F (piS (cCT N F) (F 12) er eo es el et lim e s j)) T Q' N' Z' F' T' → kc ≤ mc → ks ≤ ms → ((∃ f, e + 1 + j ≤ f ∧ f < N 7 ∧ pP er eo es e f) → kc + mc0 N' Z' F' ≤ mc ∧ ks + ms0 N' Z' F' ≤ ms) → ((∃ f, e + 1 ≤ f ∧ f < e + 1 + j ∧ pP er eo es e f) → Z' 0 = nI (N' 1)) → (¬ (∃ f, e + 1 ≤ f ∧ f < e + 1 + j ∧ pP er eo es e f) → mc0 N' Z' F' = M ∧ ms0 N' Z' F' = M') →
      JJ G Y_X10_addPairsOf 5 mc ms (Qv (fun w => ∃ (Q' N' : Nat → Nat) (Z' : Nat → Int32) (F' : Nat → Nat → Int32) (T' : List TR), w = cW G Q' N' Z' F' nm Ef (poolE G T' E tail) ∧ RUN Q (pkN N (piS (cCT N F) (F 12) er eo es el et lim e s (N 7 - (e + 1)))) Z (pkF F (piS (cCT N F) (F 12) er eo es el et lim e s (N 7 - (e + 1)))) T Q' N' Z' F' T' ∧ ((∃ f, e + 1 ≤ f ∧ f < N 7 ∧ pP er eo es e f) → Z' 0 = nI (N' 1)) ∧ (¬ (∃ f, e + 1 ≤ f ∧ f < N 7 ∧ pP er eo es e f) → mc0 N' Z' F' = M ∧ ms0 N' Z' F' = M'))) 5 [(0, .ref (Q 8)), (1, .int (nI e)), (2, .ref x0.1), (3, .int (nI lim)), (4, .int (nI (e + 1 + j)))] [] (cW G Q' N' Z' F' nm Ef (poolE G T' E tail)) kc ks := by
  have h7 := hE.2.1
  have hff := ff_v
  intro k
  induction k with
  | zero =>
    intro j hj Q' N' Z' F' T' kc ks hR hkc hks hB hI1 hI2
    have e7 : N' 7 = N 7 := hR.1.2.2.1 7 (by omega) (by omega)
    have e8 := hR.1.2.1 8 (by omega)
    rw [← e8]
    refine j_iload (n := 7) dX10_addPairsOf_5 rfl rfl ?_
    refine j_aload_n (n := 8) dX10_addPairsOf_7 rfl rfl ?_
    refine j_get (n := 11) 8 dX10_addPairsOf_8 f_X10_61 rfl rfl rfl ?_
    rw [e7]
    refine j_icmp_ge (n := 14) 91 dX10_addPairsOf_11 (by decide) rfl (fun c => ?_) (fun c => ?_)
    · have e1 : j = N 7 - (e + 1) := by omega
      have e2 : e + 1 + j = N 7 := by omega
      rw [e2] at hI1 hI2
      rw [e1] at hR
      exact j_vret dX10_addPairsOf_91 rfl (by omega) (by omega) (⟨Q', N', Z', F', T', rfl, hR, hI1, hI2⟩)
    · exact absurd (nI_le (show N 7 ≤ e + 1 + j by omega) (by omega)) c
  | succ k ih =>
    intro j hj Q' N' Z' F' T' kc ks hR hkc hks hB hI1 hI2
    have e7 : N' 7 = N 7 := hR.1.2.2.1 7 (by omega) (by omega)
    have e8 := hR.1.2.1 8 (by omega)
    have hE' := hE.eqt hR.2.1
    have hE'' : ENT E T' (N' 7) er eo es el et := by rw [e7]; exact hE'
    obtain ⟨r0', hr0', kx⟩ := hR.2.1.at hr0
    have hst : stnd (N 7) es (nI (e + 1 + j)) = decide (¬ es (e + 1 + j) = 0) := by
      unfold stnd; rw [decide_eq_true (p := ¬ (nI (e + 1 + j) < 0 ∨ nI (N 7) ≤ nI (e + 1 + j))) (fun q => q.elim (nI_pos (by omega)) (nI_ge (show e + 1 + j < N 7 by omega) (by omega))), nI_clamp (by omega)]; rfl
    have hle := piS_le (C := cCT N F) (hw := F 12) (er := er) (eo := eo) (es := es) (el := el) (et := et) (lim := lim) (e := e) (s := s) j
    have ih := ih (j + 1) (by omega)
    have hun : ∀ u, piS (cCT N F) (F 12) er eo es el et lim e s j = u → piS (cCT N F) (F 12) er eo es el et lim e s (j + 1) = if ¬ es (e + 1 + j) = 0 ∧ er (e + 1 + j) = er e ∧ ¬ eo (e + 1 + j) = eo e then match lmt lim (dst (cCT N F) (F 12) (el e) (et e) (el (e + 1 + j)) (et (e + 1 + j))) with
      | some v => pAdd u e (e + 1 + j) v
      | none => u
      else u := fun u h => by rw [← h]; rfl
    generalize hs0 : piS (cCT N F) (F 12) er eo es el et lim e s j = u at hR hle
    have hun := hun u hs0
    have kskip : ¬ pP er eo es e (e + 1 + j) → JJ G Y_X10_addPairsOf 5 mc ms (Qv (fun w => ∃ (Q' N' : Nat → Nat) (Z' : Nat → Int32) (F' : Nat → Nat → Int32) (T' : List TR), w = cW G Q' N' Z' F' nm Ef (poolE G T' E tail) ∧ RUN Q (pkN N (piS (cCT N F) (F 12) er eo es el et lim e s (N 7 - (e + 1)))) Z (pkF F (piS (cCT N F) (F 12) er eo es el et lim e s (N 7 - (e + 1)))) T Q' N' Z' F' T' ∧ ((∃ f, e + 1 ≤ f ∧ f < N 7 ∧ pP er eo es e f) → Z' 0 = nI (N' 1)) ∧ (¬ (∃ f, e + 1 ≤ f ∧ f < N 7 ∧ pP er eo es e f) → mc0 N' Z' F' = M ∧ ms0 N' Z' F' = M'))) 85 [(0, .ref (Q' 8)), (1, .int (nI e)), (2, .ref x0.1), (3, .int (nI lim)), (4, .int (nI (e + 1 + j)))] [] (cW G Q' N' Z' F' nm Ef (poolE G T' E tail)) kc ks := by
      intro hn
      have hn' : ¬ (¬ es (e + 1 + j) = 0 ∧ er (e + 1 + j) = er e ∧ ¬ eo (e + 1 + j) = eo e) := hn
      rw [if_neg hn'] at hun
      rw [hun] at ih
      refine j_iinc (n := 88) (nI ((e + 1 + j) + 1)) dX10_addPairsOf_85 rfl rfl (nI_inc (e + 1 + j)) (by decide) ?_
      refine j_goto 5 dX10_addPairsOf_88 (by decide) ?_
      rw [e8]
      refine ih Q' N' Z' F' T' kc ks hR hkc hks (fun ⟨f, a1, a2, a3⟩ => hB ⟨f, by omega, a2, a3⟩) (fun ⟨f, a1, a2, a3⟩ => hI1 ⟨f, a1, ?_, a3⟩) (fun h => hI2 (fun ⟨f, a1, a2, a3⟩ => h ⟨f, a1, by omega, a3⟩))
      rcases Nat.lt_or_ge f (e + 1 + j) with h | h
      · exact h
      · have : f = e + 1 + j := by omega
        subst this
        exact absurd a3 hn
    rw [← e8]
    refine j_iload (n := 7) dX10_addPairsOf_5 rfl rfl ?_
    refine j_aload_n (n := 8) dX10_addPairsOf_7 rfl rfl ?_
    refine j_get (n := 11) 8 dX10_addPairsOf_8 f_X10_61 rfl rfl rfl ?_
    rw [e7]
    refine j_icmp_ge (n := 14) 91 dX10_addPairsOf_11 (by decide) rfl (fun c => ?_) (fun c => ?_)
    · exact absurd c (nI_ge (show e + 1 + j < N 7 by omega) (by omega))
    · refine j_aload_n (n := 15) dX10_addPairsOf_14 rfl rfl ?_
      refine j_iload (n := 17) dX10_addPairsOf_15 rfl rfl ?_
      refine j_callVr (n := 20) (Y1 := Y_X10_standingAt) 8 dX10_addPairsOf_17 m_X10_217 cy_X10_standingAt ci_X10_standingAt (c_standingAt hE'' hf) rfl rfl rfl rfl rfl (by omega) (by omega) (by omega) (Nat.le_of_ble_eq_true rfl) (fun o w h => ?_)
      obtain ⟨rfl, h⟩ := h
      rw [e7] at h
      rcases h with ⟨hs1, rfl⟩ | ⟨hs1, j1, x, hj1, hj2, hxe, rfl⟩
      · refine j_astoreN (n := 22) dX10_addPairsOf_20 rfl (by decide) ?_
        refine j_aloadN (n := 24) dX10_addPairsOf_22 rfl rfl ?_
        refine j_ifnullN 85 dX10_addPairsOf_24 (by decide) ?_
        refine j_keep [0, 1, 2, 3, 4] rfl ?_
        exact kskip (fun h => by rw [hst, decide_eq_true h.1] at hs1; cases hs1)
      · obtain rfl : e + 1 + j = j1 := (nI_eq (by omega) (by omega)).mp hj1
        obtain ⟨x1, r, g1, g2, g3, g4, g5, g6, g8, g9, -⟩ := hE'.2.2 (e + 1 + j) (by omega)
        have : x1 = x := Option.some.inj (g1.symm.trans hxe)
        subst this
        have hes : ¬ es (e + 1 + j) = 0 := by rw [hst] at hs1; simpa using hs1
        refine j_astore (n := 22) dX10_addPairsOf_20 rfl (by decide) ?_
        refine j_aload (n := 24) dX10_addPairsOf_22 rfl rfl ?_
        refine j_ifnull (n := 27) dX10_addPairsOf_24 rfl ?_
        refine j_aload (n := 29) dX10_addPairsOf_27 rfl rfl ?_
        refine j_getN (n := 32) (5 * T'.length + (e + 1 + j) + 24 + 8) dX10_addPairsOf_29 f_X10_221 rfl (ep_get (G := G) (T := T') (tail := tail) hxe) rfl ?_
        refine j_aload_n (n := 33) dX10_addPairsOf_32 rfl rfl ?_
        refine j_getN (n := 36) (5 * T'.length + e + 24 + 8) dX10_addPairsOf_33 f_X10_221 rfl (ep_get (G := G) (T := T') (tail := tail) hx0) rfl ?_
        rw [g4, g04]
        refine j_icmp_ne (n := 39) 85 dX10_addPairsOf_36 (by decide) rfl (fun c2 => ?_) (fun c2 => ?_)
        · refine j_keep [0, 1, 2, 3, 4] rfl ?_
          exact kskip (fun h => c2 h.2.1)
        · refine j_aload (n := 41) dX10_addPairsOf_39 rfl rfl ?_
          refine j_getN (n := 44) (5 * T'.length + (e + 1 + j) + 24 + 8) dX10_addPairsOf_41 f_X10_230 rfl (ep_get (G := G) (T := T') (tail := tail) hxe) rfl ?_
          refine j_aload_n (n := 45) dX10_addPairsOf_44 rfl rfl ?_
          refine j_getN (n := 48) (5 * T'.length + e + 24 + 8) dX10_addPairsOf_45 f_X10_230 rfl (ep_get (G := G) (T := T') (tail := tail) hx0) rfl ?_
          rw [g5, g05]
          refine j_icmp_eq (n := 51) 85 dX10_addPairsOf_48 (by decide) rfl (fun c3 => ?_) (fun c3 => ?_)
          · refine j_keep [0, 1, 2, 3, 4] rfl ?_
            exact kskip (fun h => h.2.2 c3)
          · have hpp : pP er eo es e (e + 1 + j) := ⟨hes, c2, c3⟩
            rw [if_pos ⟨hes, c2, c3⟩] at hun
            obtain ⟨hkc2, hks2⟩ := hB ⟨e + 1 + j, by omega, by omega, hpp⟩
            refine j_aload_n (n := 52) dX10_addPairsOf_51 rfl rfl ?_
            refine j_aload_n (n := 53) dX10_addPairsOf_52 rfl rfl ?_
            refine j_getN (n := 56) (5 * T'.length + e + 24 + 8) dX10_addPairsOf_53 f_X10_224 rfl (ep_get (G := G) (T := T') (tail := tail) hx0) rfl ?_
            refine j_aload (n := 58) dX10_addPairsOf_56 rfl rfl ?_
            refine j_getN (n := 61) (5 * T'.length + (e + 1 + j) + 24 + 8) dX10_addPairsOf_58 f_X10_224 rfl (ep_get (G := G) (T := T') (tail := tail) hxe) rfl ?_
            refine j_iload_n (n := 62) dX10_addPairsOf_61 rfl rfl ?_
            refine j_eq (st' := [.int (nI lim), .ref (r.1 0), .ref (r0'.1 0), .ref (Q' 8)]) rfl rfl (by rw [g3, kx.1, g03]) rfl ?_
            refine j_callVi (n := 65) (Y1 := Y_X10_costBetween) 8 dX10_addPairsOf_62 m_X10_238 cy_X10_costBetween ci_X10_costBetween (c_costR hR hr0' g2 (by omega)) rfl rfl rfl rfl rfl (by omega) hkc2 hks2 (Nat.le_of_ble_eq_true rfl) (fun z w h => ?_)
            obtain ⟨hz, Q2, N2, Z2, F2, T2, rfl, hR2, hc2⟩ := h
            rw [kx.2.1, kx.2.2, g8, g9, g08, g09] at hz
            have hz : z = wlim lim (dst (cCT N F) (F 12) (el e) (et e) (el (e + 1 + j)) (et (e + 1 + j))) := hz
            obtain ⟨m1, m2⟩ := mc0_0 (F := F2) hc2
            rw [show Q' 8 = Q2 8 by rw [e8, hR2.1.2.1 8 (by omega)]]
            have e82 := hR2.1.2.1 8 (by omega)
            have hI2' : ¬ (∃ f, e + 1 ≤ f ∧ f < e + 1 + (j + 1) ∧ pP er eo es e f) → mc0 N2 Z2 F2 = M ∧ ms0 N2 Z2 F2 = M' := fun h => absurd ⟨e + 1 + j, by omega, by omega, hpp⟩ h
            rcases wlim_lmt (lim := lim) (o := dst (cCT N F) (F 12) (el e) (et e) (el (e + 1 + j)) (et (e + 1 + j))) with ⟨w1, w2⟩ | ⟨v, w1, w2, w3⟩
            · rw [w1] at hun
              rw [hz, w2]
              refine j_istore (n := 67) dX10_addPairsOf_65 rfl (by decide) ?_
              refine j_iload (n := 69) dX10_addPairsOf_67 rfl rfl ?_
              refine j_iconst (n := 70) (-1) dX10_addPairsOf_69 rfl (by decide) ?_
              refine j_icmp_eq (n := 73) 85 dX10_addPairsOf_70 (by decide) rfl (fun c4 => ?_) (fun c4 => ?_)
              · refine j_iinc (n := 88) (nI ((e + 1 + j) + 1)) dX10_addPairsOf_85 rfl rfl (nI_inc (e + 1 + j)) (by decide) ?_
                refine j_goto 5 dX10_addPairsOf_88 (by decide) ?_
                refine j_keep [0, 1, 2, 3, 4] rfl ?_
                rw [e82]
                refine ih Q2 N2 Z2 F2 T2 _ _ ?_ (by omega) (by omega) (fun _ => ⟨by omega, by omega⟩) (fun _ => hc2) hI2'
                rw [hun]
                exact hR2
              · exact absurd rfl c4
            · rw [w2] at hun
              rw [hz, w3]
              have n8 : N2 10 = u.1 := hR2.1.2.2.1 10 (by omega) (by omega)
              have f24 : F2 31 = u.2 := hR2.1.2.2.2.2 31 (by omega) (by omega) (by omega) (by omega) (by omega)
              refine j_istore (n := 67) dX10_addPairsOf_65 rfl (by decide) ?_
              refine j_iload (n := 69) dX10_addPairsOf_67 rfl rfl ?_
              refine j_iconst (n := 70) (-1) dX10_addPairsOf_69 rfl (by decide) ?_
              refine j_icmp_eq (n := 73) 85 dX10_addPairsOf_70 (by decide) rfl (fun c4 => ?_) (fun c4 => ?_)
              · exact absurd c4 (nI_nm1 (by omega))
              · refine j_aload_n (n := 74) dX10_addPairsOf_73 rfl rfl ?_
                refine j_get (n := 77) 8 dX10_addPairsOf_74 f_X10_90 rfl rfl rfl ?_
                refine j_iload_n (n := 78) dX10_addPairsOf_77 rfl rfl ?_
                refine j_iload (n := 80) dX10_addPairsOf_78 rfl rfl ?_
                refine j_iload (n := 82) dX10_addPairsOf_80 rfl rfl ?_
                refine j_callVv (n := 85) (Y1 := Y_X3_add) 30 dX10_addPairsOf_82 m_X10_276 cy_X3_add ci_X3_add (c_pairAdd (n := N2 10) (p := F2 31) 30 rfl 31 rfl (by omega) (by omega) (by omega) (by omega) (by omega)) rfl rfl rfl rfl rfl (by omega) (by omega) (by omega) (Nat.le_of_ble_eq_true rfl) (fun w h => ?_)
                subst h
                refine j_ws (ws' := cW G Q2 (pkN N2 (pAdd (N2 10, F2 31) e (e + 1 + j) v)) Z2 (pkF F2 (pAdd (N2 10, F2 31) e (e + 1 + j) v)) nm Ef (poolE G T2 E tail)) ?_ ?_
                · unfold pAdd pkN pkF
                  by_cases h : N2 10 < 1000
                  · simp only [if_pos h]; rfl
                  · have hsf := (pk_self (N := N2) (F := F2)).2
                    unfold pkF at hsf
                    simp only [if_neg h]
                    dsimp only at hsf ⊢
                    rw [hsf]; rfl
                · have hR3 := hR2.pair (pAdd (N2 10, F2 31) e (e + 1 + j) v)
                  refine j_iinc (n := 88) (nI ((e + 1 + j) + 1)) dX10_addPairsOf_85 rfl rfl (nI_inc (e + 1 + j)) (by decide) ?_
                  refine j_goto 5 dX10_addPairsOf_88 (by decide) ?_
                  refine j_keep [0, 1, 2, 3, 4] rfl ?_
                  rw [e82]
                  refine ih Q2 _ Z2 _ T2 _ _ ?_ (by omega) (by omega) (fun _ => ⟨show _ + mc0 N2 Z2 F2 ≤ mc by omega, show _ + ms0 N2 Z2 F2 ≤ ms by omega⟩) (fun _ => hc2) hI2'
                  rw [hun]
                  dsimp only
                  rw [n8, f24] at hR3
                  rw [n8, f24]
                  exact hR3
theorem c_addPairsOf {e lim mc ms : Nat} {x0 : ER} {Q' N' : Nat → Nat} {Z' : Nat → Int32} {F' : Nat → Nat → Int32} {T' : List TR} (he : e < N 7) (hx0 : E[e]? = some x0) (hE : ENT E T (N 7) er eo es el et) (hf : EFI E Ef) (hlim : lim ≤ 200) (s : Nat × (Nat → Int32)) (hs : s.1 ≤ 40000) (hR : RUN Q (pkN N s) Z (pkF F s) T Q' N' Z' F' T') (hB : (∃ f, e + 1 ≤ f ∧ f < N 7 ∧ pP er eo es e f) → mc0 N' Z' F' ≤ mc ∧ ms0 N' Z' F' ≤ ms) :
    JM G Y_X10_addPairsOf 5 mc ms [.ref (Q 8), .int (nI e), .ref x0.1, .int (nI lim)] (cW G Q' N' Z' F' nm Ef (poolE G T' E tail)) (Qv (fun w => ∃ (Q'' N'' : Nat → Nat) (Z'' : Nat → Int32) (F'' : Nat → Nat → Int32) (T'' : List TR), w = cW G Q'' N'' Z'' F'' nm Ef (poolE G T'' E tail) ∧ RUN Q (pkN N (piS (cCT N F) (F 12) er eo es el et lim e s (N 7 - (e + 1)))) Z (pkF F (piS (cCT N F) (F 12) er eo es el et lim e s (N 7 - (e + 1)))) T Q'' N'' Z'' F'' T'' ∧ ((∃ f, e + 1 ≤ f ∧ f < N 7 ∧ pP er eo es e f) → Z'' 0 = nI (N'' 1)) ∧ (¬ (∃ f, e + 1 ≤ f ∧ f < N 7 ∧ pP er eo es e f) → mc0 N'' Z'' F'' = mc0 N' Z' F' ∧ ms0 N'' Z'' F'' = ms0 N' Z' F'))) := by
  obtain ⟨x1, r, g1, g2, g3, g4, g5, g6, g8, g9, -⟩ := hE.2.2 e he
  have : x1 = x0 := Option.some.inj (g1.symm.trans hx0)
  subst this
  refine JM.of [(0, .ref (Q 8)), (1, .int (nI e)), (2, .ref x1.1), (3, .int (nI lim))] rfl rfl (by simp) (Nat.le_of_ble_eq_true rfl) (by decide +kernel) ?_
  refine j_iload_n (n := 1) dX10_addPairsOf_0 rfl rfl ?_
  refine j_iconst (n := 2) (1) dX10_addPairsOf_1 rfl (by decide) ?_
  refine j_iadd (n := 3) dX10_addPairsOf_2 rfl ?_
  refine j_top (nI (e + 1 + 0)) (nI_inc e) ?_
  refine j_istore (n := 5) dX10_addPairsOf_3 rfl (by decide) ?_
  exact adp_loop he hx0 g2 hE hf hlim s hs g3 g4 g5 g8 g9 (N 7 - (e + 1)) 0 (by omega) Q' N' Z' F' T' 0 0 hR (by omega) (by omega) (fun h => by have := hB h; omega) (fun ⟨f, a1, a2, a3⟩ => by omega) (fun _ => ⟨rfl, rfl⟩)
theorem likes_loop {j mc ms : Nat} (hj : j < 4) (hG : RGI Z rf rw rs) (hE : ENT E T (N 7) er eo es el et) (hf : EFI E Ef) (p0 : Nat → Int32) :
    ∀ (k e : Nat), e + k = N 7 → ∀ (Q' N' : Nat → Nat) (Z' : Nat → Int32) (F' : Nat → Nat → Int32) (T' : List TR) (kc ks : Nat), RUN Q (pkN N (poS (cCT N F) (F 12) er eo es el et (N 7) (nI j) (rf j) p0 e)) Z (pkF F (poS (cCT N F) (F 12) er eo es el et (N 7) (nI j) (rf j) p0 e)) T Q' N' Z' F' T' → kc + mc0 N' Z' F' ≤ mc → ks + ms0 N' Z' F' ≤ ms →
      JJ G Y_X10_likes 7 mc ms (Qi (fun r w => r = nI (poS (cCT N F) (F 12) er eo es el et (N 7) (nI j) (rf j) p0 (N 7)).1 ∧ ∃ (Q' N' : Nat → Nat) (Z' : Nat → Int32) (F' : Nat → Nat → Int32) (T' : List TR), w = cW G Q' N' Z' F' nm Ef (poolE G T' E tail) ∧ RUN Q (pkN N (poS (cCT N F) (F 12) er eo es el et (N 7) (nI j) (rf j) p0 (N 7))) Z (pkF F (poS (cCT N F) (F 12) er eo es el et (N 7) (nI j) (rf j) p0 (N 7))) T Q' N' Z' F' T')) 23 [(0, .ref (Q 8)), (1, .int (nI j)), (2, .ref (Q (16 + j))), (3, .int (nI e))] [] (cW G Q' N' Z' F' nm Ef (poolE G T' E tail)) kc ks := by
  have h7 := hE.2.1
  have hgj := hG j hj
  intro k
  induction k with
  | zero =>
    intro e he Q' N' Z' F' T' kc ks hR hkc hks
    have e7 : N' 7 = N 7 := hR.1.2.2.1 7 (by omega) (by omega)
    have en8 : N' 10 = (poS (cCT N F) (F 12) er eo es el et (N 7) (nI j) (rf j) p0 e).1 := hR.1.2.2.1 10 (by omega) (by omega)
    have e8 := hR.1.2.1 8 (by omega)
    rw [← e8]
    generalize Q (16 + j) = qa
    refine j_iload_n (n := 24) dX10_likes_23 rfl rfl ?_
    refine j_aload_n (n := 25) dX10_likes_24 rfl rfl ?_
    refine j_get (n := 28) 8 dX10_likes_25 f_X10_61 rfl rfl rfl ?_
    rw [e7]
    refine j_icmp_ge (n := 31) 69 dX10_likes_28 (by decide) rfl (fun c => ?_) (fun c => ?_)
    · refine j_aload_n (n := 70) dX10_likes_69 rfl rfl ?_
      refine j_get (n := 73) 8 dX10_likes_70 f_X10_90 rfl rfl rfl ?_
      refine j_getN (n := 76) 30 dX10_likes_73 f_X10_269 rfl rfl rfl ?_
      have e1 : e = N 7 := by omega
      subst e1
      exact j_iret dX10_likes_76 rfl rfl (by omega) (by omega) (⟨by rw [en8], Q', N', Z', F', T', rfl, hR⟩)
    · exact absurd (nI_le (show N 7 ≤ e by omega) (by omega)) c
  | succ k ih =>
    intro e he Q' N' Z' F' T' kc ks hR hkc hks
    have e7 : N' 7 = N 7 := hR.1.2.2.1 7 (by omega) (by omega)
    have e8 := hR.1.2.1 8 (by omega)
    have hE' := hE.eqt hR.2.1
    have hE'' : ENT E T' (N' 7) er eo es el et := by rw [e7]; exact hE'
    have hst : stnd (N 7) es (nI e) = decide (¬ es e = 0) := by
      unfold stnd; rw [decide_eq_true (p := ¬ (nI e < 0 ∨ nI (N 7) ≤ nI e)) (fun q => q.elim (nI_pos (by omega)) (nI_ge (show e < N 7 by omega) (by omega))), nI_clamp (by omega)]; rfl
    have hle := poS_le (C := cCT N F) (hw := F 12) (er := er) (eo := eo) (es := es) (el := el) (et := et) (en := N 7) (q := nI j) (lim := rf j) (p0 := p0) e
    have hle2 : e * N 7 ≤ 200 * 200 := Nat.mul_le_mul (by omega) h7
    have ih := ih (e + 1) (by omega)
    have hreg := rg_get (G := G) (Q := Q') (N := N') (Z := Z') (F := F') (nm := nm) (Ef := Ef) (P := poolE G T' E tail) hj
    rw [hR.1.2.1 (16 + j) (by omega), hR.1.2.2.2.1 (10 + 3 * j) (by omega), hgj.1] at hreg
    have hun : ∀ u, poS (cCT N F) (F 12) er eo es el et (N 7) (nI j) (rf j) p0 e = u → poS (cCT N F) (F 12) er eo es el et (N 7) (nI j) (rf j) p0 (e + 1) = if ¬ es e = 0 ∧ er e = nI j then piS (cCT N F) (F 12) er eo es el et (rf j) e u (N 7 - (e + 1)) else u := fun u h => by rw [← h]; rfl
    generalize hs0 : poS (cCT N F) (F 12) er eo es el et (N 7) (nI j) (rf j) p0 e = u at hR hle
    have hun := hun u hs0
    generalize Q (16 + j) = qa at hreg ih ⊢
    have kskip : ¬ (¬ es e = 0 ∧ er e = nI j) → JJ G Y_X10_likes 7 mc ms (Qi (fun r w => r = nI (poS (cCT N F) (F 12) er eo es el et (N 7) (nI j) (rf j) p0 (N 7)).1 ∧ ∃ (Q' N' : Nat → Nat) (Z' : Nat → Int32) (F' : Nat → Nat → Int32) (T' : List TR), w = cW G Q' N' Z' F' nm Ef (poolE G T' E tail) ∧ RUN Q (pkN N (poS (cCT N F) (F 12) er eo es el et (N 7) (nI j) (rf j) p0 (N 7))) Z (pkF F (poS (cCT N F) (F 12) er eo es el et (N 7) (nI j) (rf j) p0 (N 7))) T Q' N' Z' F' T')) 63 [(0, .ref (Q' 8)), (1, .int (nI j)), (2, .ref qa), (3, .int (nI e))] [] (cW G Q' N' Z' F' nm Ef (poolE G T' E tail)) kc ks := by
      intro hn
      rw [if_neg hn] at hun
      rw [hun] at ih
      refine j_iinc (n := 66) (nI (e + 1)) dX10_likes_63 rfl rfl (nI_inc e) (by decide) ?_
      refine j_goto 23 dX10_likes_66 (by decide) ?_
      rw [e8]
      exact ih Q' N' Z' F' T' kc ks hR hkc hks
    rw [← e8]
    refine j_iload_n (n := 24) dX10_likes_23 rfl rfl ?_
    refine j_aload_n (n := 25) dX10_likes_24 rfl rfl ?_
    refine j_get (n := 28) 8 dX10_likes_25 f_X10_61 rfl rfl rfl ?_
    rw [e7]
    refine j_icmp_ge (n := 31) 69 dX10_likes_28 (by decide) rfl (fun c => ?_) (fun c => ?_)
    · exact absurd c (nI_ge (show e < N 7 by omega) (by omega))
    · refine j_aload_n (n := 32) dX10_likes_31 rfl rfl ?_
      refine j_iload_n (n := 33) dX10_likes_32 rfl rfl ?_
      refine j_callVr (n := 36) (Y1 := Y_X10_standingAt) 8 dX10_likes_33 m_X10_217 cy_X10_standingAt ci_X10_standingAt (c_standingAt hE'' hf) rfl rfl rfl rfl rfl (by omega) (by omega) (by omega) (Nat.le_of_ble_eq_true rfl) (fun o w h => ?_)
      obtain ⟨rfl, h⟩ := h
      rw [e7] at h
      rcases h with ⟨hs1, rfl⟩ | ⟨hs1, j1, x, hj1, hj2, hxe, rfl⟩
      · refine j_astoreN (n := 38) dX10_likes_36 rfl (by decide) ?_
        refine j_aloadN (n := 40) dX10_likes_38 rfl rfl ?_
        refine j_ifnullN 63 dX10_likes_40 (by decide) ?_
        refine j_keep [0, 1, 2, 3] rfl ?_
        exact kskip (fun h => by rw [hst, decide_eq_true h.1] at hs1; cases hs1)
      · obtain rfl : e = j1 := (nI_eq (by omega) (by omega)).mp hj1
        obtain ⟨x1, r, g1, g2, g3, g4, g5, g6, g8, g9, -⟩ := hE'.2.2 e (by omega)
        have : x1 = x := Option.some.inj (g1.symm.trans hxe)
        subst this
        have hes : ¬ es e = 0 := by rw [hst] at hs1; simpa using hs1
        refine j_astore (n := 38) dX10_likes_36 rfl (by decide) ?_
        refine j_aload (n := 40) dX10_likes_38 rfl rfl ?_
        refine j_ifnull (n := 43) dX10_likes_40 rfl ?_
        refine j_aload (n := 45) dX10_likes_43 rfl rfl ?_
        refine j_getN (n := 48) (5 * T'.length + e + 24 + 8) dX10_likes_45 f_X10_221 rfl (ep_get (G := G) (T := T') (tail := tail) hxe) rfl ?_
        refine j_iload_n (n := 49) dX10_likes_48 rfl rfl ?_
        rw [g4]
        refine j_icmp_ne (n := 52) 63 dX10_likes_49 (by decide) rfl (fun c2 => ?_) (fun c2 => ?_)
        · refine j_keep [0, 1, 2, 3] rfl ?_
          exact kskip (fun h => c2 h.2)
        · rw [if_pos ⟨hes, c2⟩] at hun
          refine j_aload_n (n := 53) dX10_likes_52 rfl rfl ?_
          refine j_iload_n (n := 54) dX10_likes_53 rfl rfl ?_
          refine j_aload (n := 56) dX10_likes_54 rfl rfl ?_
          refine j_aload_n (n := 57) dX10_likes_56 rfl rfl ?_
          refine j_getN (n := 60) (16 + j) dX10_likes_57 f_X10_196 rfl hreg rfl ?_
          rw [e8]
          by_cases hex : ∃ f, e + 1 ≤ f ∧ f < N 7 ∧ pP er eo es e f
          · have con := c_addPairsOf (G := G) (nm := nm) (tail := tail) (mc := mc0 N' Z' F') (ms := ms0 N' Z' F') (N := N) (F := F) (show e < N 7 by omega) hxe hE hf (show rf j ≤ 200 by omega) u (by omega) hR (fun _ => ⟨Nat.le_refl _, Nat.le_refl _⟩)
            rw [← e8] at con ⊢
            refine j_callVv (n := 63) (Y1 := Y_X10_addPairsOf) 8 dX10_likes_60 m_X10_272 cy_X10_addPairsOf ci_X10_addPairsOf (con) rfl rfl rfl rfl rfl (by omega) (by omega) (by omega) (Nat.le_of_ble_eq_true rfl) (fun w h => ?_)
            obtain ⟨Q2, N2, Z2, F2, T2, rfl, hR2, q1, -⟩ := h
            obtain ⟨m1, m2⟩ := mc0_0 (F := F2) (q1 hex)
            refine j_iinc (n := 66) (nI (e + 1)) dX10_likes_63 rfl rfl (nI_inc e) (by decide) ?_
            refine j_goto 23 dX10_likes_66 (by decide) ?_
            refine j_keep [0, 1, 2, 3] rfl ?_
            rw [e8]
            refine ih Q2 N2 Z2 F2 T2 _ _ ?_ (by omega) (by omega)
            rw [hun]
            exact hR2
          · have con := c_addPairsOf (G := G) (nm := nm) (tail := tail) (mc := 0) (ms := 0) (N := N) (F := F) (show e < N 7 by omega) hxe hE hf (show rf j ≤ 200 by omega) u (by omega) hR (fun h => absurd h hex)
            rw [← e8] at con ⊢
            refine j_callVv (n := 63) (Y1 := Y_X10_addPairsOf) 8 dX10_likes_60 m_X10_272 cy_X10_addPairsOf ci_X10_addPairsOf (con) rfl rfl rfl rfl rfl (by omega) (by omega) (by omega) (Nat.le_of_ble_eq_true rfl) (fun w h => ?_)
            obtain ⟨Q2, N2, Z2, F2, T2, rfl, hR2, -, q1⟩ := h
            obtain ⟨m1, m2⟩ := q1 hex
            refine j_iinc (n := 66) (nI (e + 1)) dX10_likes_63 rfl rfl (nI_inc e) (by decide) ?_
            refine j_goto 23 dX10_likes_66 (by decide) ?_
            refine j_keep [0, 1, 2, 3] rfl ?_
            rw [e8]
            refine ih Q2 N2 Z2 F2 T2 _ _ ?_ (by omega) (by omega)
            rw [hun]
            exact hR2
def lkA (C : CT) (hw : Nat → Int32) (en : Nat) (er eo es : Nat → Int32) (el : Nat → Nat) (et : Nat → Nat → Int32) (rf : Nat → Nat) (q : Int32) (s : Nat × (Nat → Int32)) : Int32 × Nat × (Nat → Int32) :=
  if q < 0 ∨ 4 ≤ q then (-2, s) else (nI (poS C hw er eo es el et en q (rf q.toNatClampNeg) s.2 en).1, poS C hw er eo es el et en q (rf q.toNatClampNeg) s.2 en)
theorem c_likes {q : Int32} (hP : PInv N Z F) (hX : XInv N F T) (hE : ENT E T (N 7) er eo es el et) (hf : EFI E Ef) (hG : RGI Z rf rw rs) : JM G Y_X10_likes 7 (mc0 N Z F) (ms0 N Z F) [.ref (Q 8), .int q] (cW G Q N Z F nm Ef (poolE G T E tail)) (Qi (fun r w => r = (lkA (cCT N F) (F 12) (N 7) er eo es el et rf q (N 10, F 31)).1 ∧ ∃ (Q' N' : Nat → Nat) (Z' : Nat → Int32) (F' : Nat → Nat → Int32) (T' : List TR), w = cW G Q' N' Z' F' nm Ef (poolE G T' E tail) ∧ RUN Q (pkN N (lkA (cCT N F) (F 12) (N 7) er eo es el et rf q (N 10, F 31)).2) Z (pkF F (lkA (cCT N F) (F 12) (N 7) er eo es el et rf q (N 10, F 31)).2) T Q' N' Z' F' T')) := by
  have hself := pk_self (N := N) (F := F)
  have hRr : RUN Q (pkN N (N 10, F 31)) Z (pkF F (N 10, F 31)) T Q N Z F T := by rw [hself.1, hself.2]; exact RUN.rf hP hX
  unfold lkA
  refine JM.of [(0, .ref (Q 8)), (1, .int q)] rfl rfl (by simp) (Nat.le_of_ble_eq_true rfl) (by decide +kernel) ?_
  refine j_aload_n (n := 1) dX10_likes_0 rfl rfl ?_
  refine j_iload_n (n := 2) dX10_likes_1 rfl rfl ?_
  refine j_callVq (n := 5) (Y1 := Y_X10_registerAt) 8 dX10_likes_2 m_X10_192 cy_X10_registerAt ci_X10_registerAt (c_registerAt) rfl rfl rfl rfl rfl (by omega) (by omega) (by omega) (Nat.le_of_ble_eq_true rfl) ?_
  rcases ix3 q (n := 4) (by omega) with h | h | ⟨j, hj, rfl⟩
  · rw [rgF_none (Or.inl h), if_pos (Or.inl h)]
    refine j_astore_nN (n := 6) dX10_likes_5 rfl (by decide) ?_
    refine j_aload_nN (n := 7) dX10_likes_6 rfl rfl ?_
    refine j_ifnonnullN (n := 10) dX10_likes_7 rfl ?_
    refine j_bipush (n := 12) (-2) dX10_likes_10 rfl (by decide) ?_
    exact j_iret dX10_likes_12 rfl rfl (by omega) (by omega) (⟨rfl, Q, N, Z, F, T, rfl, hRr⟩)
  · rw [rgF_none (Or.inr h), if_pos (Or.inr (show 4 ≤ q from h))]
    refine j_astore_nN (n := 6) dX10_likes_5 rfl (by decide) ?_
    refine j_aload_nN (n := 7) dX10_likes_6 rfl rfl ?_
    refine j_ifnonnullN (n := 10) dX10_likes_7 rfl ?_
    refine j_bipush (n := 12) (-2) dX10_likes_10 rfl (by decide) ?_
    exact j_iret dX10_likes_12 rfl rfl (by omega) (by omega) (⟨rfl, Q, N, Z, F, T, rfl, hRr⟩)
  · have hq : ¬ (nI j < 0 ∨ 4 ≤ nI j) := fun q => q.elim (nI_pos (by omega)) (nI_ge (b := 4) hj (by omega))
    rw [rgF_some hj, if_neg hq, nI_clamp (show j < 2 ^ 31 by omega)]
    have h := likes_loop (G := G) (Q := Q) (N := N) (Z := Z) (F := F) (nm := nm) (tail := tail) (mc := mc0 N Z F) (ms := ms0 N Z F) hj hG hE hf (F 31) (N 7) 0 (by omega) Q (pkN N (0, F 31)) Z (pkF F (0, F 31)) T 0 0 (hRr.pair (0, F 31)) (by show 0 + mc0 N Z F ≤ mc0 N Z F; omega) (by show 0 + ms0 N Z F ≤ ms0 N Z F; omega)
    generalize Q (16 + j) = qa at h ⊢
    refine j_astore_n (n := 6) dX10_likes_5 rfl (by decide) ?_
    refine j_aload_n (n := 7) dX10_likes_6 rfl rfl ?_
    refine j_ifnonnull 13 dX10_likes_7 (by decide) ?_
    refine j_aload_n (n := 14) dX10_likes_13 rfl rfl ?_
    refine j_get (n := 17) 8 dX10_likes_14 f_X10_90 rfl rfl rfl ?_
    refine j_iconst (n := 18) (0) dX10_likes_17 rfl (by decide) ?_
    refine j_putN (n := 21) 30 dX10_likes_18 f_X10_269 rfl rfl rfl (Nat.le_of_ble_eq_true rfl) rfl rfl ?_
    refine j_iconst (n := 22) (0) dX10_likes_21 rfl (by decide) ?_
    refine j_istore_n (n := 23) dX10_likes_22 rfl (by decide) ?_
    exact j_ws (by rw [show pkF F (0, F 31) = F from hself.2]; rfl) h
end LK

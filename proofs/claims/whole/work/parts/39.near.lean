/-! near -/
theorem EQS.upN {Q N Q' N' : Nat → Nat} {Z Z' : Nat → Int32} {F F' : Nat → Nat → Int32} (j k : Nat) (h : EQS Q N Z F Q' N' Z' F') : EQS Q (va_up N j k) Z F Q' (va_up N' j k) Z' F' := by
  obtain ⟨a1, a2, a3, a4, a5⟩ := h
  refine ⟨a1, a2, fun i b c => ?_, a4, a5⟩
  show (if i = j then k else N' i) = if i = j then k else N i
  split
  · rfl
  · exact a3 i b c
theorem EQS.upF {Q N Q' N' : Nat → Nat} {Z Z' : Nat → Int32} {F F' : Nat → Nat → Int32} (j : Nat) (k : Nat → Int32) (h : EQS Q N Z F Q' N' Z' F') : EQS Q N Z (va_up F j k) Q' N' Z' (va_up F' j k) := by
  obtain ⟨a1, a2, a3, a4, a5⟩ := h
  refine ⟨a1, a2, a3, a4, fun i b1 b2 b3 b4 b5 => ?_⟩
  show (if i = j then k else F' i) = if i = j then k else F i
  split
  · rfl
  · exact a5 i b1 b2 b3 b4 b5
theorem EQS.upZ {Q N Q' N' : Nat → Nat} {Z Z' : Nat → Int32} {F F' : Nat → Nat → Int32} (j : Nat) (k : Int32) (h : EQS Q N Z F Q' N' Z' F') : EQS Q N (va_up Z j k) F Q' N' (va_up Z' j k) F' := by
  obtain ⟨a1, a2, a3, a4, a5⟩ := h
  refine ⟨a1, a2, a3, fun i b => ?_, a5⟩
  show (if i = j then k else Z' i) = if i = j then k else Z i
  split
  · rfl
  · exact a4 i b
theorem va_up_up {α : Type} (f : Nat → α) (k : Nat) (u v : α) : va_up (va_up f k u) k v = va_up f k v := by
  funext j
  unfold va_up
  split <;> rfl
theorem va_up_comm {α : Type} (f : Nat → α) {k l : Nat} (u v : α) (h : k ≠ l) : va_up (va_up f k u) l v = va_up (va_up f l v) k u := by
  funext j
  unfold va_up
  split
  · split
    · omega
    · rfl
  · rfl
/-- the near list: of the entries before e -/
def nrS (C : CT) (hw : Nat → Int32) (er es : Nat → Int32) (el : Nat → Nat) (et : Nat → Nat → Int32) (l : Nat) (t : Nat → Int32) (q : Int32) (lim : Nat) (f0 g0 : Nat → Int32) : Nat → Nat × (Nat → Int32) × (Nat → Int32)
  | 0 => (0, f0, g0)
  | e + 1 => if ¬ es e = 0 ∧ er e = q then match lmt lim (dst C hw l t (el e) (et e)) with
    | some v => ((nrS C hw er es el et l t q lim f0 g0 e).1 + 1, insF (nrS C hw er es el et l t q lim f0 g0 e).2.1 (insP (nrS C hw er es el et l t q lim f0 g0 e).2.2 (nI v) (nrS C hw er es el et l t q lim f0 g0 e).1) (nrS C hw er es el et l t q lim f0 g0 e).1 (nI e), insF (nrS C hw er es el et l t q lim f0 g0 e).2.2 (insP (nrS C hw er es el et l t q lim f0 g0 e).2.2 (nI v) (nrS C hw er es el et l t q lim f0 g0 e).1) (nrS C hw er es el et l t q lim f0 g0 e).1 (nI v))
    | none => nrS C hw er es el et l t q lim f0 g0 e
    else nrS C hw er es el et l t q lim f0 g0 e
theorem nrS_le {C : CT} {hw er es : Nat → Int32} {el : Nat → Nat} {et : Nat → Nat → Int32} {l : Nat} {t : Nat → Int32} {q : Int32} {lim : Nat} {f0 g0 : Nat → Int32} : ∀ e : Nat, (nrS C hw er es el et l t q lim f0 g0 e).1 ≤ e := by
  intro e
  induction e with
  | zero => exact Nat.le_refl 0
  | succ e ih =>
    unfold nrS
    split
    · split
      · exact Nat.succ_le_succ ih
      · omega
    · omega
theorem wlim_lmt {lim : Nat} {o : Option Nat} : (lmt lim o = none ∧ wlim lim o = -1) ∨ ∃ v, v ≤ lim ∧ lmt lim o = some v ∧ wlim lim o = nI v := by
  cases o with
  | none => exact Or.inl ⟨rfl, rfl⟩
  | some v =>
    by_cases h : v ≤ lim
    · exact Or.inr ⟨v, h, if_pos h, if_pos h⟩
    · exact Or.inl ⟨if_neg h, if_neg h⟩
section NR
variable {G : GT} {Q N : Nat → Nat} {Z : Nat → Int32} {F : Nat → Nat → Int32} {nm : Option Nat} {Ef : Nat → Option Nat} {T : List TR} {E : List ER} {tail P : va_W} {er eo es : Nat → Int32} {el : Nat → Nat} {et : Nat → Nat → Int32} {rf rw : Nat → Nat} {rs : Nat → Int32} {ns : Option (Nat × (Nat → Int32))}
abbrev nrN (N : Nat → Nat) (s : Nat × (Nat → Int32) × (Nat → Int32)) : Nat → Nat := va_up N 8 s.1
abbrev nrF (F : Nat → Nat → Int32) (s : Nat × (Nat → Int32) × (Nat → Int32)) : Nat → Nat → Int32 := va_up (va_up F 24 s.2.1) 25 s.2.2
theorem RUN.near {Q' N' : Nat → Nat} {Z' : Nat → Int32} {F' : Nat → Nat → Int32} {T' : List TR} {s : Nat × (Nat → Int32) × (Nat → Int32)} (s' : Nat × (Nat → Int32) × (Nat → Int32)) (h : RUN Q (nrN N s) Z (nrF F s) T Q' N' Z' F' T') : RUN Q (nrN N s') Z (nrF F s') T Q' (nrN N' s') Z' (nrF F' s') T' := by
  have h1 := ((h.1.upN 8 s'.1).upF 24 s'.2.1).upF 25 s'.2.2
  rw [va_up_up] at h1
  have e1 : va_up (va_up (nrF F s) 24 s'.2.1) 25 s'.2.2 = nrF F s' := by
    funext j
    show (if j = 25 then _ else if j = 24 then _ else if j = 25 then _ else if j = 24 then _ else F j) = if j = 25 then _ else if j = 24 then _ else F j
    repeat' split
    all_goals rfl
  rw [e1] at h1
  exact ⟨h1, h.2.1, h.2.2.1, h.2.2.2⟩
theorem near_loop {ix lim mc ms : Nat} {rx : TR} {q : Int32} (hx : T[ix]? = some rx) (hE : ENT E T (N 7) er eo es el et) (hf : EFI E Ef) (hlim : lim ≤ 200) (f0 g0 : Nat → Int32) :
    ∀ (k e : Nat), e + k = N 7 → ∀ (Q' N' : Nat → Nat) (Z' : Nat → Int32) (F' : Nat → Nat → Int32) (T' : List TR) (kc ks : Nat), RUN Q (nrN N (nrS (cCT N F) (F 12) er es el et (tLen rx) (tT rx) q lim f0 g0 e)) Z (nrF F (nrS (cCT N F) (F 12) er es el et (tLen rx) (tT rx) q lim f0 g0 e)) T Q' N' Z' F' T' → kc + mc0 N' Z' F' ≤ mc → ks + ms0 N' Z' F' ≤ ms →
      JJ G Y_X10_near 7 mc ms (Qi (fun r w => r = nI (nrS (cCT N F) (F 12) er es el et (tLen rx) (tT rx) q lim f0 g0 (N 7)).1 ∧ ∃ (Q' N' : Nat → Nat) (Z' : Nat → Int32) (F' : Nat → Nat → Int32) (T' : List TR), w = cW G Q' N' Z' F' (some (rx.1 0)) Ef (poolE G T' E tail) ∧ RUN Q (nrN N (nrS (cCT N F) (F 12) er es el et (tLen rx) (tT rx) q lim f0 g0 (N 7))) Z (nrF F (nrS (cCT N F) (F 12) er es el et (tLen rx) (tT rx) q lim f0 g0 (N 7))) T Q' N' Z' F' T')) 41 [(0, .ref (Q 8)), (1, .int q), (2, .int (nI lim)), (3, .int (nI e))] [] (cW G Q' N' Z' F' (some (rx.1 0)) Ef (poolE G T' E tail)) kc ks := by
  have h7 := hE.2.1
  have hff := ff_v
  intro k
  induction k with
  | zero =>
    intro e he Q' N' Z' F' T' kc ks hR hkc hks
    have e7 : N' 7 = N 7 := hR.1.2.2.1 7 (by omega) (by omega)
    have en8 : N' 8 = (nrS (cCT N F) (F 12) er es el et (tLen rx) (tT rx) q lim f0 g0 e).1 := hR.1.2.2.1 8 (by omega) (by omega)
    have e8 := hR.1.2.1 8 (by omega)
    rw [← e8]
    refine j_iload_n (n := 42) dX10_near_41 rfl rfl ?_
    refine j_aload_n (n := 43) dX10_near_42 rfl rfl ?_
    refine j_get (n := 46) 8 dX10_near_43 f_X10_61 rfl rfl rfl ?_
    rw [e7]
    refine j_icmp_ge (n := 49) 108 dX10_near_46 (by decide) rfl (fun c => ?_) (fun c => ?_)
    · refine j_aload_n (n := 109) dX10_near_108 rfl rfl ?_
      refine j_get (n := 112) 8 dX10_near_109 f_X10_76 rfl rfl rfl ?_
      refine j_getN (n := 115) 23 dX10_near_112 f_X10_255 rfl rfl rfl ?_
      have e1 : e = N 7 := by omega
      subst e1
      exact j_iret dX10_near_115 rfl rfl (by omega) (by omega) (⟨by rw [en8], Q', N', Z', F', T', rfl, hR⟩)
    · exact absurd (nI_le (show N 7 ≤ e by omega) (by omega)) c
  | succ k ih =>
    intro e he Q' N' Z' F' T' kc ks hR hkc hks
    have e7 : N' 7 = N 7 := hR.1.2.2.1 7 (by omega) (by omega)
    have e8 := hR.1.2.1 8 (by omega)
    have hE' := hE.eqt hR.2.1
    have hE'' : ENT E T' (N' 7) er eo es el et := by rw [e7]; exact hE'
    obtain ⟨rx', hx', kx⟩ := hR.2.1.at hx
    have hst : stnd (N 7) es (nI e) = decide (¬ es e = 0) := by
      unfold stnd; rw [decide_eq_true (p := ¬ (nI e < 0 ∨ nI (N 7) ≤ nI e)) (fun q => q.elim (nI_pos (by omega)) (nI_ge (show e < N 7 by omega) (by omega))), nI_clamp (by omega)]; rfl
    have hle := nrS_le (C := cCT N F) (hw := F 12) (er := er) (es := es) (el := el) (et := et) (l := tLen rx) (t := tT rx) (q := q) (lim := lim) (f0 := f0) (g0 := g0) e
    have ih := ih (e + 1) (by omega)
    have hun : ∀ s, nrS (cCT N F) (F 12) er es el et (tLen rx) (tT rx) q lim f0 g0 e = s → nrS (cCT N F) (F 12) er es el et (tLen rx) (tT rx) q lim f0 g0 (e + 1) = if ¬ es e = 0 ∧ er e = q then match lmt lim (dst (cCT N F) (F 12) (tLen rx) (tT rx) (el e) (et e)) with
      | some v => (s.1 + 1, insF s.2.1 (insP s.2.2 (nI v) s.1) s.1 (nI e), insF s.2.2 (insP s.2.2 (nI v) s.1) s.1 (nI v))
      | none => s
      else s := fun s h => by rw [← h]; rfl
    generalize hs0 : nrS (cCT N F) (F 12) er es el et (tLen rx) (tT rx) q lim f0 g0 e = s at hR hle
    have hun := hun s hs0
    have kskip : nrS (cCT N F) (F 12) er es el et (tLen rx) (tT rx) q lim f0 g0 (e + 1) = s → ∀ (Q' N' : Nat → Nat) (Z' : Nat → Int32) (F' : Nat → Nat → Int32) (T' : List TR) (kc ks : Nat), RUN Q (nrN N s) Z (nrF F s) T Q' N' Z' F' T' → kc + mc0 N' Z' F' ≤ mc → ks + ms0 N' Z' F' ≤ ms → JJ G Y_X10_near 7 mc ms (Qi (fun r w => r = nI (nrS (cCT N F) (F 12) er es el et (tLen rx) (tT rx) q lim f0 g0 (N 7)).1 ∧ ∃ (Q' N' : Nat → Nat) (Z' : Nat → Int32) (F' : Nat → Nat → Int32) (T' : List TR), w = cW G Q' N' Z' F' (some (rx.1 0)) Ef (poolE G T' E tail) ∧ RUN Q (nrN N (nrS (cCT N F) (F 12) er es el et (tLen rx) (tT rx) q lim f0 g0 (N 7))) Z (nrF F (nrS (cCT N F) (F 12) er es el et (tLen rx) (tT rx) q lim f0 g0 (N 7))) T Q' N' Z' F' T')) 102 [(0, .ref (Q 8)), (1, .int q), (2, .int (nI lim)), (3, .int (nI e))] [] (cW G Q' N' Z' F' (some (rx.1 0)) Ef (poolE G T' E tail)) kc ks := by
      intro hn Q' N' Z' F' T' kc ks hR hkc hks
      rw [hn] at ih
      refine j_iinc (n := 105) (nI (e + 1)) dX10_near_102 rfl rfl (nI_inc e) (by decide) ?_
      refine j_goto 41 dX10_near_105 (by decide) ?_
      exact ih Q' N' Z' F' T' kc ks hR hkc hks
    rw [← e8]
    refine j_iload_n (n := 42) dX10_near_41 rfl rfl ?_
    refine j_aload_n (n := 43) dX10_near_42 rfl rfl ?_
    refine j_get (n := 46) 8 dX10_near_43 f_X10_61 rfl rfl rfl ?_
    rw [e7]
    refine j_icmp_ge (n := 49) 108 dX10_near_46 (by decide) rfl (fun c => ?_) (fun c => ?_)
    · exact absurd c (nI_ge (show e < N 7 by omega) (by omega))
    · refine j_aload_n (n := 50) dX10_near_49 rfl rfl ?_
      refine j_iload_n (n := 51) dX10_near_50 rfl rfl ?_
      refine j_callVr (n := 54) (Y1 := Y_X10_standingAt) 8 dX10_near_51 m_X10_217 cy_X10_standingAt ci_X10_standingAt (c_standingAt hE'' hf) rfl rfl rfl rfl rfl (by omega) (by omega) (by omega) (Nat.le_of_ble_eq_true rfl) (fun o w h => ?_)
      obtain ⟨rfl, h⟩ := h
      rw [e7] at h
      rcases h with ⟨hs, rfl⟩ | ⟨hs, j, x, hj, hj2, hxe, rfl⟩
      · refine j_astoreN (n := 56) dX10_near_54 rfl (by decide) ?_
        refine j_aloadN (n := 58) dX10_near_56 rfl rfl ?_
        refine j_ifnullN 102 dX10_near_58 (by decide) ?_
        refine j_keep [0, 1, 2, 3] rfl ?_
        rw [e8]
        exact kskip (by rw [hun, if_neg (fun h => by rw [hst, decide_eq_true h.1] at hs; cases hs)]) Q' N' Z' F' T' _ _ hR hkc hks
      · obtain rfl : e = j := (nI_eq (by omega) (by omega)).mp hj
        obtain ⟨x1, r, g1, g2, g3, g4, g5, g6, g8, g9, -⟩ := hE'.2.2 e (by omega)
        have : x1 = x := Option.some.inj (g1.symm.trans hxe)
        subst this
        have hes : ¬ es e = 0 := by rw [hst] at hs; simpa using hs
        refine j_astore (n := 56) dX10_near_54 rfl (by decide) ?_
        refine j_aload (n := 58) dX10_near_56 rfl rfl ?_
        refine j_ifnull (n := 61) dX10_near_58 rfl ?_
        refine j_aload (n := 63) dX10_near_61 rfl rfl ?_
        refine j_getN (n := 66) (5 * T'.length + e + 24 + 8) dX10_near_63 f_X10_221 rfl (ep_get (G := G) (T := T') (tail := tail) hxe) rfl ?_
        refine j_iload_n (n := 67) dX10_near_66 rfl rfl ?_
        rw [g4]
        refine j_icmp_ne (n := 70) 102 dX10_near_67 (by decide) rfl (fun c2 => ?_) (fun c2 => ?_)
        · refine j_keep [0, 1, 2, 3] rfl ?_
          rw [e8]
          exact kskip (by rw [hun, if_neg (fun h => c2 h.2)]) Q' N' Z' F' T' _ _ hR hkc hks
        · rw [if_pos ⟨hes, c2⟩] at hun
          refine j_aload_n (n := 71) dX10_near_70 rfl rfl ?_
          refine j_aload_n (n := 72) dX10_near_71 rfl rfl ?_
          refine j_get (n := 75) 8 dX10_near_72 f_X10_38 rfl rfl rfl ?_
          refine j_aload (n := 77) dX10_near_75 rfl rfl ?_
          refine j_getN (n := 80) (5 * T'.length + e + 24 + 8) dX10_near_77 f_X10_224 rfl (ep_get (G := G) (T := T') (tail := tail) hxe) rfl ?_
          refine j_iload_n (n := 81) dX10_near_80 rfl rfl ?_
          refine j_eq (st' := [.int (nI lim), .ref (r.1 0), .ref (rx'.1 0), .ref (Q' 8)]) rfl rfl (by rw [g3, kx.1]; rfl) rfl ?_
          refine j_callVi (n := 84) (Y1 := Y_X10_costBetween) 8 dX10_near_81 m_X10_238 cy_X10_costBetween ci_X10_costBetween (c_costR hR hx' g2 (by omega)) rfl rfl rfl rfl rfl (by omega) hkc hks (Nat.le_of_ble_eq_true rfl) (fun z w h => ?_)
          obtain ⟨hz, Q2, N2, Z2, F2, T2, rfl, hR2, hc2⟩ := h
          rw [kx.2.1, kx.2.2, g8, g9] at hz
          have hz : z = wlim lim (dst (cCT N F) (F 12) (tLen rx) (tT rx) (el e) (et e)) := hz
          obtain ⟨m1, m2⟩ := mc0_0 (F := F2) hc2
          rw [show Q' 8 = Q2 8 by rw [e8, hR2.1.2.1 8 (by omega)]]
          have e82 := hR2.1.2.1 8 (by omega)
          rcases wlim_lmt (lim := lim) (o := dst (cCT N F) (F 12) (tLen rx) (tT rx) (el e) (et e)) with ⟨w1, w2⟩ | ⟨v, w1, w2, w3⟩
          · rw [w1] at hun
            rw [hz, w2]
            refine j_istore (n := 86) dX10_near_84 rfl (by decide) ?_
            refine j_iload (n := 88) dX10_near_86 rfl rfl ?_
            refine j_iconst (n := 89) (-1) dX10_near_88 rfl (by decide) ?_
            refine j_icmp_eq (n := 92) 102 dX10_near_89 (by decide) rfl (fun c4 => ?_) (fun c4 => ?_)
            · refine j_keep [0, 1, 2, 3] rfl ?_
              rw [e82]
              exact kskip hun Q2 N2 Z2 F2 T2 _ _ hR2 (by omega) (by omega)
            · exact absurd rfl c4
          · rw [w2] at hun
            rw [hz, w3]
            have n8 : N2 8 = s.1 := hR2.1.2.2.1 8 (by omega) (by omega)
            have f24 : F2 24 = s.2.1 := hR2.1.2.2.2.2 24 (by omega) (by omega) (by omega) (by omega) (by omega)
            have f25 : F2 25 = s.2.2 := hR2.1.2.2.2.2 25 (by omega) (by omega) (by omega) (by omega) (by omega)
            refine j_istore (n := 86) dX10_near_84 rfl (by decide) ?_
            refine j_iload (n := 88) dX10_near_86 rfl rfl ?_
            refine j_iconst (n := 89) (-1) dX10_near_88 rfl (by decide) ?_
            refine j_icmp_eq (n := 92) 102 dX10_near_89 (by decide) rfl (fun c4 => ?_) (fun c4 => ?_)
            · exact absurd c4 (nI_nm1 (by omega))
            · refine j_aload_n (n := 93) dX10_near_92 rfl rfl ?_
              refine j_get (n := 96) 8 dX10_near_93 f_X10_76 rfl rfl rfl ?_
              refine j_iload_n (n := 97) dX10_near_96 rfl rfl ?_
              refine j_iload (n := 99) dX10_near_97 rfl rfl ?_
              refine j_callVv (n := 102) (Y1 := Y_X2_insert) 23 dX10_near_99 m_X10_258 cy_X2_insert ci_X2_insert (c_insert (n := N2 8) (f := F2 24) (g := F2 25) 23 rfl 24 rfl 25 rfl (by omega) (by omega) (by omega) (by omega)) rfl rfl rfl rfl rfl (by omega) (by omega) (by omega) (Nat.le_of_ble_eq_true rfl) (fun w h => ?_)
              subst h
              refine j_ws (ws' := cW G Q2 (nrN N2 (N2 8 + 1, insF (F2 24) (insP (F2 25) (nI v) (N2 8)) (N2 8) (nI e), insF (F2 25) (insP (F2 25) (nI v) (N2 8)) (N2 8) (nI v))) Z2 (nrF F2 (N2 8 + 1, insF (F2 24) (insP (F2 25) (nI v) (N2 8)) (N2 8) (nI e), insF (F2 25) (insP (F2 25) (nI v) (N2 8)) (N2 8) (nI v))) (some (rx.1 0)) Ef (poolE G T2 E tail)) rfl ?_
              have hR3 := hR2.near (N2 8 + 1, insF (F2 24) (insP (F2 25) (nI v) (N2 8)) (N2 8) (nI e), insF (F2 25) (insP (F2 25) (nI v) (N2 8)) (N2 8) (nI v))
              refine j_iinc (n := 105) (nI (e + 1)) dX10_near_102 rfl rfl (nI_inc e) (by decide) ?_
              refine j_goto 41 dX10_near_105 (by decide) ?_
              refine j_keep [0, 1, 2, 3] rfl ?_
              rw [e82]
              refine ih Q2 _ Z2 _ T2 _ _ ?_ (show _ + mc0 N2 Z2 F2 ≤ mc by omega) (show _ + ms0 N2 Z2 F2 ≤ ms by omega)
              rw [hun]
              dsimp only
              rw [n8, f24, f25] at hR3
              rw [n8, f24, f25]
              exact hR3
/-- what near answers, and the list that it leaves -/
def nrA (C : CT) (hw : Nat → Int32) (en : Nat) (er es : Nat → Int32) (el : Nat → Nat) (et : Nat → Nat → Int32) (ns : Option (Nat × (Nat → Int32))) (q lim : Int32) (s : Nat × (Nat → Int32) × (Nat → Int32)) : Int32 × Nat × (Nat → Int32) × (Nat → Int32) :=
  if (q < 0 ∨ 4 ≤ q) ∨ (lim < 0 ∨ 200 < lim) then (-2, s) else match ns with
  | none => (-1, s)
  | some n => (nI (nrS C hw er es el et n.1 n.2 q lim.toNatClampNeg s.2.1 s.2.2 en).1, nrS C hw er es el et n.1 n.2 q lim.toNatClampNeg s.2.1 s.2.2 en)
theorem nr_self : nrN N (N 8, F 24, F 25) = N ∧ nrF F (N 8, F 24, F 25) = F := by
  constructor
  · funext j
    show (if j = 8 then N 8 else N j) = N j
    split
    · rename_i h; rw [h]
    · rfl
  · funext j
    show (if j = 25 then F 25 else if j = 24 then F 24 else F j) = F j
    split
    · rename_i h; rw [h]
    · split
      · rename_i h; rw [h]
      · rfl
theorem c_near {q lim : Int32} (hP : PInv N Z F) (hX : XInv N F T) (hE : ENT E T (N 7) er eo es el et) (hf : EFI E Ef) (hN : NMI nm T ns) : JM G Y_X10_near 7 (mc0 N Z F) (ms0 N Z F) [.ref (Q 8), .int q, .int lim] (cW G Q N Z F nm Ef (poolE G T E tail)) (Qi (fun r w => r = (nrA (cCT N F) (F 12) (N 7) er es el et ns q lim (N 8, F 24, F 25)).1 ∧ ∃ (Q' N' : Nat → Nat) (Z' : Nat → Int32) (F' : Nat → Nat → Int32) (T' : List TR), w = cW G Q' N' Z' F' nm Ef (poolE G T' E tail) ∧ RUN Q (nrN N (nrA (cCT N F) (F 12) (N 7) er es el et ns q lim (N 8, F 24, F 25)).2) Z (nrF F (nrA (cCT N F) (F 12) (N 7) er es el et ns q lim (N 8, F 24, F 25)).2) T Q' N' Z' F' T')) := by
  have h7 := hE.2.1
  have hself := nr_self (N := N) (F := F)
  have hRr : RUN Q (nrN N (N 8, F 24, F 25)) Z (nrF F (N 8, F 24, F 25)) T Q N Z F T := by rw [hself.1, hself.2]; exact RUN.rf hP hX
  have hbad : (q < 0 ∨ 4 ≤ q) ∨ (lim < 0 ∨ 200 < lim) → nrA (cCT N F) (F 12) (N 7) er es el et ns q lim (N 8, F 24, F 25) = (-2, (N 8, F 24, F 25)) := fun h => if_pos h
  refine JM.of [(0, .ref (Q 8)), (1, .int q), (2, .int lim)] rfl rfl (by simp) (Nat.le_of_ble_eq_true rfl) (by decide +kernel) ?_
  refine j_aload_n (n := 1) dX10_near_0 rfl rfl ?_
  refine j_iload_n (n := 2) dX10_near_1 rfl rfl ?_
  refine j_callVq (n := 5) (Y1 := Y_X10_registerAt) 8 dX10_near_2 m_X10_192 cy_X10_registerAt ci_X10_registerAt (c_registerAt) rfl rfl rfl rfl rfl (by omega) (by omega) (by omega) (Nat.le_of_ble_eq_true rfl) ?_
  have hno : rgF Q q = none ∧ (q < 0 ∨ 4 ≤ q) ∨ (¬ (q < 0 ∨ 4 ≤ q) ∧ ∃ a, rgF Q q = some a) := by
    by_cases h : q < 0 ∨ 4 ≤ q
    · exact Or.inl ⟨rgF_none h, h⟩
    · exact Or.inr ⟨h, by unfold rgF; rw [if_neg h]; exact ⟨_, rfl⟩⟩
  rcases hno with ⟨hr, hq⟩ | ⟨hq, a, hr⟩
  · rw [hr, hbad (Or.inl hq)]
    refine j_ifnullN 19 dX10_near_5 (by decide) ?_
    refine j_bipush (n := 21) (-2) dX10_near_19 rfl (by decide) ?_
    exact j_iret dX10_near_21 rfl rfl (by omega) (by omega) (⟨rfl, Q, N, Z, F, T, rfl, hRr⟩)
  · rw [hr]
    refine j_ifnull (n := 8) dX10_near_5 rfl ?_
    refine j_iload_n (n := 9) dX10_near_8 rfl rfl ?_
    refine j_if_lt (n := 12) 19 dX10_near_9 (by decide) rfl (fun c => ?_) (fun c => ?_)
    · rw [hbad (Or.inr (Or.inl c))]
      refine j_bipush (n := 21) (-2) dX10_near_19 rfl (by decide) ?_
      exact j_iret dX10_near_21 rfl rfl (by omega) (by omega) (⟨rfl, Q, N, Z, F, T, rfl, hRr⟩)
    · refine j_iload_n (n := 13) dX10_near_12 rfl rfl ?_
      refine j_sipush (n := 16) (200) dX10_near_13 rfl (by decide) ?_
      refine j_icmp_le (n := 19) 22 dX10_near_16 (by decide) rfl (fun c2 => ?_) (fun c2 => ?_)
      · have hn : ¬ ((q < 0 ∨ 4 ≤ q) ∨ (lim < 0 ∨ 200 < lim)) := fun h => h.elim hq (fun h => h.elim c (fun h => Int32.not_lt.mpr c2 h))
        obtain ⟨m, hm, rfl⟩ := nI_of c
        have hm2 : m ≤ 200 := Decidable.byContradiction (fun h => absurd c2 (nI_ge (a := 200) (by omega) (by omega)))
        unfold nrA
        rw [if_neg hn]
        rcases hN with ⟨rfl, rfl⟩ | ⟨ix, rx, hx, rfl, rfl⟩
        · refine j_aload_n (n := 23) dX10_near_22 rfl rfl ?_
          refine j_get (n := 26) 8 dX10_near_23 f_X10_38 rfl rfl rfl ?_
          refine j_ifnonnullN (n := 29) dX10_near_26 rfl ?_
          refine j_iconst (n := 30) (-1) dX10_near_29 rfl (by decide) ?_
          exact j_iret dX10_near_30 rfl rfl (by omega) (by omega) (⟨rfl, Q, N, Z, F, T, rfl, hRr⟩)
        · refine j_aload_n (n := 23) dX10_near_22 rfl rfl ?_
          refine j_get (n := 26) 8 dX10_near_23 f_X10_38 rfl rfl rfl ?_
          refine j_ifnonnull 31 dX10_near_26 (by decide) ?_
          refine j_aload_n (n := 32) dX10_near_31 rfl rfl ?_
          refine j_get (n := 35) 8 dX10_near_32 f_X10_76 rfl rfl rfl ?_
          refine j_iconst (n := 36) (0) dX10_near_35 rfl (by decide) ?_
          refine j_putN (n := 39) 23 dX10_near_36 f_X10_255 rfl rfl rfl (Nat.le_of_ble_eq_true rfl) rfl rfl ?_
          refine j_iconst (n := 40) (0) dX10_near_39 rfl (by decide) ?_
          refine j_istore_n (n := 41) dX10_near_40 rfl (by decide) ?_
          dsimp only
          rw [nI_clamp hm]
          have h := near_loop (G := G) (Q := Q) (N := N) (Z := Z) (F := F) (tail := tail) (q := q) (mc := mc0 N Z F) (ms := ms0 N Z F) hx hE hf hm2 (F 24) (F 25) (N 7) 0 (by omega) Q (nrN N (0, F 24, F 25)) Z (nrF F (0, F 24, F 25)) T 0 0 (hRr.near (0, F 24, F 25)) (by show 0 + mc0 N Z F ≤ mc0 N Z F; omega) (by show 0 + ms0 N Z F ≤ ms0 N Z F; omega)
          exact j_ws (by rw [show nrF F (0, F 24, F 25) = F from hself.2]; rfl) h
      · rw [hbad (Or.inr (Or.inr (Int32.not_le.mp c2)))]
        refine j_bipush (n := 21) (-2) dX10_near_19 rfl (by decide) ?_
        exact j_iret dX10_near_21 rfl rfl (by omega) (by omega) (⟨rfl, Q, N, Z, F, T, rfl, hRr⟩)
end NR

/-! leastToOthers, verdict, ask -/
theorem RUN.rf {Q N : Nat → Nat} {Z : Nat → Int32} {F : Nat → Nat → Int32} {T : List TR} (h1 : PInv N Z F) (h2 : XInv N F T) : RUN Q N Z F T Q N Z F T := ⟨EQS.rf Q N Z F, EQT.rf T, h1, h2⟩
theorem RUN.tr {Q N Q' N' Q'' N'' : Nat → Nat} {Z Z' Z'' : Nat → Int32} {F F' F'' : Nat → Nat → Int32} {T T' T'' : List TR} (h : RUN Q N Z F T Q' N' Z' F' T') (h' : RUN Q' N' Z' F' T' Q'' N'' Z'' F'' T'') : RUN Q N Z F T Q'' N'' Z'' F'' T'' := ⟨h.1.tr h'.1, h.2.1.tr h'.2.1, h'.2.2.1, h'.2.2.2⟩
def nLim (lim : Nat) (L : Option Nat) : Nat := L.getD lim
theorem min_lim {lim : Nat} {L : Option Nat} (hl : lim < FF) (h : ∀ v, L = some v → v ≤ lim) : (if ec FF L < nI lim then ec FF L else nI lim) = nI (nLim lim L) := by
  have hff := ff_v
  cases L with
  | none => exact if_neg (show ¬ nI FF < nI lim from nI_nlt (by omega) (by omega))
  | some v =>
    have := h v rfl
    show (if nI v < nI lim then nI v else nI lim) = nI v
    by_cases e : v < lim
    · rw [if_pos (nI_lt e (by omega))]
    · rw [if_neg (nI_nlt (by omega) (by omega)), show lim = v by omega]
theorem step_lim {lim : Nat} {L o : Option Nat} (h : ∀ v, L = some v → v ≤ lim) : (wlim (nLim lim L) o = -1 ∧ oMin L (lmt lim o) = L) ∨ (∃ v, o = some v ∧ v ≤ nLim lim L ∧ wlim (nLim lim L) o = nI v ∧ oMin L (lmt lim o) = some v) := by
  cases o with
  | none => exact Or.inl ⟨rfl, oMin_none L⟩
  | some v =>
    by_cases hv : v ≤ nLim lim L
    · refine Or.inr ⟨v, rfl, hv, if_pos hv, ?_⟩
      cases L with
      | none => show oMin none (if v ≤ lim then some v else none) = _; rw [if_pos (show v ≤ lim from hv)]; rfl
      | some u =>
        have := h u rfl
        have hvu : v ≤ u := hv
        show oMin (some u) (if v ≤ lim then some v else none) = _
        rw [if_pos (by omega)]
        show some (min u v) = some v
        rw [Nat.min_eq_right hvu]
    · refine Or.inl ⟨if_neg hv, ?_⟩
      cases L with
      | none => show oMin none (if v ≤ lim then some v else none) = _; rw [if_neg (show ¬ v ≤ lim from hv)]; rfl
      | some u =>
        have hvu : ¬ v ≤ u := hv
        show oMin (some u) (if v ≤ lim then some v else none) = _
        split
        · show some (min u v) = some u
          rw [Nat.min_eq_left (by omega)]
        · rfl
section LT
variable {G : GT} {Q N : Nat → Nat} {Z : Nat → Int32} {F : Nat → Nat → Int32} {nm : Option Nat} {Ef : Nat → Option Nat} {T : List TR} {E : List ER} {tail P : va_W} {er eo es : Nat → Int32} {el : Nat → Nat} {et : Nat → Nat → Int32}
/-- costBetween, from a state that was reached: the answer by the first one's tables, the next state -/
theorem c_costR {Q' N' : Nat → Nat} {Z' : Nat → Int32} {F' : Nat → Nat → Int32} {T' : List TR} {ix iy lim : Nat} {rx ry : TR} (hR : RUN Q N Z F T Q' N' Z' F' T') (hx : T'[ix]? = some rx) (hy : T'[iy]? = some ry) (hlim : lim < FF) : JM G Y_X10_costBetween 4 (mc0 N' Z' F') (ms0 N' Z' F') [.ref (Q' 8), .ref (rx.1 0), .ref (ry.1 0), .int (nI lim)] (cW G Q' N' Z' F' nm Ef (poolE G T' E tail)) (Qi (fun r w => r = wlim lim (dst (cCT N F) (F 12) (tLen rx) (tT rx) (tLen ry) (tT ry)) ∧ ∃ (Q'' N'' : Nat → Nat) (Z'' : Nat → Int32) (F'' : Nat → Nat → Int32) (T'' : List TR), w = cW G Q'' N'' Z'' F'' nm Ef (poolE G T'' E tail) ∧ RUN Q N Z F T Q'' N'' Z'' F'' T'' ∧ Z'' 0 = nI (N'' 1))) := by
  refine (c_costBetween hR.2.2.1 hR.2.2.2 hx hy hlim).imp (fun r w h => ?_)
  obtain ⟨v, hv, h1, Q'', N'', Z'', F'', T'', rx', ry', h2, h3, h4, h5, h6, h7, -⟩ := h
  obtain ⟨eC, eH, -⟩ := hR.1.cct
  rw [eC, eH] at h1
  exact ⟨v, hv, h1, Q'', N'', Z'', F'', T'', h2, ⟨hR.1.tr h3, hR.2.1.tr h4, h5, h6⟩, h7⟩
theorem lto_loop {ix lim mc ms : Nat} {rx : TR} {q ow : Int32} (hx : T[ix]? = some rx) (hE : ENT E T (N 7) er eo es el et) (hf : EFI E Ef) (hlim : lim < FF) :
    ∀ (k e : Nat), e + k = N 7 → ∀ (Q' N' : Nat → Nat) (Z' : Nat → Int32) (F' : Nat → Nat → Int32) (T' : List TR) (kc ks : Nat), RUN Q N Z F T Q' N' Z' F' T' → kc + mc0 N' Z' F' ≤ mc → ks + ms0 N' Z' F' ≤ ms →
      JJ G Y_X10_leastToOthers 5 mc ms (Qi (fun r w => r = ec FF (ltoS (cCT N F) er eo es el et (F 12) (tLen rx) (tT rx) q ow lim (N 7)) ∧ ∃ (Q' N' : Nat → Nat) (Z' : Nat → Int32) (F' : Nat → Nat → Int32) (T' : List TR), w = cW G Q' N' Z' F' nm Ef (poolE G T' E tail) ∧ RUN Q N Z F T Q' N' Z' F' T')) 7 [(0, .ref (Q 8)), (1, .ref (rx.1 0)), (2, .int q), (3, .int ow), (4, .int (nI lim)), (5, .int (ec FF (ltoS (cCT N F) er eo es el et (F 12) (tLen rx) (tT rx) q ow lim e))), (6, .int (nI e))] [] (cW G Q' N' Z' F' nm Ef (poolE G T' E tail)) kc ks := by
  have h7 := hE.2.1
  intro k
  induction k with
  | zero =>
    intro e he Q' N' Z' F' T' kc ks hR hkc hks
    obtain ⟨-, -, -, -, e7, -⟩ := hR.1.cct
    have e8 := hR.1.2.1 8 (by omega)
    rw [← e8]
    refine j_iload (n := 9) dX10_leastToOthers_7 rfl rfl ?_
    refine j_aload_n (n := 10) dX10_leastToOthers_9 rfl rfl ?_
    refine j_get (n := 13) 8 dX10_leastToOthers_10 f_X10_61 rfl rfl rfl ?_
    rw [e7]
    refine j_icmp_ge (n := 16) 82 dX10_leastToOthers_13 (by decide) rfl (fun c => ?_) (fun c => ?_)
    · refine j_iload (n := 84) dX10_leastToOthers_82 rfl rfl ?_
      have e1 : e = N 7 := by omega
      subst e1
      exact j_iret dX10_leastToOthers_84 rfl rfl (by omega) (by omega) (⟨rfl, Q', N', Z', F', T', rfl, hR⟩)
    · exact absurd (nI_le (show N 7 ≤ e by omega) (by omega)) c
  | succ k ih =>
    intro e he Q' N' Z' F' T' kc ks hR hkc hks
    obtain ⟨-, -, -, -, e7, -⟩ := hR.1.cct
    have e8 := hR.1.2.1 8 (by omega)
    have hE' := hE.eqt hR.2.1
    have hE'' : ENT E T' (N' 7) er eo es el et := by rw [e7]; exact hE'
    obtain ⟨rx', hx', kx⟩ := hR.2.1.at hx
    have hst : stnd (N 7) es (nI e) = decide (¬ es e = 0) := by
      unfold stnd; rw [decide_eq_true (p := ¬ (nI e < 0 ∨ nI (N 7) ≤ nI e)) (fun q => q.elim (nI_pos (by omega)) (nI_ge (show e < N 7 by omega) (by omega))), nI_clamp (by omega)]; rfl
    have hun : ltoS (cCT N F) er eo es el et (F 12) (tLen rx) (tT rx) q ow lim (e + 1) = if ¬ es e = 0 ∧ er e = q ∧ ¬ eo e = ow then oMin (ltoS (cCT N F) er eo es el et (F 12) (tLen rx) (tT rx) q ow lim e) (lmt lim (dst (cCT N F) (F 12) (tLen rx) (tT rx) (el e) (et e))) else ltoS (cCT N F) er eo es el et (F 12) (tLen rx) (tT rx) q ow lim e := rfl
    have hLe := ltoS_le (C := cCT N F) (er := er) (eo := eo) (es := es) (el := el) (et := et) (hw := F 12) (lx := tLen rx) (tx := tT rx) (q := q) (ow := ow) (lim := lim) e
    have ih := ih (e + 1) (by omega)
    rw [hun] at ih
    generalize ltoS (cCT N F) er eo es el et (F 12) (tLen rx) (tT rx) q ow lim e = L at ih hLe ⊢
    have kskip : ¬ (¬ es e = 0 ∧ er e = q ∧ ¬ eo e = ow) → JJ G Y_X10_leastToOthers 5 mc ms (Qi (fun r w => r = ec FF (ltoS (cCT N F) er eo es el et (F 12) (tLen rx) (tT rx) q ow lim (N 7)) ∧ ∃ (Q' N' : Nat → Nat) (Z' : Nat → Int32) (F' : Nat → Nat → Int32) (T' : List TR), w = cW G Q' N' Z' F' nm Ef (poolE G T' E tail) ∧ RUN Q N Z F T Q' N' Z' F' T')) 76 [(0, .ref (Q' 8)), (1, .ref (rx.1 0)), (2, .int q), (3, .int ow), (4, .int (nI lim)), (5, .int (ec FF L)), (6, .int (nI e))] [] (cW G Q' N' Z' F' nm Ef (poolE G T' E tail)) kc ks := by
      intro hn
      rw [if_neg hn] at ih
      refine j_iinc (n := 79) (nI (e + 1)) dX10_leastToOthers_76 rfl rfl (nI_inc e) (by decide) ?_
      refine j_goto 7 dX10_leastToOthers_79 (by decide) ?_
      rw [e8]
      exact ih Q' N' Z' F' T' kc ks hR hkc hks
    rw [← e8]
    refine j_iload (n := 9) dX10_leastToOthers_7 rfl rfl ?_
    refine j_aload_n (n := 10) dX10_leastToOthers_9 rfl rfl ?_
    refine j_get (n := 13) 8 dX10_leastToOthers_10 f_X10_61 rfl rfl rfl ?_
    rw [e7]
    refine j_icmp_ge (n := 16) 82 dX10_leastToOthers_13 (by decide) rfl (fun c => ?_) (fun c => ?_)
    · exact absurd c (nI_ge (show e < N 7 by omega) (by omega))
    · refine j_aload_n (n := 17) dX10_leastToOthers_16 rfl rfl ?_
      refine j_iload (n := 19) dX10_leastToOthers_17 rfl rfl ?_
      refine j_callVr (n := 22) (Y1 := Y_X10_standingAt) 8 dX10_leastToOthers_19 m_X10_217 cy_X10_standingAt ci_X10_standingAt (c_standingAt hE'' hf) rfl rfl rfl rfl rfl (by omega) (by omega) (by omega) (Nat.le_of_ble_eq_true rfl) (fun o w h => ?_)
      obtain ⟨rfl, h⟩ := h
      rw [e7] at h
      rcases h with ⟨hs, rfl⟩ | ⟨hs, j, x, hj, hj2, hxe, rfl⟩
      · refine j_astoreN (n := 24) dX10_leastToOthers_22 rfl (by decide) ?_
        refine j_aloadN (n := 26) dX10_leastToOthers_24 rfl rfl ?_
        refine j_ifnullN 76 dX10_leastToOthers_26 (by decide) ?_
        refine j_keep [0, 1, 2, 3, 4, 5, 6] rfl ?_
        exact kskip (fun h => by rw [hst, decide_eq_true h.1] at hs; cases hs)
      · obtain rfl : e = j := (nI_eq (by omega) (by omega)).mp hj
        obtain ⟨x1, r, g1, g2, g3, g4, g5, g6, g8, g9, -⟩ := hE'.2.2 e (by omega)
        have : x1 = x := Option.some.inj (g1.symm.trans hxe)
        subst this
        have hes : ¬ es e = 0 := by rw [hst] at hs; simpa using hs
        refine j_astore (n := 24) dX10_leastToOthers_22 rfl (by decide) ?_
        refine j_aload (n := 26) dX10_leastToOthers_24 rfl rfl ?_
        refine j_ifnull (n := 29) dX10_leastToOthers_26 rfl ?_
        refine j_aload (n := 31) dX10_leastToOthers_29 rfl rfl ?_
        refine j_getN (n := 34) (5 * T'.length + e + 24 + 8) dX10_leastToOthers_31 f_X10_221 rfl (ep_get (G := G) (T := T') (tail := tail) hxe) rfl ?_
        refine j_iload_n (n := 35) dX10_leastToOthers_34 rfl rfl ?_
        rw [g4]
        refine j_icmp_ne (n := 38) 76 dX10_leastToOthers_35 (by decide) rfl (fun c2 => ?_) (fun c2 => ?_)
        · refine j_keep [0, 1, 2, 3, 4, 5, 6] rfl ?_
          exact kskip (fun h => c2 h.2.1)
        · refine j_aload (n := 40) dX10_leastToOthers_38 rfl rfl ?_
          refine j_getN (n := 43) (5 * T'.length + e + 24 + 8) dX10_leastToOthers_40 f_X10_230 rfl (ep_get (G := G) (T := T') (tail := tail) hxe) rfl ?_
          refine j_iload_n (n := 44) dX10_leastToOthers_43 rfl rfl ?_
          rw [g5]
          refine j_icmp_eq (n := 47) 76 dX10_leastToOthers_44 (by decide) rfl (fun c3 => ?_) (fun c3 => ?_)
          · refine j_keep [0, 1, 2, 3, 4, 5, 6] rfl ?_
            exact kskip (fun h => h.2.2 c3)
          · rw [if_pos ⟨hes, c2, c3⟩] at ih
            refine j_aload_n (n := 48) dX10_leastToOthers_47 rfl rfl ?_
            refine j_aload_n (n := 49) dX10_leastToOthers_48 rfl rfl ?_
            refine j_aload (n := 51) dX10_leastToOthers_49 rfl rfl ?_
            refine j_getN (n := 54) (5 * T'.length + e + 24 + 8) dX10_leastToOthers_51 f_X10_224 rfl (ep_get (G := G) (T := T') (tail := tail) hxe) rfl ?_
            refine j_iload (n := 56) dX10_leastToOthers_54 rfl rfl ?_
            refine j_iload (n := 58) dX10_leastToOthers_56 rfl rfl ?_
            refine j_min (n := 61) dX10_leastToOthers_58 m_X10_233 rfl (by omega) (by omega) (by omega) (Nat.le_of_ble_eq_true rfl) ?_
            refine j_top (nI (nLim lim L)) (min_lim hlim hLe) ?_
            have hl2 : nLim lim L < FF := by
              unfold nLim
              cases hL : L with
              | none => exact hlim
              | some v => have := hLe v hL; exact Nat.lt_of_le_of_lt this hlim
            refine j_eq (st' := [.int (nI (nLim lim L)), .ref (r.1 0), .ref (rx'.1 0), .ref (Q' 8)]) rfl rfl (by rw [g3, kx.1]) rfl ?_
            refine j_callVi (n := 64) (Y1 := Y_X10_costBetween) 8 dX10_leastToOthers_61 m_X10_238 cy_X10_costBetween ci_X10_costBetween (c_costR hR hx' g2 hl2) rfl rfl rfl rfl rfl (by omega) hkc hks (Nat.le_of_ble_eq_true rfl) (fun z w h => ?_)
            obtain ⟨hz, Q2, N2, Z2, F2, T2, rfl, hR2, hc2⟩ := h
            rw [kx.2.1, kx.2.2, g8, g9] at hz
            obtain ⟨m1, m2⟩ := mc0_0 (F := F2) hc2
            rw [show Q' 8 = Q2 8 by rw [e8, hR2.1.2.1 8 (by omega)]]
            rcases step_lim (o := dst (cCT N F) (F 12) (tLen rx) (tT rx) (el e) (et e)) hLe with ⟨w1, w2⟩ | ⟨v, w0, w1, w2, w3⟩
            · rw [w2] at ih
              rw [hz, w1]
              refine j_istore (n := 66) dX10_leastToOthers_64 rfl (by decide) ?_
              refine j_iload (n := 68) dX10_leastToOthers_66 rfl rfl ?_
              refine j_iconst (n := 69) (-1) dX10_leastToOthers_68 rfl (by decide) ?_
              refine j_icmp_eq (n := 72) 76 dX10_leastToOthers_69 (by decide) rfl (fun c4 => ?_) (fun c4 => ?_)
              · refine j_iinc (n := 79) (nI (e + 1)) dX10_leastToOthers_76 rfl rfl (nI_inc e) (by decide) ?_
                refine j_goto 7 dX10_leastToOthers_79 (by decide) ?_
                refine j_keep [0, 1, 2, 3, 4, 5, 6] rfl ?_
                rw [hR2.1.2.1 8 (by omega)]
                exact ih Q2 N2 Z2 F2 T2 _ _ hR2 (by omega) (by omega)
              · exact absurd rfl c4
            · rw [w3] at ih
              rw [hz, w2]
              have hff := ff_v
              refine j_istore (n := 66) dX10_leastToOthers_64 rfl (by decide) ?_
              refine j_iload (n := 68) dX10_leastToOthers_66 rfl rfl ?_
              refine j_iconst (n := 69) (-1) dX10_leastToOthers_68 rfl (by decide) ?_
              refine j_icmp_eq (n := 72) 76 dX10_leastToOthers_69 (by decide) rfl (fun c4 => ?_) (fun c4 => ?_)
              · exact absurd c4 (nI_nm1 (by omega))
              · refine j_iload (n := 74) dX10_leastToOthers_72 rfl rfl ?_
                refine j_istore (n := 76) dX10_leastToOthers_74 rfl (by decide) ?_
                refine j_iinc (n := 79) (nI (e + 1)) dX10_leastToOthers_76 rfl rfl (nI_inc e) (by decide) ?_
                refine j_goto 7 dX10_leastToOthers_79 (by decide) ?_
                refine j_keep [0, 1, 2, 3, 4, 5, 6] rfl ?_
                rw [hR2.1.2.1 8 (by omega)]
                exact ih Q2 N2 Z2 F2 T2 _ _ hR2 (by omega) (by omega)
theorem c_leastToOthers {Q' N' : Nat → Nat} {Z' : Nat → Int32} {F' : Nat → Nat → Int32} {T' : List TR} {ix lim : Nat} {rx : TR} {q ow : Int32} (hx : T[ix]? = some rx) (hE : ENT E T (N 7) er eo es el et) (hf : EFI E Ef) (hlim : lim < FF) (hR : RUN Q N Z F T Q' N' Z' F' T') : JM G Y_X10_leastToOthers 5 (mc0 N' Z' F') (ms0 N' Z' F') [.ref (Q 8), .ref (rx.1 0), .int q, .int ow, .int (nI lim)] (cW G Q' N' Z' F' nm Ef (poolE G T' E tail)) (Qi (fun r w => r = ec FF (ltoS (cCT N F) er eo es el et (F 12) (tLen rx) (tT rx) q ow lim (N 7)) ∧ ∃ (Q' N' : Nat → Nat) (Z' : Nat → Int32) (F' : Nat → Nat → Int32) (T' : List TR), w = cW G Q' N' Z' F' nm Ef (poolE G T' E tail) ∧ RUN Q N Z F T Q' N' Z' F' T')) := by
  refine JM.of [(0, .ref (Q 8)), (1, .ref (rx.1 0)), (2, .int q), (3, .int ow), (4, .int (nI lim))] rfl rfl (by simp) (Nat.le_of_ble_eq_true rfl) (by decide +kernel) ?_
  refine j_ldc (n := 2) dX10_leastToOthers_0 rfl k_X10_129 ?_
  refine j_istore (n := 4) dX10_leastToOthers_2 rfl (by decide) ?_
  refine j_iconst (n := 5) (0) dX10_leastToOthers_4 rfl (by decide) ?_
  refine j_istore (n := 7) dX10_leastToOthers_5 rfl (by decide) ?_
  exact lto_loop hx hE hf hlim (N 7) 0 (by omega) Q' N' Z' F' T' 0 0 hR (by omega) (by omega)
end LT

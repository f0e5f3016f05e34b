/-! verdict, ask, far, near -/
def NMI (nm : Option Nat) (T : List TR) (ns : Option (Nat × (Nat → Int32))) : Prop := (nm = none ∧ ns = none) ∨ ∃ (i : Nat) (r : TR), T[i]? = some r ∧ nm = some (r.1 0) ∧ ns = some (tLen r, tT r)
def RGI (Z : Nat → Int32) (rf rw : Nat → Nat) (rs : Nat → Int32) : Prop := ∀ j, j < 4 → Z (10 + 3 * j) = nI (rf j) ∧ Z (11 + 3 * j) = nI (rw j) ∧ Z (12 + 3 * j) = rs j ∧ rf j ≤ rw j ∧ rw j ≤ 200 ∧ (rs j = 0 ∨ rs j = 1)
theorem NMI.eqt {nm : Option Nat} {T T' : List TR} {ns : Option (Nat × (Nat → Int32))} (h : NMI nm T ns) (hT : EQT T T') : NMI nm T' ns := by
  rcases h with h | ⟨i, r, h1, h2, h3⟩
  · exact Or.inl h
  · obtain ⟨r', g1, g2, g3, g4⟩ := hT.at h1
    exact Or.inr ⟨i, r', g1, by rw [g2]; exact h2, by rw [g3, g4]; exact h3⟩
theorem RGI.eqz {Z Z' : Nat → Int32} {rf rw : Nat → Nat} {rs : Nat → Int32} (h : RGI Z rf rw rs) (hz : ∀ i, i ≠ 0 → Z' i = Z i) : RGI Z' rf rw rs := by
  intro j hj
  rw [hz (10 + 3 * j) (by omega), hz (11 + 3 * j) (by omega), hz (12 + 3 * j) (by omega)]
  exact h j hj
/-- the verdict for a name, a register and an owner -/
def vdT (rf : Nat) (L : Option Nat) : Int32 := match L with
  | none => 0
  | some v => if v ≤ rf then 2 else 1
def vdS (C : CT) (sc hw : Nat → Int32) (sn : Nat) (bt : Nat → Int32) (en : Nat) (er eo es : Nat → Int32) (el : Nat → Nat) (et : Nat → Nat → Int32) (rf rw : Nat → Nat) (rs : Nat → Int32) (ns : Option (Nat × (Nat → Int32))) (q ow : Int32) : Int32 :=
  if (q < 0 ∨ 4 ≤ q) ∨ (ow < 0 ∨ 32 ≤ ow) then -2 else match ns with
  | none => -1
  | some n => if seeN hw n.2 n.1 = 0 then -1 else if hldF en er es el et hw n.1 n.2 q = true then 3 else if ¬ rs q.toNatClampNeg = 0 ∧ mixB (bitsS sc hw n.1 n.2) sn bt = true then 2 else vdT (rf q.toNatClampNeg) (ltoS C er eo es el et hw n.1 n.2 q ow (rw q.toNatClampNeg) en)
section VD
variable {G : GT} {Q N : Nat → Nat} {Z : Nat → Int32} {F : Nat → Nat → Int32} {nm : Option Nat} {Ef : Nat → Option Nat} {T : List TR} {E : List ER} {tail P : va_W} {er eo es : Nat → Int32} {el : Nat → Nat} {et : Nat → Nat → Int32} {rf rw : Nat → Nat} {rs : Nat → Int32} {ns : Option (Nat × (Nat → Int32))}
theorem c_verdict {q ow : Int32} (hP : PInv N Z F) (hX : XInv N F T) (hE : ENT E T (N 7) er eo es el et) (hf : EFI E Ef) (hN : NMI nm T ns) (hG : RGI Z rf rw rs) (h6 : N 6 ≤ 8) : JM G Y_X10_verdict 6 (mc0 N Z F) (ms0 N Z F) [.ref (Q 8), .int q, .int ow] (cW G Q N Z F nm Ef (poolE G T E tail)) (Qi (fun r w => r = vdS (cCT N F) (F 11) (F 12) (N 6) (F 14) (N 7) er eo es el et rf rw rs ns q ow ∧ ∃ (Q' N' : Nat → Nat) (Z' : Nat → Int32) (F' : Nat → Nat → Int32) (T' : List TR), w = cW G Q' N' Z' F' nm Ef (poolE G T' E tail) ∧ RUN Q N Z F T Q' N' Z' F' T')) := by
  have hps : N 1 < 1000 := hP.2.2.2.2.1
  have hff := ff_v
  have hRr := RUN.rf (Q := Q) hP hX
  unfold vdS
  refine JM.of [(0, .ref (Q 8)), (1, .int q), (2, .int ow)] rfl rfl (by simp) (Nat.le_of_ble_eq_true rfl) (by decide +kernel) ?_
  refine j_aload_n (n := 1) dX10_verdict_0 rfl rfl ?_
  refine j_iload_n (n := 2) dX10_verdict_1 rfl rfl ?_
  refine j_callVq (n := 5) (Y1 := Y_X10_registerAt) 8 dX10_verdict_2 m_X10_192 cy_X10_registerAt ci_X10_registerAt (c_registerAt) rfl rfl rfl rfl rfl (by omega) (by omega) (by omega) (Nat.le_of_ble_eq_true rfl) ?_
  rcases ix3 q (n := 4) (by omega) with h | h | ⟨j, hj, rfl⟩
  · rw [rgF_none (Or.inl h), if_pos (Or.inl (Or.inl h))]
    refine j_astore_nN (n := 6) dX10_verdict_5 rfl (by decide) ?_
    refine j_aload_nN (n := 7) dX10_verdict_6 rfl rfl ?_
    refine j_ifnullN 20 dX10_verdict_7 (by decide) ?_
    refine j_bipush (n := 22) (-2) dX10_verdict_20 rfl (by decide) ?_
    exact j_iret dX10_verdict_22 rfl rfl (by omega) (by omega) (⟨rfl, Q, N, Z, F, T, rfl, hRr⟩)
  · rw [rgF_none (Or.inr h), if_pos (Or.inl (Or.inr (show 4 ≤ q from h)))]
    refine j_astore_nN (n := 6) dX10_verdict_5 rfl (by decide) ?_
    refine j_aload_nN (n := 7) dX10_verdict_6 rfl rfl ?_
    refine j_ifnullN 20 dX10_verdict_7 (by decide) ?_
    refine j_bipush (n := 22) (-2) dX10_verdict_20 rfl (by decide) ?_
    exact j_iret dX10_verdict_22 rfl rfl (by omega) (by omega) (⟨rfl, Q, N, Z, F, T, rfl, hRr⟩)
  · have hq : ¬ (nI j < 0 ∨ 4 ≤ nI j) := fun q => q.elim (nI_pos (by omega)) (nI_ge (b := 4) hj (by omega))
    obtain ⟨g1, g2, g3, g4, g5, g6⟩ := hG j hj
    rw [rgF_some hj, nI_clamp (show j < 2 ^ 31 by omega)]
    have hreg := fun nm P => rg_get (G := G) (Q := Q) (N := N) (Z := Z) (F := F) (nm := nm) (Ef := Ef) (P := P) hj
    generalize hqa : Q (16 + j) = qa at hreg ⊢
    refine j_astore_n (n := 6) dX10_verdict_5 rfl (by decide) ?_
    refine j_aload_n (n := 7) dX10_verdict_6 rfl rfl ?_
    refine j_ifnull (n := 10) dX10_verdict_7 rfl ?_
    refine j_iload_n (n := 11) dX10_verdict_10 rfl rfl ?_
    refine j_if_lt (n := 14) 20 dX10_verdict_11 (by decide) rfl (fun c => ?_) (fun c => ?_)
    · rw [if_pos (Or.inr (Or.inl c))]
      refine j_bipush (n := 22) (-2) dX10_verdict_20 rfl (by decide) ?_
      exact j_iret dX10_verdict_22 rfl rfl (by omega) (by omega) (⟨rfl, Q, N, Z, F, T, rfl, hRr⟩)
    · refine j_iload_n (n := 15) dX10_verdict_14 rfl rfl ?_
      refine j_bipush (n := 17) (32) dX10_verdict_15 rfl (by decide) ?_
      refine j_icmp_lt (n := 20) 23 dX10_verdict_17 (by decide) rfl (fun c2 => ?_) (fun c2 => ?_)
      · have hn : ¬ ((nI j < 0 ∨ 4 ≤ nI j) ∨ (ow < 0 ∨ 32 ≤ ow)) := fun q => q.elim hq (fun q => q.elim c (fun q => Int32.not_lt.mpr q c2))
        rw [if_neg hn]
        rcases hN with ⟨rfl, rfl⟩ | ⟨ix, r, hr, rfl, rfl⟩
        · refine j_aload_n (n := 24) dX10_verdict_23 rfl rfl ?_
          refine j_get (n := 27) 8 dX10_verdict_24 f_X10_38 rfl rfl rfl ?_
          refine j_astoreN (n := 29) dX10_verdict_27 rfl (by decide) ?_
          refine j_aloadN (n := 31) dX10_verdict_29 rfl rfl ?_
          refine j_ifnonnullN (n := 34) dX10_verdict_31 rfl ?_
          refine j_iconst (n := 35) (-1) dX10_verdict_34 rfl (by decide) ?_
          exact j_iret dX10_verdict_35 rfl rfl (by omega) (by omega) (⟨rfl, Q, N, Z, F, T, rfl, hRr⟩)
        · have tr := hX ix r hr
          refine j_aload_n (n := 24) dX10_verdict_23 rfl rfl ?_
          refine j_get (n := 27) 8 dX10_verdict_24 f_X10_38 rfl rfl rfl ?_
          refine j_astore (n := 29) dX10_verdict_27 rfl (by decide) ?_
          refine j_aload (n := 31) dX10_verdict_29 rfl rfl ?_
          refine j_ifnonnull 36 dX10_verdict_31 (by decide) ?_
          refine j_aload (n := 38) dX10_verdict_36 rfl rfl ?_
          refine j_aload_n (n := 39) dX10_verdict_38 rfl rfl ?_
          refine j_get (n := 42) 8 dX10_verdict_39 f_X10_20 rfl rfl rfl ?_
          refine j_callVv (n := 45) (Y1 := Y_X8_look) (5 * ix + 0 + 24 + 8) dX10_verdict_42 m_X10_144 cy_X8_look ci_X8_look (c_lookT hr tr.1) rfl rfl rfl (tp_get (G := G) (tail := E.map eCell ++ tail) (c := 0) (by omega) T ix r hr) rfl (by omega) (by omega) (by omega) (Nat.le_of_ble_eq_true rfl) (fun w h => ?_)
          subst h
          obtain ⟨l1, l2⟩ := tr.look hps
          have kl := lookR_keep (F 12) (N 5) r
          have hT2 := EQT.set hr kl
          have hX2 := hX.set (i := ix) l1
          have gr : (T.set ix (lookR (F 12) (N 5) r))[ix]? = some (lookR (F 12) (N 5) r) := gs_eq hr
          rw [← kl.1]
          have kn1 : tLen r = tLen (lookR (F 12) (N 5) r) := kl.2.1.symm
          have kn2 : tT r = tT (lookR (F 12) (N 5) r) := kl.2.2.symm
          rw [kn1, kn2]
          clear kn1 kn2 tr kl
          have hE2 := hE.eqt hT2
          generalize lookR (F 12) (N 5) r = r1 at l1 l2 gr hX2 hT2 hE2 ⊢
          generalize T.set ix r1 = T2 at hT2 hX2 gr hE2 ⊢
          obtain ⟨s1, s2⟩ := l1.2.2.2.2.2.1 l2
          have hR2 : RUN Q N Z F T Q N Z F T2 := ⟨EQS.rf Q N Z F, hT2, hP, hX2⟩
          dsimp only
          rw [← s1]
          have hl := l1.1
          have hnl := l1.2.2.2.1
          refine j_aload (n := 47) dX10_verdict_45 rfl rfl ?_
          refine j_getN (n := 50) (5 * ix + 0 + 24 + 8) dX10_verdict_47 f_X10_148 rfl (tp_get (G := G) (tail := E.map eCell ++ tail) (c := 0) (by omega) T2 ix r1 gr) rfl ?_
          refine j_if_ne (n := 53) 55 dX10_verdict_50 (by decide) rfl (fun c3 => ?_) (fun c3 => ?_)
          · have hn0 : ¬ tN r1 = 0 := fun q => c3 (show nI (tN r1) = 0 by rw [q]; rfl)
            rw [if_neg hn0]
            refine j_aload_n (n := 56) dX10_verdict_55 rfl rfl ?_
            refine j_aload (n := 58) dX10_verdict_56 rfl rfl ?_
            refine j_iload_n (n := 59) dX10_verdict_58 rfl rfl ?_
            refine j_callVi (n := 62) (Y1 := Y_X10_isHeld) 8 dX10_verdict_59 m_X10_209 cy_X10_isHeld ci_X10_isHeld (c_isHeld hP hX2 gr l2 hE2 hf) rfl rfl rfl rfl rfl (by omega) (by omega) (by omega) (Nat.le_of_ble_eq_true rfl) (fun z w h => ?_)
            obtain ⟨hz, T3, r2, rfl, hT3, hX3, gr3, l3⟩ := h
            subst hz
            obtain ⟨k1, k2, k3, k4⟩ := hT3.at gr
            have : k1 = r2 := Option.some.inj (k2.symm.trans gr3)
            subst this
            have hR3 : RUN Q N Z F T Q N Z F T3 := hR2.tr ⟨EQS.rf Q N Z F, hT3, hP, hX3⟩
            rw [← k3, ← k4.1, ← k4.2]
            have tk := hX3 ix k1 gr3
            refine j_if_eq (n := 65) 67 dX10_verdict_62 (by decide) rfl (fun c4 => ?_) (fun c4 => ?_)
            · rw [if_neg (by rw [b01_0 c4]; exact Bool.false_ne_true)]
              refine j_aload_n (n := 68) dX10_verdict_67 rfl rfl ?_
              refine j_getN (n := 71) (16 + j) dX10_verdict_68 f_X10_202 rfl (hreg _ _) rfl ?_
              have klto : JJ G Y_X10_verdict 6 (mc0 N Z F) (ms0 N Z F) (Qi (fun r w => r = vdT (rf j) (ltoS (cCT N F) er eo es el et (F 12) (tLen k1) (tT k1) (nI j) ow (rw j) (N 7)) ∧ ∃ (Q' N' : Nat → Nat) (Z' : Nat → Int32) (F' : Nat → Nat → Int32) (T' : List TR), w = cW G Q' N' Z' F' (some (k1.1 0)) Ef (poolE G T' E tail) ∧ RUN Q N Z F T Q' N' Z' F' T')) 85 [(0, .ref (Q 8)), (1, .int (nI j)), (2, .int ow), (3, .ref qa), (4, .ref (k1.1 0))] [] (cW G Q N Z F (some (k1.1 0)) Ef (poolE G T3 E tail)) 0 0 := by
                refine j_aload_n (n := 86) dX10_verdict_85 rfl rfl ?_
                refine j_aload (n := 88) dX10_verdict_86 rfl rfl ?_
                refine j_iload_n (n := 89) dX10_verdict_88 rfl rfl ?_
                refine j_iload_n (n := 90) dX10_verdict_89 rfl rfl ?_
                refine j_aload_n (n := 91) dX10_verdict_90 rfl rfl ?_
                refine j_getN (n := 94) (16 + j) dX10_verdict_91 f_X10_199 rfl (hreg _ _) rfl ?_
                rw [g2]
                refine j_callVi (n := 97) (Y1 := Y_X10_leastToOthers) 8 dX10_verdict_94 m_X10_213 cy_X10_leastToOthers ci_X10_leastToOthers (c_leastToOthers gr3 (hE2.eqt hT3) hf (by omega) (RUN.rf hP hX3)) rfl rfl rfl rfl rfl (by omega) (by omega) (by omega) (Nat.le_of_ble_eq_true rfl) (fun z w h => ?_)
                obtain ⟨hz, Q4, N4, Z4, F4, T4, rfl, hR4⟩ := h
                subst hz
                have hR5 := hR3.tr hR4
                have hLe := ltoS_le (C := cCT N F) (er := er) (eo := eo) (es := es) (el := el) (et := et) (hw := F 12) (lx := tLen k1) (tx := tT k1) (q := nI j) (ow := ow) (lim := rw j) (N 7)
                generalize ltoS (cCT N F) er eo es el et (F 12) (tLen k1) (tT k1) (nI j) ow (rw j) (N 7) = L at hLe ⊢
                have hreg4 := rg_get (G := G) (Q := Q4) (N := N4) (Z := Z4) (F := F4) (nm := some (k1.1 0)) (Ef := Ef) (P := poolE G T4 E tail) hj
                rw [hR4.1.2.1 (16 + j) (by omega), hqa, hR4.1.2.2.2.1 (10 + 3 * j) (by omega), hR4.1.2.2.2.1 (11 + 3 * j) (by omega), g1, g2] at hreg4
                refine j_istore (n := 99) dX10_verdict_97 rfl (by decide) ?_
                refine j_iload (n := 101) dX10_verdict_99 rfl rfl ?_
                refine j_aload_n (n := 102) dX10_verdict_101 rfl rfl ?_
                refine j_getN (n := 105) (16 + j) dX10_verdict_102 f_X10_196 rfl hreg4 rfl ?_
                unfold vdT
                cases L with
                | none =>
                  refine j_icmp_gt (n := 108) 110 dX10_verdict_105 (by decide) rfl (fun c5 => ?_) (fun c5 => ?_)
                  · refine j_iload (n := 112) dX10_verdict_110 rfl rfl ?_
                    refine j_aload_n (n := 113) dX10_verdict_112 rfl rfl ?_
                    refine j_getN (n := 116) (16 + j) dX10_verdict_113 f_X10_199 rfl hreg4 rfl ?_
                    refine j_icmp_gt (n := 119) 123 dX10_verdict_116 (by decide) rfl (fun c6 => ?_) (fun c6 => ?_)
                    · refine j_iconst (n := 124) (0) dX10_verdict_123 rfl (by decide) ?_
                      exact j_iret dX10_verdict_124 rfl rfl (by omega) (by omega) (⟨rfl, Q4, N4, Z4, F4, T4, rfl, hR5⟩)
                    · exact absurd (show nI (rw j) < nI FF from nI_lt (by omega) (by omega)) (fun q => c6 q)
                  · exact absurd (show nI (rf j) < nI FF from nI_lt (by omega) (by omega)) (fun q => c5 q)
                | some v =>
                  have hv := hLe v rfl
                  refine j_icmp_gt (n := 108) 110 dX10_verdict_105 (by decide) rfl (fun c5 => ?_) (fun c5 => ?_)
                  · have h1 : ¬ v ≤ rf j := fun q => Int32.not_le.mpr (show nI (rf j) < nI v from c5) (nI_le q (by omega))
                    refine j_iload (n := 112) dX10_verdict_110 rfl rfl ?_
                    refine j_aload_n (n := 113) dX10_verdict_112 rfl rfl ?_
                    refine j_getN (n := 116) (16 + j) dX10_verdict_113 f_X10_199 rfl hreg4 rfl ?_
                    refine j_icmp_gt (n := 119) 123 dX10_verdict_116 (by decide) rfl (fun c6 => ?_) (fun c6 => ?_)
                    · exact absurd (nI_le hv (by omega)) (Int32.not_le.mpr (show nI (rw j) < nI v from c6))
                    · refine j_iconst (n := 120) (1) dX10_verdict_119 rfl (by decide) ?_
                      refine j_goto 124 dX10_verdict_120 (by decide) ?_
                      exact j_iret dX10_verdict_124 rfl rfl (by omega) (by omega) (⟨(if_neg h1).symm, Q4, N4, Z4, F4, T4, rfl, hR5⟩)
                  · have h1 : v ≤ rf j := Decidable.byContradiction (fun q => c5 (show nI (rf j) < nI v from nI_lt (by omega) (by omega)))
                    refine j_iconst (n := 109) (2) dX10_verdict_108 rfl (by decide) ?_
                    exact j_iret dX10_verdict_109 rfl rfl (by omega) (by omega) (⟨(if_pos h1).symm, Q4, N4, Z4, F4, T4, rfl, hR5⟩)
              rw [g3]
              refine j_if_eq (n := 74) 85 dX10_verdict_71 (by decide) rfl (fun c5 => ?_) (fun c5 => ?_)
              · rw [if_neg (fun q => q.1 c5)]
                refine j_keep [0, 1, 2, 3, 4] rfl ?_
                exact klto
              · refine j_aload_n (n := 75) dX10_verdict_74 rfl rfl ?_
                refine j_aload (n := 77) dX10_verdict_75 rfl rfl ?_
                refine j_callVe (n := 80) (Y1 := Y_X10_isMixed) 8 dX10_verdict_77 m_X10_165 cy_X10_isMixed ci_X10_isMixed (c_isMixed gr3 hX3 l3 h6) rfl rfl rfl rfl rfl (by omega) (by omega) (by omega) (Nat.le_of_ble_eq_true rfl) ?_
                refine j_if_eq (n := 83) 85 dX10_verdict_80 (by decide) rfl (fun c6 => ?_) (fun c6 => ?_)
                · rw [if_neg (fun q => Bool.false_ne_true ((b01_0 c6).symm.trans q.2))]
                  refine j_keep [0, 1, 2, 3, 4] rfl ?_
                  exact klto
                · rw [if_pos ⟨c5, b01_n0 c6⟩]
                  refine j_iconst (n := 84) (2) dX10_verdict_83 rfl (by decide) ?_
                  exact j_iret dX10_verdict_84 rfl rfl (by omega) (by omega) (⟨rfl, Q, N, Z, F, T3, rfl, hR3⟩)
            · rw [if_pos (b01_n0 c4)]
              refine j_iconst (n := 66) (3) dX10_verdict_65 rfl (by decide) ?_
              exact j_iret dX10_verdict_66 rfl rfl (by omega) (by omega) (⟨rfl, Q, N, Z, F, T3, rfl, hR3⟩)
          · have hn0 : tN r1 = 0 := (nI_eq (by omega) (by omega)).mp c3
            rw [if_pos hn0]
            refine j_iconst (n := 54) (-1) dX10_verdict_53 rfl (by decide) ?_
            exact j_iret dX10_verdict_54 rfl rfl (by omega) (by omega) (⟨rfl, Q, N, Z, F, T2, rfl, hR2⟩)
      · rw [if_pos (Or.inr (Or.inr (Int32.not_lt.mp c2)))]
        refine j_bipush (n := 22) (-2) dX10_verdict_20 rfl (by decide) ?_
        exact j_iret dX10_verdict_22 rfl rfl (by omega) (by omega) (⟨rfl, Q, N, Z, F, T, rfl, hRr⟩)
theorem c_ask {q ow : Int32} (hP : PInv N Z F) (hX : XInv N F T) (hE : ENT E T (N 7) er eo es el et) (hf : EFI E Ef) (hN : NMI nm T ns) (hG : RGI Z rf rw rs) (h6 : N 6 ≤ 8) : JM G Y_X10_ask 7 (mc0 N Z F) (ms0 N Z F) [.ref (Q 8), .int q, .int ow] (cW G Q N Z F nm Ef (poolE G T E tail)) (Qi (fun r w => r = vdS (cCT N F) (F 11) (F 12) (N 6) (F 14) (N 7) er eo es el et rf rw rs ns q ow ∧ ∃ (Q' N' : Nat → Nat) (Z' : Nat → Int32) (F' : Nat → Nat → Int32) (T' : List TR), w = cW G Q' N' Z' F' nm Ef (poolE G T' E tail) ∧ RUN Q N Z F T Q' N' Z' F' T')) := by
  refine JM.of [(0, .ref (Q 8)), (1, .int q), (2, .int ow)] rfl rfl (by simp) (Nat.le_of_ble_eq_true rfl) (by decide +kernel) ?_
  refine j_aload_n (n := 1) dX10_ask_0 rfl rfl ?_
  refine j_iload_n (n := 2) dX10_ask_1 rfl rfl ?_
  refine j_iload_n (n := 3) dX10_ask_2 rfl rfl ?_
  refine j_callVi (n := 6) (Y1 := Y_X10_verdict) 8 dX10_ask_3 m_X10_206 cy_X10_verdict ci_X10_verdict (c_verdict hP hX hE hf hN hG h6) rfl rfl rfl rfl rfl (by omega) (by omega) (by omega) (Nat.le_of_ble_eq_true rfl) (fun z w h => ?_)
  exact j_iret dX10_ask_6 rfl rfl (by omega) (by omega) (h)
def farS (C : CT) (hw : Nat → Int32) (en : Nat) (es : Nat → Int32) (el : Nat → Nat) (et : Nat → Nat → Int32) (ns : Option (Nat × (Nat → Int32))) (e : Int32) : Int32 :=
  if stnd en es e = false then -2 else match ns with
  | none => -1
  | some n => wlim 536870911 (dst C hw n.1 n.2 (el e.toNatClampNeg) (et e.toNatClampNeg))
theorem c_far {e : Int32} (hP : PInv N Z F) (hX : XInv N F T) (hE : ENT E T (N 7) er eo es el et) (hf : EFI E Ef) (hN : NMI nm T ns) : JM G Y_X10_far 7 (mc0 N Z F) (ms0 N Z F) [.ref (Q 8), .int e] (cW G Q N Z F nm Ef (poolE G T E tail)) (Qi (fun r w => r = farS (cCT N F) (F 12) (N 7) es el et ns e ∧ ∃ (Q' N' : Nat → Nat) (Z' : Nat → Int32) (F' : Nat → Nat → Int32) (T' : List TR), w = cW G Q' N' Z' F' nm Ef (poolE G T' E tail) ∧ RUN Q N Z F T Q' N' Z' F' T')) := by
  have hRr := RUN.rf (Q := Q) hP hX
  have h7 := hE.2.1
  unfold farS
  refine JM.of [(0, .ref (Q 8)), (1, .int e)] rfl rfl (by simp) (Nat.le_of_ble_eq_true rfl) (by decide +kernel) ?_
  refine j_aload_n (n := 1) dX10_far_0 rfl rfl ?_
  refine j_iload_n (n := 2) dX10_far_1 rfl rfl ?_
  refine j_callVr (n := 5) (Y1 := Y_X10_standingAt) 8 dX10_far_2 m_X10_217 cy_X10_standingAt ci_X10_standingAt (c_standingAt hE hf) rfl rfl rfl rfl rfl (by omega) (by omega) (by omega) (Nat.le_of_ble_eq_true rfl) (fun o w h => ?_)
  obtain ⟨rfl, h⟩ := h
  rcases h with ⟨hs, rfl⟩ | ⟨hs, j, x, rfl, hj, hxe, rfl⟩
  · rw [if_pos hs]
    refine j_astore_nN (n := 6) dX10_far_5 rfl (by decide) ?_
    refine j_aload_nN (n := 7) dX10_far_6 rfl rfl ?_
    refine j_ifnonnullN (n := 10) dX10_far_7 rfl ?_
    refine j_bipush (n := 12) (-2) dX10_far_10 rfl (by decide) ?_
    exact j_iret dX10_far_12 rfl rfl (by omega) (by omega) (⟨rfl, Q, N, Z, F, T, rfl, hRr⟩)
  · rw [if_neg (by rw [hs]; exact Bool.noConfusion)]
    obtain ⟨x1, r, g1, g2, g3, g4, g5, g6, g8, g9, -⟩ := hE.2.2 j hj
    have : x1 = x := Option.some.inj (g1.symm.trans hxe)
    subst this
    rw [nI_clamp (show j < 2 ^ 31 by omega), ← g8, ← g9]
    rcases hN with ⟨rfl, rfl⟩ | ⟨ix, rx, hx, rfl, rfl⟩
    · refine j_astore_n (n := 6) dX10_far_5 rfl (by decide) ?_
      refine j_aload_n (n := 7) dX10_far_6 rfl rfl ?_
      refine j_ifnonnull 13 dX10_far_7 (by decide) ?_
      refine j_aload_n (n := 14) dX10_far_13 rfl rfl ?_
      refine j_get (n := 17) 8 dX10_far_14 f_X10_38 rfl rfl rfl ?_
      refine j_ifnonnullN (n := 20) dX10_far_17 rfl ?_
      refine j_iconst (n := 21) (-1) dX10_far_20 rfl (by decide) ?_
      refine j_goto 38 dX10_far_21 (by decide) ?_
      exact j_iret dX10_far_38 rfl rfl (by omega) (by omega) (⟨rfl, Q, N, Z, F, T, rfl, hRr⟩)
    · refine j_astore_n (n := 6) dX10_far_5 rfl (by decide) ?_
      refine j_aload_n (n := 7) dX10_far_6 rfl rfl ?_
      refine j_ifnonnull 13 dX10_far_7 (by decide) ?_
      refine j_aload_n (n := 14) dX10_far_13 rfl rfl ?_
      refine j_get (n := 17) 8 dX10_far_14 f_X10_38 rfl rfl rfl ?_
      refine j_ifnonnull 24 dX10_far_17 (by decide) ?_
      refine j_aload_n (n := 25) dX10_far_24 rfl rfl ?_
      refine j_aload_n (n := 26) dX10_far_25 rfl rfl ?_
      refine j_get (n := 29) 8 dX10_far_26 f_X10_38 rfl rfl rfl ?_
      refine j_aload_n (n := 30) dX10_far_29 rfl rfl ?_
      refine j_getN (n := 33) (5 * T.length + j + 24 + 8) dX10_far_30 f_X10_224 rfl (ep_get (G := G) (T := T) (tail := tail) hxe) rfl ?_
      refine j_ldc (n := 35) dX10_far_33 rfl k_X10_254 ?_
      refine j_eq (st' := [.int (nI 536870911), .ref (r.1 0), .ref (rx.1 0), .ref (Q 8)]) rfl rfl (by rw [g3]; rfl) rfl ?_
      refine j_callVi (n := 38) (Y1 := Y_X10_costBetween) 8 dX10_far_35 m_X10_238 cy_X10_costBetween ci_X10_costBetween (c_costR hRr hx g2 (by have := ff_v; omega)) rfl rfl rfl rfl rfl (by omega) (by omega) (by omega) (Nat.le_of_ble_eq_true rfl) (fun z w h => ?_)
      obtain ⟨hz, Q2, N2, Z2, F2, T2, rfl, hR2, -⟩ := h
      exact j_iret dX10_far_38 rfl rfl (by omega) (by omega) (⟨hz, Q2, N2, Z2, F2, T2, rfl, hR2⟩)
end VD

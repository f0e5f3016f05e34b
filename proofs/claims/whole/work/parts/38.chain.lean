/-! chain, count -/
theorem XInv.eqs {Q N Q' N' : Nat → Nat} {Z Z' : Nat → Int32} {F F' : Nat → Nat → Int32} {T : List TR} (h : XInv N F T) (hs : EQS Q N Z F Q' N' Z' F') : XInv N' F' T := by
  obtain ⟨e1, e2, e3, e4, -⟩ := hs.cct
  intro i r hr
  rw [e1, e2, e3, e4]
  exact h i r hr
section CH
variable {G : GT} {Q N : Nat → Nat} {Z : Nat → Int32} {F : Nat → Nat → Int32} {nm : Option Nat} {Ef : Nat → Option Nat} {T : List TR} {E : List ER} {tail P : va_W} {er eo es : Nat → Int32} {el : Nat → Nat} {et : Nat → Nat → Int32} {rf rw : Nat → Nat} {rs : Nat → Int32} {ns : Option (Nat × (Nat → Int32))}
theorem c_close0 (hP : PInv N Z F) : JM G Y_X4_closeChains 3 (mc0 N Z F) (ms0 N Z F) [.ref (Q 0)] (cW G Q N Z F nm Ef P) (Qv (fun w => ∃ (Q' N' : Nat → Nat) (Z' : Nat → Int32) (F' : Nat → Nat → Int32), w = cW G Q' N' Z' F' nm Ef P ∧ EQS Q N Z F Q' N' Z' F' ∧ F' 22 = F 22 ∧ PInv N' Z' F' ∧ Z' 0 = nI (N' 1) ∧ N' 3 = clLn (decide (Z 0 = nI (N 1))) (nd (cCT N F)).2 (N 3))) := c_closeW hP
theorem c_countW (hP : PInv N Z F) : JM G Y_X4_countPieces 4 (mc0 N Z F) (ms0 N Z F) [.ref (Q 0)] (cW G Q N Z F nm Ef P) (Qi (fun r w => r = nI (nd (cCT N F)).2 ∧ ∃ (Q' N' : Nat → Nat) (Z' : Nat → Int32) (F' : Nat → Nat → Int32), w = cW G Q' N' Z' F' nm Ef P ∧ EQS Q N Z F Q' N' Z' F' ∧ PInv N' Z' F')) := by
  obtain ⟨h1, h2, h3, h4, h5, h6⟩ := hP
  refine (c_countPieces (G := G) (rest := cRest G Q N Z F nm Ef ++ P) (A := Q) h1 h2 h3).imp (fun r w hw => ?_)
  obtain ⟨v, hv, hr, A', cs', la', be', ll', hw, hA, hcl⟩ := hw
  have hm := hcl.1
  refine ⟨v, hv, hr, fun i => if i < 8 then A' i else Q i, va_up (va_up N 2 (nd (cCT N F)).2) 3 (clLn (decide (Z 0 = nI (N 1))) (nd (cCT N F)).2 (N 3)), va_up Z 0 (nI (N 1)), va_up (va_up (va_up (va_up F 4 cs') 5 la') 6 be') 7 ll', ?_, ⟨hA, ?_, ?_, ?_, ?_⟩, ⟨h1, ?_, fun _ => hcl, Or.inr ⟨N 1, Nat.le_refl _, rfl⟩, h5, h6⟩⟩
  · rw [hw]
    have e : cRest G (fun i => if i < 8 then A' i else Q i) (va_up (va_up N 2 (nd (cCT N F)).2) 3 (clLn (decide (Z 0 = nI (N 1))) (nd (cCT N F)).2 (N 3))) (va_up Z 0 (nI (N 1))) (va_up (va_up (va_up (va_up F 4 cs') 5 la') 6 be') 7 ll') nm Ef = cRest G Q N Z F nm Ef := by
      have e1 := cRest_q (G := G) (Q := Q) (N := N) (Z := Z) (F := F) (nm := nm) (Ef := Ef) (Q' := fun i => if i < 8 then A' i else Q i) hA (fun i hi => if_neg (by omega))
      rw [← e1]
      rfl
    show _ = _ ++ (cRest _ _ _ _ _ _ _ ++ P)
    rw [e]
    rfl
  · intro i hi; exact if_neg (by omega)
  · intro i a b
    show (if i = 3 then _ else if i = 2 then _ else N i) = N i
    rw [if_neg b, if_neg a]
  · intro i a
    show (if i = 0 then _ else Z i) = Z i
    rw [if_neg a]
  · intro i a1 a2 a3 a4 a5
    show (if i = 7 then _ else if i = 6 then _ else if i = 5 then _ else if i = 4 then _ else F i) = F i
    rw [if_neg a4, if_neg a3, if_neg a2, if_neg a1]
  · show clLn _ _ _ ≤ 14400
    unfold clLn
    split
    · exact h2
    · exact (newLn_le (nd_le h1) h2).1
def chS (C : CT) (p q : Int32) : Int32 := if pcB p = true ∧ pcB q = true then (if p = q then 0 else match tbc C p q with
  | some v => nI v
  | none => -1) else -2
theorem c_chain {p q : Int32} (hP : PInv N Z F) : JM G Y_X10_chain 4 (mc0 N Z F) (ms0 N Z F) [.ref (Q 8), .int p, .int q] (cW G Q N Z F nm Ef P) (Qi (fun r w => r = chS (cCT N F) p q ∧ ∃ (Q' N' : Nat → Nat) (Z' : Nat → Int32) (F' : Nat → Nat → Int32), w = cW G Q' N' Z' F' nm Ef P ∧ EQS Q N Z F Q' N' Z' F' ∧ PInv N' Z' F')) := by
  unfold chS
  have hff := ff_v
  refine JM.of [(0, .ref (Q 8)), (1, .int p), (2, .int q)] rfl rfl (by simp) (Nat.le_of_ble_eq_true rfl) (by decide +kernel) ?_
  refine j_iload_n (n := 1) dX10_chain_0 rfl rfl ?_
  refine j_callSe (n := 4) (Y1 := Y_X10_isPiece) dX10_chain_1 m_X10_109 cy_X10_isPiece cs_X10_isPiece (c_isPiece) rfl rfl rfl (by omega) (by omega) (by omega) (Nat.le_of_ble_eq_true rfl) ?_
  refine j_if_eq (n := 7) 14 dX10_chain_4 (by decide) rfl (fun c => ?_) (fun c => ?_)
  · rw [if_neg (fun h => Bool.false_ne_true ((b01_0 c).symm.trans h.1))]
    refine j_bipush (n := 16) (-2) dX10_chain_14 rfl (by decide) ?_
    exact j_iret dX10_chain_16 rfl rfl (by omega) (by omega) (⟨rfl, Q, N, Z, F, rfl, EQS.rf Q N Z F, hP⟩)
  · refine j_iload_n (n := 8) dX10_chain_7 rfl rfl ?_
    refine j_callSe (n := 11) (Y1 := Y_X10_isPiece) dX10_chain_8 m_X10_109 cy_X10_isPiece cs_X10_isPiece (c_isPiece) rfl rfl rfl (by omega) (by omega) (by omega) (Nat.le_of_ble_eq_true rfl) ?_
    refine j_if_ne (n := 14) 17 dX10_chain_11 (by decide) rfl (fun c1 => ?_) (fun c1 => ?_)
    · rw [if_pos ⟨b01_n0 c, b01_n0 c1⟩]
      refine j_iload_n (n := 18) dX10_chain_17 rfl rfl ?_
      refine j_iload_n (n := 19) dX10_chain_18 rfl rfl ?_
      refine j_icmp_ne (n := 22) 24 dX10_chain_19 (by decide) rfl (fun c2 => ?_) (fun c2 => ?_)
      · rw [if_neg c2]
        refine j_aload_n (n := 25) dX10_chain_24 rfl rfl ?_
        refine j_get (n := 28) 8 dX10_chain_25 f_X10_34 rfl rfl rfl ?_
        refine j_callVv (n := 31) (Y1 := Y_X4_closeChains) 0 dX10_chain_28 m_X10_119 cy_X4_closeChains ci_X4_closeChains (c_close0 hP) rfl rfl rfl rfl rfl (by omega) (by omega) (by omega) (Nat.le_of_ble_eq_true rfl) (fun w h => ?_)
        obtain ⟨Q', N', Z', F', rfl, hS, -, hP', hc', -⟩ := h
        have hcl := hP'.2.2.1 hc'
        have hm120 : N' 2 ≤ 120 := by rw [hcl.1]; exact nd_le hP'.1
        have hC := hcl.2.2.1
        have hL := hP'.2.1
        obtain ⟨eC, -⟩ := hS.cct
        have e8 := hS.2.1 8 (by omega)
        rw [← e8]
        refine j_aload_n (n := 32) dX10_chain_31 rfl rfl ?_
        refine j_get (n := 35) 8 dX10_chain_32 f_X10_34 rfl rfl rfl ?_
        refine j_aload_n (n := 36) dX10_chain_35 rfl rfl ?_
        refine j_get (n := 39) 8 dX10_chain_36 f_X10_34 rfl rfl rfl ?_
        refine j_iload_n (n := 40) dX10_chain_39 rfl rfl ?_
        refine j_callVe (n := 43) (Y1 := Y_X4_indexOf) 0 dX10_chain_40 m_X10_122 cy_X4_indexOf ci_X4_indexOf (c_indexOf hC hm120) rfl rfl rfl rfl rfl (by omega) (by omega) (by omega) (Nat.le_of_ble_eq_true rfl) ?_
        refine j_aload_n (n := 44) dX10_chain_43 rfl rfl ?_
        refine j_get (n := 47) 8 dX10_chain_44 f_X10_34 rfl rfl rfl ?_
        refine j_iload_n (n := 48) dX10_chain_47 rfl rfl ?_
        refine j_callVe (n := 51) (Y1 := Y_X4_indexOf) 0 dX10_chain_48 m_X10_122 cy_X4_indexOf ci_X4_indexOf (c_indexOf hC hm120) rfl rfl rfl rfl rfl (by omega) (by omega) (by omega) (Nat.le_of_ble_eq_true rfl) ?_
        refine j_callVe (n := 54) (Y1 := Y_X4_leastBetween) 0 dX10_chain_51 m_X10_126 cy_X4_leastBetween ci_X4_leastBetween (c_leastBetween hm120 hcl.2.2.2.1 hL) rfl rfl rfl rfl rfl (by omega) (by omega) (by omega) (Nat.le_of_ble_eq_true rfl) ?_
        have elb : lbF (N' 2) (F' 7) (idxF (F' 4) p (N' 2)) (idxF (F' 4) q (N' 2)) = ec FF (tbc (cCT N F) p q) := by
          rw [idxF_congr (N' 2) hcl.2.1, idxF_congr (N' 2) hcl.2.1]
          have e2 := hcl.1
          have hX := hcl.2.2.2.2
          rw [e2] at hX ⊢
          rw [← eC]
          exact lb_ok hP'.1 rfl hX
        refine j_top (ec FF (tbc (cCT N F) p q)) elb ?_
        refine j_istore_n (n := 55) dX10_chain_54 rfl (by decide) ?_
        refine j_iload_n (n := 56) dX10_chain_55 rfl rfl ?_
        refine j_ldc (n := 58) dX10_chain_56 rfl k_X10_129 ?_
        cases ht : tbc (cCT N F) p q with
        | none =>
          refine j_icmp_ge (n := 61) 65 dX10_chain_58 (by decide) rfl (fun c3 => ?_) (fun c3 => ?_)
          · refine j_iconst (n := 66) (-1) dX10_chain_65 rfl (by decide) ?_
            exact j_iret dX10_chain_66 rfl rfl (by omega) (by omega) (⟨rfl, Q', N', Z', F', rfl, hS, hP'⟩)
          · exact absurd (show nI FF ≤ nI FF from nI_le (by omega) (by omega)) c3
        | some v =>
          have hv := tbc_le hP.1 ht
          refine j_icmp_ge (n := 61) 65 dX10_chain_58 (by decide) rfl (fun c3 => ?_) (fun c3 => ?_)
          · exact absurd (show nI FF ≤ nI v from c3) (nI_ge (by omega) (by omega))
          · refine j_iload_n (n := 62) dX10_chain_61 rfl rfl ?_
            refine j_goto 66 dX10_chain_62 (by decide) ?_
            exact j_iret dX10_chain_66 rfl rfl (by omega) (by omega) (⟨rfl, Q', N', Z', F', rfl, hS, hP'⟩)
      · rw [if_pos c2]
        refine j_iconst (n := 23) (0) dX10_chain_22 rfl (by decide) ?_
        exact j_iret dX10_chain_23 rfl rfl (by omega) (by omega) (⟨rfl, Q, N, Z, F, rfl, EQS.rf Q N Z F, hP⟩)
    · rw [if_neg (fun h => Bool.false_ne_true ((b01_0 c1).symm.trans h.2))]
      refine j_bipush (n := 16) (-2) dX10_chain_14 rfl (by decide) ?_
      exact j_iret dX10_chain_16 rfl rfl (by omega) (by omega) (⟨rfl, Q, N, Z, F, rfl, EQS.rf Q N Z F, hP⟩)
def crS (rf rw : Nat → Nat) (rs : Nat → Int32) (w : Int32) : Int32 := if w < 10 then -1 else if (w - w / 10 * 10) < 0 ∨ 4 ≤ (w - w / 10 * 10) then -1 else if w / 10 = 1 then nI (rf (w - w / 10 * 10).toNatClampNeg) else if w / 10 = 2 then nI (rw (w - w / 10 * 10).toNatClampNeg) else if w / 10 = 3 then rs (w - w / 10 * 10).toNatClampNeg else -1
theorem c_countOfRegister {w : Int32} (hG : RGI Z rf rw rs) : JE G Y_X10_countOfRegister 1 0 0 [.ref (Q 8), .int w] (cW G Q N Z F nm Ef P) (crS rf rw rs w) (cW G Q N Z F nm Ef P) := by
  unfold crS
  refine JM.of [(0, .ref (Q 8)), (1, .int w)] rfl rfl (by simp) (Nat.le_of_ble_eq_true rfl) (by decide +kernel) ?_
  refine j_iload_n (n := 1) dX10_countOfRegister_0 rfl rfl ?_
  refine j_bipush (n := 3) (10) dX10_countOfRegister_1 rfl (by decide) ?_
  refine j_icmp_ge (n := 6) 8 dX10_countOfRegister_3 (by decide) rfl (fun c => ?_) (fun c => ?_)
  · rw [if_neg (Int32.not_lt.mpr c)]
    refine j_aload_n (n := 9) dX10_countOfRegister_8 rfl rfl ?_
    refine j_iload_n (n := 10) dX10_countOfRegister_9 rfl rfl ?_
    refine j_bipush (n := 12) (10) dX10_countOfRegister_10 rfl (by decide) ?_
    refine j_irem (n := 13) dX10_countOfRegister_12 rfl (by decide) ?_
    refine j_callVq (n := 16) (Y1 := Y_X10_registerAt) 8 dX10_countOfRegister_13 m_X10_192 cy_X10_registerAt ci_X10_registerAt (c_registerAt) rfl rfl rfl rfl rfl (by omega) (by omega) (by omega) (Nat.le_of_ble_eq_true rfl) ?_
    generalize w - w / 10 * 10 = v
    rcases ix3 v (n := 4) (by omega) with h | h | ⟨j, hj, rfl⟩
    · rw [rgF_none (Or.inl h), if_pos (Or.inl h)]
      refine j_astore_nN (n := 17) dX10_countOfRegister_16 rfl (by decide) ?_
      refine j_aload_nN (n := 18) dX10_countOfRegister_17 rfl rfl ?_
      refine j_ifnonnullN (n := 21) dX10_countOfRegister_18 rfl ?_
      refine j_iconst (n := 22) (-1) dX10_countOfRegister_21 rfl (by decide) ?_
      exact j_iret dX10_countOfRegister_22 rfl rfl (by omega) (by omega) (⟨rfl, rfl⟩)
    · rw [rgF_none (Or.inr h), if_pos (Or.inr (show 4 ≤ v from h))]
      refine j_astore_nN (n := 17) dX10_countOfRegister_16 rfl (by decide) ?_
      refine j_aload_nN (n := 18) dX10_countOfRegister_17 rfl rfl ?_
      refine j_ifnonnullN (n := 21) dX10_countOfRegister_18 rfl ?_
      refine j_iconst (n := 22) (-1) dX10_countOfRegister_21 rfl (by decide) ?_
      exact j_iret dX10_countOfRegister_22 rfl rfl (by omega) (by omega) (⟨rfl, rfl⟩)
    · have hq : ¬ (nI j < 0 ∨ 4 ≤ nI j) := fun q => q.elim (nI_pos (by omega)) (nI_ge (b := 4) hj (by omega))
      obtain ⟨g1, g2, g3, g4, g5, g6⟩ := hG j hj
      rw [rgF_some hj, if_neg hq, nI_clamp (show j < 2 ^ 31 by omega)]
      have hreg := rg_get (G := G) (Q := Q) (N := N) (Z := Z) (F := F) (nm := nm) (Ef := Ef) (P := P) hj
      rw [g1, g2, g3] at hreg
      generalize Q (16 + j) = qa at hreg ⊢
      refine j_astore_n (n := 17) dX10_countOfRegister_16 rfl (by decide) ?_
      refine j_aload_n (n := 18) dX10_countOfRegister_17 rfl rfl ?_
      refine j_ifnonnull 23 dX10_countOfRegister_18 (by decide) ?_
      refine j_iload_n (n := 24) dX10_countOfRegister_23 rfl rfl ?_
      refine j_bipush (n := 26) (10) dX10_countOfRegister_24 rfl (by decide) ?_
      refine j_idiv (n := 27) dX10_countOfRegister_26 rfl (by decide) ?_
      generalize w / 10 = u
      by_cases e1 : u = 1
      · subst e1
        refine j_tableIn 52 dX10_countOfRegister_27 (by decide) (by decide) (off := 25) (by decide) (by decide) ?_
        refine j_aload_n (n := 53) dX10_countOfRegister_52 rfl rfl ?_
        refine j_getN (n := 56) (16 + j) dX10_countOfRegister_53 f_X10_196 rfl hreg rfl ?_
        exact j_iret dX10_countOfRegister_56 rfl rfl (by omega) (by omega) (⟨rfl, rfl⟩)
      · by_cases e2 : u = 2
        · subst e2
          refine j_tableIn 57 dX10_countOfRegister_27 (by decide) (by decide) (off := 30) (by decide) (by decide) ?_
          refine j_aload_n (n := 58) dX10_countOfRegister_57 rfl rfl ?_
          refine j_getN (n := 61) (16 + j) dX10_countOfRegister_58 f_X10_199 rfl hreg rfl ?_
          exact j_iret dX10_countOfRegister_61 rfl rfl (by omega) (by omega) (⟨rfl, rfl⟩)
        · by_cases e3 : u = 3
          · subst e3
            refine j_tableIn 62 dX10_countOfRegister_27 (by decide) (by decide) (off := 35) (by decide) (by decide) ?_
            refine j_aload_n (n := 63) dX10_countOfRegister_62 rfl rfl ?_
            refine j_getN (n := 66) (16 + j) dX10_countOfRegister_63 f_X10_202 rfl hreg rfl ?_
            refine j_callSe (n := 69) (Y1 := Y_X10_bit) dX10_countOfRegister_66 m_X10_169 cy_X10_bit cs_X10_bit (c_bit) rfl rfl rfl (by omega) (by omega) (by omega) (Nat.le_of_ble_eq_true rfl) ?_
            exact j_iret dX10_countOfRegister_69 rfl rfl (by omega) (by omega) (⟨by rw [bit01 g6]; rfl, rfl⟩)
          · rw [if_neg e1, if_neg e2, if_neg e3]
            refine j_tableOut 70 dX10_countOfRegister_27 (sw13 e1 e2 e3) (by decide) ?_
            refine j_iconst (n := 71) (-1) dX10_countOfRegister_70 rfl (by decide) ?_
            exact j_iret dX10_countOfRegister_71 rfl rfl (by omega) (by omega) (⟨rfl, rfl⟩)
  · rw [if_pos (Int32.not_le.mp c)]
    refine j_iconst (n := 7) (-1) dX10_countOfRegister_6 rfl (by decide) ?_
    exact j_iret dX10_countOfRegister_7 rfl rfl (by omega) (by omega) (⟨rfl, rfl⟩)
def cnS (C : CT) (sn en tl : Nat) (es : Nat → Int32) (rf rw : Nat → Nat) (rs : Nat → Int32) (w : Int32) : Int32 := if w = 0 then nI C.1 else if w = 1 then nI sn else if w = 2 then nI en else if w = 3 then nI (cntS es en) else if w = 4 then nI tl else if w = 5 then nI (nd C).2 else crS rf rw rs w
theorem c_count {w : Int32} (hP : PInv N Z F) (hE : ENT E T (N 7) er eo es el et) (hf : EFI E Ef) (hG : RGI Z rf rw rs) : JM G Y_X10_count 5 (mc0 N Z F) (ms0 N Z F) [.ref (Q 8), .int w] (cW G Q N Z F nm Ef (poolE G T E tail)) (Qi (fun r u => r = cnS (cCT N F) (N 6) (N 7) (N 4) es rf rw rs w ∧ ∃ (Q' N' : Nat → Nat) (Z' : Nat → Int32) (F' : Nat → Nat → Int32), u = cW G Q' N' Z' F' nm Ef (poolE G T E tail) ∧ EQS Q N Z F Q' N' Z' F' ∧ PInv N' Z' F')) := by
  have hres : ∀ v : Int32, v = cnS (cCT N F) (N 6) (N 7) (N 4) es rf rw rs w → v = cnS (cCT N F) (N 6) (N 7) (N 4) es rf rw rs w ∧ ∃ (Q' N' : Nat → Nat) (Z' : Nat → Int32) (F' : Nat → Nat → Int32), cW G Q N Z F nm Ef (poolE G T E tail) = cW G Q' N' Z' F' nm Ef (poolE G T E tail) ∧ EQS Q N Z F Q' N' Z' F' ∧ PInv N' Z' F' := fun v hv => ⟨hv, Q, N, Z, F, rfl, EQS.rf Q N Z F, hP⟩
  unfold cnS at hres ⊢
  refine JM.of [(0, .ref (Q 8)), (1, .int w)] rfl rfl (by simp) (Nat.le_of_ble_eq_true rfl) (by decide +kernel) ?_
  refine j_iload_n (n := 1) dX10_count_0 rfl rfl ?_
  by_cases e0 : w = 0
  · subst e0
    refine j_tableIn 40 dX10_count_1 (by decide) (by decide) (off := 39) (by decide) (by decide) ?_
    refine j_aload_n (n := 41) dX10_count_40 rfl rfl ?_
    refine j_get (n := 44) 8 dX10_count_41 f_X10_34 rfl rfl rfl ?_
    refine j_getN (n := 47) 0 dX10_count_44 f_X10_280 rfl rfl rfl ?_
    exact j_iret dX10_count_47 rfl rfl (by omega) (by omega) (hres _ rfl)
  · by_cases e1 : w = 1
    · subst e1
      refine j_tableIn 48 dX10_count_1 (by decide) (by decide) (off := 47) (by decide) (by decide) ?_
      refine j_aload_n (n := 49) dX10_count_48 rfl rfl ?_
      refine j_get (n := 52) 8 dX10_count_49 f_X10_27 rfl rfl rfl ?_
      refine j_getN (n := 55) 13 dX10_count_52 f_X10_283 rfl rfl rfl ?_
      exact j_iret dX10_count_55 rfl rfl (by omega) (by omega) (hres _ rfl)
    · by_cases e2 : w = 2
      · subst e2
        refine j_tableIn 56 dX10_count_1 (by decide) (by decide) (off := 55) (by decide) (by decide) ?_
        refine j_aload_n (n := 57) dX10_count_56 rfl rfl ?_
        refine j_get (n := 60) 8 dX10_count_57 f_X10_61 rfl rfl rfl ?_
        exact j_iret dX10_count_60 rfl rfl (by omega) (by omega) (hres _ rfl)
      · by_cases e3 : w = 3
        · subst e3
          refine j_tableIn 61 dX10_count_1 (by decide) (by decide) (off := 60) (by decide) (by decide) ?_
          refine j_aload_n (n := 62) dX10_count_61 rfl rfl ?_
          refine j_callVe (n := 65) (Y1 := Y_X10_countStanding) 8 dX10_count_62 m_X10_284 cy_X10_countStanding ci_X10_countStanding (c_countStanding hE hf) rfl rfl rfl rfl rfl (by omega) (by omega) (by omega) (Nat.le_of_ble_eq_true rfl) ?_
          exact j_iret dX10_count_65 rfl rfl (by omega) (by omega) (hres _ rfl)
        · by_cases e4 : w = 4
          · subst e4
            refine j_tableIn 66 dX10_count_1 (by decide) (by decide) (off := 65) (by decide) (by decide) ?_
            refine j_aload_n (n := 67) dX10_count_66 rfl rfl ?_
            refine j_get (n := 70) 8 dX10_count_67 f_X10_13 rfl rfl rfl ?_
            exact j_iret dX10_count_70 rfl rfl (by omega) (by omega) (hres _ rfl)
          · by_cases e5 : w = 5
            · subst e5
              refine j_tableIn 71 dX10_count_1 (by decide) (by decide) (off := 70) (by decide) (by decide) ?_
              refine j_aload_n (n := 72) dX10_count_71 rfl rfl ?_
              refine j_get (n := 75) 8 dX10_count_72 f_X10_34 rfl rfl rfl ?_
              refine j_callVi (n := 78) (Y1 := Y_X4_countPieces) 0 dX10_count_75 m_X10_288 cy_X4_countPieces ci_X4_countPieces (c_countW hP) rfl rfl rfl rfl rfl (by omega) (by omega) (by omega) (Nat.le_of_ble_eq_true rfl) (fun z u h => ?_)
              exact j_iret dX10_count_78 rfl rfl (by omega) (by omega) (h)
            · rw [if_neg e0, if_neg e1, if_neg e2, if_neg e3, if_neg e4, if_neg e5] at hres ⊢
              refine j_tableOut 79 dX10_count_1 (sw6 e0 e1 e2 e3 e4 e5) (by decide) ?_
              refine j_aload_n (n := 80) dX10_count_79 rfl rfl ?_
              refine j_iload_n (n := 81) dX10_count_80 rfl rfl ?_
              refine j_callVe (n := 84) (Y1 := Y_X10_countOfRegister) 8 dX10_count_81 m_X10_291 cy_X10_countOfRegister ci_X10_countOfRegister (c_countOfRegister hG) rfl rfl rfl rfl rfl (by omega) (by omega) (by omega) (Nat.le_of_ble_eq_true rfl) ?_
              exact j_iret dX10_count_84 rfl rfl (by omega) (by omega) (hres _ rfl)
end CH

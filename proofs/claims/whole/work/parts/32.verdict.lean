/-! isMixed, isHeld, leastToOthers, verdict, ask -/
def bitsS (sc hw : Nat → Int32) (len : Nat) (t : Nat → Int32) : Int32 := bitsF sc (seeF hw t len) (seeN hw t len) &&& 254
def mixB (bits : Int32) (sn : Nat) (bt : Nat → Int32) : Bool := decide (¬ bcF bits < 2) && !(heldB sn bt bits)
theorem bitsF_congr {sc s s' : Nat → Int32} : ∀ n : Nat, (∀ k, k < n → s k = s' k) → bitsF sc s n = bitsF sc s' n := by
  intro n
  induction n with
  | zero => intro _; rfl
  | succ n ih => intro h; unfold bitsF; rw [h n (by omega), ih (fun k hk => h k (by omega))]
def sameS (hw : Nat → Int32) (lx : Nat) (tx : Nat → Int32) (ly : Nat) (ty : Nat → Int32) : Bool := sameB (seeN hw ty ly) (seeN hw tx lx) (seeF hw ty ly) (seeF hw tx lx)
theorem sameB_congr {n m : Nat} {s s' u u' : Nat → Int32} (h1 : ∀ k, k < n → s k = s' k) (h2 : ∀ k, k < m → u k = u' k) : sameB n m s u = sameB n m s' u' := by
  unfold sameB
  by_cases e : n = m
  · subst e
    congr 1
    apply Bool.eq_iff_iff.mpr
    rw [List.all_eq_true, List.all_eq_true]
    constructor
    · intro h i hi
      have := h i hi
      rw [h1 i (List.mem_range.mp hi), h2 i (List.mem_range.mp hi)] at this
      exact this
    · intro h i hi
      rw [h1 i (List.mem_range.mp hi), h2 i (List.mem_range.mp hi)]
      exact h i hi
  · rw [decide_eq_false e]; rfl
def hldP (er es : Nat → Int32) (el : Nat → Nat) (et : Nat → Nat → Int32) (hw : Nat → Int32) (lx : Nat) (tx : Nat → Int32) (q : Int32) (e : Nat) : Bool := decide (¬ es e = 0) && decide (er e = q) && sameS hw lx tx (el e) (et e)
def hldF (en : Nat) (er es : Nat → Int32) (el : Nat → Nat) (et : Nat → Nat → Int32) (hw : Nat → Int32) (lx : Nat) (tx : Nat → Int32) (q : Int32) : Bool := (List.range en).any (hldP er es el et hw lx tx q)
def lmt (lim : Nat) (o : Option Nat) : Option Nat := match o with
  | some v => if v ≤ lim then some v else none
  | none => none
/-- the least within the limit, of those before n that stand in register q, of another owner -/
def ltoS (C : CT) (er eo es : Nat → Int32) (el : Nat → Nat) (et : Nat → Nat → Int32) (hw : Nat → Int32) (lx : Nat) (tx : Nat → Int32) (q ow : Int32) (lim : Nat) : Nat → Option Nat
  | 0 => none
  | n + 1 => if ¬ es n = 0 ∧ er n = q ∧ ¬ eo n = ow then oMin (ltoS C er eo es el et hw lx tx q ow lim n) (lmt lim (dst C hw lx tx (el n) (et n))) else ltoS C er eo es el et hw lx tx q ow lim n
theorem ltoS_le {C : CT} {er eo es : Nat → Int32} {el : Nat → Nat} {et : Nat → Nat → Int32} {hw : Nat → Int32} {lx : Nat} {tx : Nat → Int32} {q ow : Int32} {lim : Nat} : ∀ (n v : Nat), ltoS C er eo es el et hw lx tx q ow lim n = some v → v ≤ lim := by
  intro n
  induction n with
  | zero => intro v h; cases h
  | succ n ih =>
    intro v h
    unfold ltoS at h
    split at h
    · rcases oMin_some h with h | h
      · exact ih v h
      · unfold lmt at h
        split at h
        · split at h
          · cases h; assumption
          · cases h
        · cases h
    · exact ih v h
def mc0 (N : Nat → Nat) (Z : Nat → Int32) (F : Nat → Nat → Int32) : Nat := clMc (decide (Z 0 = nI (N 1))) (nd (cCT N F)).2 (N 3)
def ms0 (N : Nat → Nat) (Z : Nat → Int32) (F : Nat → Nat → Int32) : Nat := clMs (decide (Z 0 = nI (N 1))) (nd (cCT N F)).2 (N 3)
theorem mc0_0 {N : Nat → Nat} {Z : Nat → Int32} {F : Nat → Nat → Int32} (h : Z 0 = nI (N 1)) : mc0 N Z F = 0 ∧ ms0 N Z F = 0 := by
  unfold mc0 ms0 clMc clMs
  rw [decide_eq_true h]
  exact ⟨if_pos rfl, if_pos rfl⟩
/-- from one state to another: only what is kept for speed differs; all is in order -/
def RUN (Q N : Nat → Nat) (Z : Nat → Int32) (F : Nat → Nat → Int32) (T : List TR) (Q' N' : Nat → Nat) (Z' : Nat → Int32) (F' : Nat → Nat → Int32) (T' : List TR) : Prop := EQS Q N Z F Q' N' Z' F' ∧ EQT T T' ∧ PInv N' Z' F' ∧ XInv N' F' T'
theorem EQS.cct {Q N Q' N' : Nat → Nat} {Z Z' : Nat → Int32} {F F' : Nat → Nat → Int32} (h : EQS Q N Z F Q' N' Z' F') : cCT N' F' = cCT N F ∧ F' 12 = F 12 ∧ N' 5 = N 5 ∧ N' 1 = N 1 ∧ N' 7 = N 7 ∧ F' 11 = F 11 ∧ F' 14 = F 14 ∧ N' 6 = N 6 := by
  obtain ⟨q0, q8, qn, qz, qf⟩ := h
  refine ⟨?_, qf 12 (by decide) (by decide) (by decide) (by decide) (by decide), qn 5 (by decide) (by decide), qn 1 (by decide) (by decide), qn 7 (by decide) (by decide), qf 11 (by decide) (by decide) (by decide) (by decide) (by decide), qf 14 (by decide) (by decide) (by decide) (by decide) (by decide), qn 6 (by decide) (by decide)⟩
  show (N' 0, F' 1, F' 2, F' 3) = (N 0, F 1, F 2, F 3)
  rw [qn 0 (by decide) (by decide), qf 1 (by decide) (by decide) (by decide) (by decide) (by decide), qf 2 (by decide) (by decide) (by decide) (by decide) (by decide), qf 3 (by decide) (by decide) (by decide) (by decide) (by decide)]
theorem EQT.at {T T' : List TR} {i : Nat} {r : TR} (h : EQT T T') (hr : T[i]? = some r) : ∃ r', T'[i]? = some r' ∧ r'.1 = r.1 ∧ tLen r' = tLen r ∧ tT r' = tT r := by
  have hl := gs_lt hr
  obtain ⟨r', hr'⟩ : ∃ r', T'[i]? = some r' := ⟨T'[i]'(by rw [h.1]; exact hl), List.getElem?_eq_getElem _⟩
  obtain ⟨r1, a1, a2⟩ := h.2 i r' hr'
  have : r1 = r := Option.some.inj (a1.symm.trans hr)
  subst this
  exact ⟨r', hr', a2⟩
section VE
variable {G : GT} {Q N : Nat → Nat} {Z : Nat → Int32} {F : Nat → Nat → Int32} {nm : Option Nat} {Ef : Nat → Option Nat} {T : List TR} {E : List ER} {tail P : va_W} {er eo es : Nat → Int32} {el : Nat → Nat} {et : Nat → Nat → Int32}
theorem c_isMixed {i : Nat} {r : TR} (hT : T[i]? = some r) (hX : XInv N F T) (hst : tSt r = nI (N 5)) (h6 : N 6 ≤ 8) : JE G Y_X10_isMixed 3 0 0 [.ref (Q 8), .ref (r.1 0)] (cW G Q N Z F nm Ef (poolT G T tail)) (b01 (mixB (bitsS (F 11) (F 12) (tLen r) (tT r)) (N 6) (F 14))) (cW G Q N Z F nm Ef (poolT G T tail)) := by
  have tk := hX i r hT
  have tx := txa_of (G := G) (Q := Q) (N := N) (Z := Z) (F := F) (nm := nm) (Ef := Ef) (tail := tail) hT tk.2.2.2.1 tk.1
  obtain ⟨s1, s2⟩ := tk.2.2.2.2.2.1 hst
  have hb : (bitsF (F 11) (tS r) (tN r) &&& 254) = bitsS (F 11) (F 12) (tLen r) (tT r) := by
    unfold bitsS; rw [bitsF_congr (tN r) s2, s1]
  refine JM.of [(0, .ref (Q 8)), (1, .ref (r.1 0))] rfl rfl (by simp) (Nat.le_of_ble_eq_true rfl) (by decide +kernel) ?_
  refine j_aload_n (n := 1) dX10_isMixed_0 rfl rfl ?_
  refine j_aload_n (n := 2) dX10_isMixed_1 rfl rfl ?_
  refine j_get (n := 5) 8 dX10_isMixed_2 f_X10_20 rfl rfl rfl ?_
  refine j_callVe (n := 8) (Y1 := Y_X8_scriptBits) (5 * i + 24 + 8) dX10_isMixed_5 m_X10_161 cy_X8_scriptBits ci_X8_scriptBits (c_scriptBits (k0 := 5 * i + 24 + 8) tx.1 (k2 := 5 * i + 24 + 2 + 8) tx.2.2.1 (m0 := 10) rfl (m1 := 11) rfl tk.2.2.2.1 tk.1) rfl rfl rfl tx.1 rfl (by omega) (by omega) (by omega) (Nat.le_of_ble_eq_true rfl) ?_
  rw [hb]
  refine j_istore_n (n := 9) dX10_isMixed_8 rfl (by decide) ?_
  refine j_iload_n (n := 10) dX10_isMixed_9 rfl rfl ?_
  refine j_callSe (n := 13) (Y1 := Y_J6_bitCount_0f7a4) dX10_isMixed_10 m_X10_184 cy_J6_bitCount_0f7a4 cs_J6_bitCount_0f7a4 (c_bitCount) rfl rfl rfl (by omega) (by omega) (by omega) (Nat.le_of_ble_eq_true rfl) ?_
  refine j_iconst (n := 14) (2) dX10_isMixed_13 rfl (by decide) ?_
  unfold mixB
  refine j_icmp_lt (n := 17) 32 dX10_isMixed_14 (by decide) rfl (fun c => ?_) (fun c => ?_)
  · refine j_iconst (n := 33) (0) dX10_isMixed_32 rfl (by decide) ?_
    exact j_iret dX10_isMixed_33 rfl rfl (by omega) (by omega) (⟨by rw [decide_eq_false (fun q => q c)]; rfl, rfl⟩)
  · refine j_aload_n (n := 18) dX10_isMixed_17 rfl rfl ?_
    refine j_get (n := 21) 8 dX10_isMixed_18 f_X10_27 rfl rfl rfl ?_
    refine j_iload_n (n := 22) dX10_isMixed_21 rfl rfl ?_
    refine j_callVe (n := 25) (Y1 := Y_X6_holdTogether) 13 dX10_isMixed_22 m_X10_189 cy_X6_holdTogether ci_X6_holdTogether (c_holdTogether (k0 := 13) rfl (k1 := 14) rfl h6) rfl rfl rfl rfl rfl (by omega) (by omega) (by omega) (Nat.le_of_ble_eq_true rfl) ?_
    refine j_if_ne (n := 28) 32 dX10_isMixed_25 (by decide) rfl (fun c2 => ?_) (fun c2 => ?_)
    · refine j_iconst (n := 33) (0) dX10_isMixed_32 rfl (by decide) ?_
      exact j_iret dX10_isMixed_33 rfl rfl (by omega) (by omega) (⟨by rw [decide_eq_true c, b01_n0 c2]; rfl, rfl⟩)
    · refine j_iconst (n := 29) (1) dX10_isMixed_28 rfl (by decide) ?_
      refine j_goto 33 dX10_isMixed_29 (by decide) ?_
      exact j_iret dX10_isMixed_33 rfl rfl (by omega) (by omega) (⟨by rw [decide_eq_true c, b01_0 c2]; rfl, rfl⟩)
theorem held_lp {ix : Nat} {rx : TR} {q : Int32} (hP : PInv N Z F) (hx : T[ix]? = some rx) (hE : ENT E T (N 7) er eo es el et) (hf : EFI E Ef) :
    ∀ (k e : Nat), e + k = N 7 → ∀ (T' : List TR) (rx' : TR), EQT T T' → XInv N F T' → T'[ix]? = some rx' → tSt rx' = nI (N 5) → (∀ j, j < e → hldP er es el et (F 12) (tLen rx) (tT rx) q j = false) →
      JJ G Y_X10_isHeld 3 0 0 (Qi (fun r w => r = b01 (hldF (N 7) er es el et (F 12) (tLen rx) (tT rx) q) ∧ ∃ (T' : List TR) (rx' : TR), w = cW G Q N Z F nm Ef (poolE G T' E tail) ∧ EQT T T' ∧ XInv N F T' ∧ T'[ix]? = some rx' ∧ tSt rx' = nI (N 5))) 2 [(0, .ref (Q 8)), (1, .ref (rx.1 0)), (2, .int q), (3, .int (nI e))] [] (cW G Q N Z F nm Ef (poolE G T' E tail)) 0 0 := by
  have h7 := hE.2.1
  have hps : N 1 < 1000 := hP.2.2.2.2.1
  intro k
  induction k with
  | zero =>
    intro e he T' rx' hT hX hx' hsx hno
    refine j_iload_n (n := 3) dX10_isHeld_2 rfl rfl ?_
    refine j_aload_n (n := 4) dX10_isHeld_3 rfl rfl ?_
    refine j_get (n := 7) 8 dX10_isHeld_4 f_X10_61 rfl rfl rfl ?_
    refine j_icmp_ge (n := 10) 63 dX10_isHeld_7 (by decide) rfl (fun c => ?_) (fun c => ?_)
    · refine j_iconst (n := 64) (0) dX10_isHeld_63 rfl (by decide) ?_
      have e1 : e = N 7 := by omega
      exact j_iret dX10_isHeld_64 rfl rfl (by omega) (by omega) (⟨by unfold hldF; rw [any_f (fun j h => hno j (by omega))]; rfl, T', rx', rfl, hT, hX, hx', hsx⟩)
    · exact absurd (nI_le (show N 7 ≤ e by omega) (by omega)) c
  | succ k ih =>
    intro e he T' rx' hT hX hx' hsx hno
    have hE' := hE.eqt hT
    obtain ⟨y, hy, ky⟩ := hT.at hx
    have : y = rx' := Option.some.inj (hy.symm.trans hx')
    subst this
    have hst : stnd (N 7) es (nI e) = decide (¬ es e = 0) := by
      unfold stnd; rw [decide_eq_true (p := ¬ (nI e < 0 ∨ nI (N 7) ≤ nI e)) (fun q => q.elim (nI_pos (by omega)) (nI_ge (show e < N 7 by omega) (by omega))), nI_clamp (by omega)]; rfl
    refine j_iload_n (n := 3) dX10_isHeld_2 rfl rfl ?_
    refine j_aload_n (n := 4) dX10_isHeld_3 rfl rfl ?_
    refine j_get (n := 7) 8 dX10_isHeld_4 f_X10_61 rfl rfl rfl ?_
    refine j_icmp_ge (n := 10) 63 dX10_isHeld_7 (by decide) rfl (fun c => ?_) (fun c => ?_)
    · exact absurd c (nI_ge (show e < N 7 by omega) (by omega))
    · refine j_aload_n (n := 11) dX10_isHeld_10 rfl rfl ?_
      refine j_iload_n (n := 12) dX10_isHeld_11 rfl rfl ?_
      refine j_callVr (n := 15) (Y1 := Y_X10_standingAt) 8 dX10_isHeld_12 m_X10_217 cy_X10_standingAt ci_X10_standingAt (c_standingAt hE' hf) rfl rfl rfl rfl rfl (by omega) (by omega) (by omega) (Nat.le_of_ble_eq_true rfl) (fun o w h => ?_)
      obtain ⟨rfl, h⟩ := h
      rcases h with ⟨hs, rfl⟩ | ⟨hs, j, x, hj, hj2, hxe, rfl⟩
      · refine j_astoreN (n := 17) dX10_isHeld_15 rfl (by decide) ?_
        refine j_aloadN (n := 19) dX10_isHeld_17 rfl rfl ?_
        refine j_ifnullN 57 dX10_isHeld_19 (by decide) ?_
        refine j_iinc (n := 60) (nI (e + 1)) dX10_isHeld_57 rfl rfl (nI_inc e) (by decide) ?_
        refine j_goto 2 dX10_isHeld_60 (by decide) ?_
        refine j_keep [0, 1, 2, 3] rfl ?_
        exact ih (e + 1) (by omega) T' y hT hX hx' hsx (lt_s hno (by unfold hldP; rw [← hst, hs]; rfl))
      · obtain rfl : e = j := (nI_eq (by omega) (by omega)).mp hj
        obtain ⟨x1, r, g1, g2, g3, g4, g5, g6, g8, g9, -⟩ := hE'.2.2 e (by omega)
        have : x1 = x := Option.some.inj (g1.symm.trans hxe)
        subst this
        refine j_astore (n := 17) dX10_isHeld_15 rfl (by decide) ?_
        refine j_aload (n := 19) dX10_isHeld_17 rfl rfl ?_
        refine j_ifnull (n := 22) dX10_isHeld_19 rfl ?_
        refine j_aload (n := 24) dX10_isHeld_22 rfl rfl ?_
        refine j_getN (n := 27) (5 * T'.length + e + 24 + 8) dX10_isHeld_24 f_X10_221 rfl (ep_get (G := G) (T := T') (tail := tail) hxe) rfl ?_
        refine j_iload_n (n := 28) dX10_isHeld_27 rfl rfl ?_
        rw [g4]
        refine j_icmp_ne (n := 31) 57 dX10_isHeld_28 (by decide) rfl (fun c2 => ?_) (fun c2 => ?_)
        · refine j_iinc (n := 60) (nI (e + 1)) dX10_isHeld_57 rfl rfl (nI_inc e) (by decide) ?_
          refine j_goto 2 dX10_isHeld_60 (by decide) ?_
          refine j_keep [0, 1, 2, 3] rfl ?_
          exact ih (e + 1) (by omega) T' y hT hX hx' hsx (lt_s hno (by unfold hldP; rw [decide_eq_false c2, Bool.and_false]; rfl))
        · have tr := hX _ r g2
          refine j_aload (n := 33) dX10_isHeld_31 rfl rfl ?_
          refine j_getN (n := 36) (5 * T'.length + e + 24 + 8) dX10_isHeld_33 f_X10_224 rfl (ep_get (G := G) (T := T') (tail := tail) hxe) rfl ?_
          refine j_aload_n (n := 37) dX10_isHeld_36 rfl rfl ?_
          refine j_get (n := 40) 8 dX10_isHeld_37 f_X10_20 rfl rfl rfl ?_
          refine j_eq (st' := [.ref (Q 10), .ref (r.1 0)]) rfl rfl (by rw [g3]) rfl ?_
          refine j_callVv (n := 43) (Y1 := Y_X8_look) (5 * x1.2.2.2.2.1 + 0 + 24 + 8) dX10_isHeld_40 m_X10_144 cy_X8_look ci_X8_look (c_lookT g2 tr.1) rfl rfl rfl (tp_get (G := G) (tail := E.map eCell ++ tail) (c := 0) (by omega) T' _ r g2) rfl (by omega) (by omega) (by omega) (Nat.le_of_ble_eq_true rfl) (fun w h => ?_)
          subst h
          obtain ⟨l1, l2⟩ := tr.look hps
          have kl := lookR_keep (F 12) (N 5) r
          have hid : x1.2.2.2.2.1 = ix → lookR (F 12) (N 5) r = y := fun ee => by
            rw [ee] at g2
            have : r = y := Option.some.inj (g2.symm.trans hx')
            subst this
            unfold lookR; rw [if_pos hsx]
          generalize lookR (F 12) (N 5) r = r1 at l1 l2 kl hid ⊢
          have hT2 := hT.tr (EQT.set g2 kl)
          have hX2 := hX.set (i := x1.2.2.2.2.1) l1
          have gr : (T'.set x1.2.2.2.2.1 r1)[x1.2.2.2.2.1]? = some r1 := gs_eq g2
          have hx2 : (T'.set x1.2.2.2.2.1 r1)[ix]? = some y := by
            by_cases ee : x1.2.2.2.2.1 = ix
            · rw [ee] at gr ⊢; rw [hid ee] at gr ⊢; exact gr
            · rw [List.getElem?_set_ne ee]; exact hx'
          have hlen : (T'.set x1.2.2.2.2.1 r1).length = T'.length := by simp
          generalize T'.set x1.2.2.2.2.1 r1 = T2 at hT2 hX2 gr hx2 hlen ⊢
          have tr1 := hX2 _ r1 gr
          have ty1 := hX2 ix y hx2
          have txr := txa_of (G := G) (Q := Q) (N := N) (Z := Z) (F := F) (nm := nm) (Ef := Ef) (tail := E.map eCell ++ tail) gr tr1.2.2.2.1 tr1.1
          have txy := txa_of (G := G) (Q := Q) (N := N) (Z := Z) (F := F) (nm := nm) (Ef := Ef) (tail := E.map eCell ++ tail) hx2 ty1.2.2.2.1 ty1.1
          refine j_aload (n := 45) dX10_isHeld_43 rfl rfl ?_
          refine j_getN (n := 48) (5 * T2.length + e + 24 + 8) dX10_isHeld_45 f_X10_224 rfl (ep_get (G := G) (T := T2) (tail := tail) hxe) rfl ?_
          refine j_aload_n (n := 49) dX10_isHeld_48 rfl rfl ?_
          refine j_eq (st' := [.ref (y.1 0), .ref (r1.1 0)]) rfl rfl (by rw [kl.1, g3, ky.1]) rfl ?_
          refine j_callVe (n := 52) (Y1 := Y_X8_isSeenAs) (5 * x1.2.2.2.2.1 + 24 + 8) dX10_isHeld_49 m_X10_227 cy_X8_isSeenAs ci_X8_isSeenAs (c_isSeenAs (k0 := 5 * x1.2.2.2.2.1 + 24 + 8) txr.1 (k2 := 5 * x1.2.2.2.2.1 + 24 + 2 + 8) txr.2.2.1 (m0 := 5 * ix + 24 + 8) txy.1 (m2 := 5 * ix + 24 + 2 + 8) txy.2.2.1 tr1.2.2.2.1 ty1.2.2.2.1 tr1.1 ty1.1) rfl rfl rfl txr.1 rfl (by omega) (by omega) (by omega) (Nat.le_of_ble_eq_true rfl) ?_
          obtain ⟨s1, s2⟩ := tr1.2.2.2.2.2.1 l2
          obtain ⟨s3, s4⟩ := ty1.2.2.2.2.2.1 hsx
          have hsame : sameB (tN r1) (tN y) (tS r1) (tS y) = sameS (F 12) (tLen rx) (tT rx) (el e) (et e) := by
            rw [sameB_congr s2 s4]
            unfold sameS
            rw [s1, s3, kl.2.1, kl.2.2, g8, g9, ky.2.1, ky.2.2]
          rw [hsame]
          have hpe : hldP er es el et (F 12) (tLen rx) (tT rx) q e = sameS (F 12) (tLen rx) (tT rx) (el e) (et e) := by
            unfold hldP; rw [← hst, hs, decide_eq_true c2]; rfl
          refine j_if_eq (n := 55) 57 dX10_isHeld_52 (by decide) rfl (fun c3 => ?_) (fun c3 => ?_)
          · refine j_iinc (n := 60) (nI (e + 1)) dX10_isHeld_57 rfl rfl (nI_inc e) (by decide) ?_
            refine j_goto 2 dX10_isHeld_60 (by decide) ?_
            refine j_keep [0, 1, 2, 3] rfl ?_
            exact ih (e + 1) (by omega) T2 y hT2 hX2 hx2 hsx (lt_s hno (by rw [hpe]; exact b01_0 c3))
          · refine j_iconst (n := 56) (1) dX10_isHeld_55 rfl (by decide) ?_
            exact j_iret dX10_isHeld_56 rfl rfl (by omega) (by omega) (⟨by unfold hldF; rw [any_t (show e < N 7 by omega) (by rw [hpe]; exact b01_n0 c3)]; rfl, T2, y, rfl, hT2, hX2, hx2, hsx⟩)
theorem c_isHeld {ix : Nat} {rx : TR} {q : Int32} (hP : PInv N Z F) (hX : XInv N F T) (hx : T[ix]? = some rx) (hsx : tSt rx = nI (N 5)) (hE : ENT E T (N 7) er eo es el et) (hf : EFI E Ef) : JM G Y_X10_isHeld 3 0 0 [.ref (Q 8), .ref (rx.1 0), .int q] (cW G Q N Z F nm Ef (poolE G T E tail)) (Qi (fun r w => r = b01 (hldF (N 7) er es el et (F 12) (tLen rx) (tT rx) q) ∧ ∃ (T' : List TR) (rx' : TR), w = cW G Q N Z F nm Ef (poolE G T' E tail) ∧ EQT T T' ∧ XInv N F T' ∧ T'[ix]? = some rx' ∧ tSt rx' = nI (N 5))) := by
  refine JM.of [(0, .ref (Q 8)), (1, .ref (rx.1 0)), (2, .int q)] rfl rfl (by simp) (Nat.le_of_ble_eq_true rfl) (by decide +kernel) ?_
  refine j_iconst (n := 1) (0) dX10_isHeld_0 rfl (by decide) ?_
  refine j_istore_n (n := 2) dX10_isHeld_1 rfl (by decide) ?_
  exact held_lp hP hx hE hf (N 7) 0 (by omega) T rx (EQT.rf T) hX hx hsx lt_0
end VE

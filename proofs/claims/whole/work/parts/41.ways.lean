/-! ways -/
section WC
variable {C : CT} {X Y X' Y' : Nat → Int32} {xc yc : Nat}
theorem tst_congr (hX : ∀ k, k < xc → X k = X' k) (hY : ∀ k, k < yc → Y k = Y' k) (i j sh : Nat) : tst C X Y xc yc i j sh = tst C X' Y' xc yc i j sh := by
  by_cases hb : i + shX sh ≤ xc ∧ j + shY sh ≤ yc
  · obtain ⟨q1, q2⟩ := sh_ab sh
    unfold tst
    rw [pcX_congr hX hb.1 q1, pcX_congr hY hb.2 q2, TT_congr' hX hY]
  · rw [tst_out hb, tst_out hb]
theorem fsh_congr (hX : ∀ k, k < xc → X k = X' k) (hY : ∀ k, k < yc → Y k = Y' k) (i j : Nat) : fsh C X Y xc yc i j = fsh C X' Y' xc yc i j := by
  unfold fsh
  rw [tst_congr hX hY, tst_congr hX hY, tst_congr hX hY, TT_congr' hX hY]
theorem wpos_congr (hX : ∀ k, k < xc → X k = X' k) (hY : ∀ k, k < yc → Y k = Y' k) (n : Nat) : wpos C X Y xc yc n = wpos C X' Y' xc yc n := by
  induction n with
  | zero => rfl
  | succ n ih => unfold wpos; rw [ih, fsh_congr hX hY]
theorem wcount_congr (hX : ∀ k, k < xc → X k = X' k) (hY : ∀ k, k < yc → Y k = Y' k) (f : Nat) : ∀ n, wcount C X Y xc yc f n = wcount C X' Y' xc yc f n := by
  induction f with
  | zero => intro n; rfl
  | succ f ih =>
    intro n
    unfold wcount wend
    rw [wpos_congr hX hY, ih (n + 1)]
theorem wayN_congr (hX : ∀ k, k < xc → X k = X' k) (hY : ∀ k, k < yc → Y k = Y' k) : wayN C X Y xc yc = wayN C X' Y' xc yc := wcount_congr hX hY 40 0
theorem wc_lt : ∀ (f n k : Nat), n ≤ k → k < wcount C X Y xc yc f n → wend C X Y xc yc k = false := by
  intro f
  induction f with
  | zero => intro n k h1 h2; unfold wcount at h2; omega
  | succ f ih =>
    intro n k h1 h2
    unfold wcount at h2
    split at h2
    · omega
    · rename_i h
      by_cases e : k = n
      · subst e; simpa using h
      · exact ih (n + 1) k (by omega) h2
theorem wend_in {k : Nat} (h : k < wayN C X Y xc yc) : (wpos C X Y xc yc k).1 < xc ∧ (wpos C X Y xc yc k).2 < yc := by
  have h1 := wc_lt 40 0 k (Nat.zero_le _) h
  unfold wend at h1
  simp only [Bool.or_eq_false_iff, decide_eq_false_iff_not] at h1
  omega
theorem wpos_ok {v : Nat} (hT : TT C X Y xc yc 0 0 = some v) : ∀ k, k ≤ wayN C X Y xc yc → ∃ u, TT C X Y xc yc (wpos C X Y xc yc k).1 (wpos C X Y xc yc k).2 = some u := by
  intro k
  induction k with
  | zero => intro _; exact ⟨v, hT⟩
  | succ k ih =>
    intro h
    obtain ⟨u, hu⟩ := ih (by omega)
    have h1 := (wend_in (show k < wayN C X Y xc yc by omega)).1
    have h2 := fsh_tst h1 hu
    unfold tst at h2
    obtain ⟨a, b, -, h4, -⟩ := oAdd_some h2
    exact ⟨b, h4⟩
theorem wsh_in {v k : Nat} (hT : TT C X Y xc yc 0 0 = some v) (h : k < wayN C X Y xc yc) : (wpos C X Y xc yc k).1 + shX (wsh C X Y xc yc k) ≤ xc ∧ (wpos C X Y xc yc k).2 + shY (wsh C X Y xc yc k) ≤ yc := by
  obtain ⟨u, hu⟩ := wpos_ok hT k (by omega)
  have h1 := (wend_in h).1
  have h2 := fsh_tst h1 hu
  apply Decidable.byContradiction
  intro hn
  have := tst_out (C := C) (X := X) (Y := Y) hn
  unfold wsh at this
  rw [h2] at this
  cases this
theorem wmi_congr {v k : Nat} (hX : ∀ k, k < xc → X k = X' k) (hY : ∀ k, k < yc → Y k = Y' k) (hT : TT C X Y xc yc 0 0 = some v) (h : k < wayN C X Y xc yc) : wmi C X Y xc yc k = wmi C X' Y' xc yc k ∧ wot C X Y xc yc k = wot C X' Y' xc yc k ∧ wco C X Y xc yc k = wco C X' Y' xc yc k := by
  have h1 := wsh_in hT h
  have e1 : wsh C X' Y' xc yc k = wsh C X Y xc yc k := by unfold wsh; rw [wpos_congr hX hY, fsh_congr hX hY]
  obtain ⟨q1, q2⟩ := sh_ab (wsh C X Y xc yc k)
  have e2 : wmi C X Y xc yc k = wmi C X' Y' xc yc k := by
    unfold wmi
    rw [e1, ← wpos_congr hX hY]
    exact pcX_congr hX h1.1 q1
  have e3 : wot C X Y xc yc k = wot C X' Y' xc yc k := by
    unfold wot
    rw [e1, ← wpos_congr hX hY]
    exact pcX_congr hY h1.2 q2
  refine ⟨e2, e3, ?_⟩
  unfold wco
  rw [e2, e3]
end WC
/-- the way that is told: how many steps, and their three numbers -/
def wyS (C : CT) (hw : Nat → Int32) (lx : Nat) (tx : Nat → Int32) (ly : Nat) (ty : Nat → Int32) : Nat × (Nat → Int32) × (Nat → Int32) × (Nat → Int32) := (wayN C (seeF hw tx lx) (seeF hw ty ly) (seeN hw tx lx) (seeN hw ty ly), wmi C (seeF hw tx lx) (seeF hw ty ly) (seeN hw tx lx) (seeN hw ty ly), wot C (seeF hw tx lx) (seeF hw ty ly) (seeN hw tx lx) (seeN hw ty ly), wco C (seeF hw tx lx) (seeF hw ty ly) (seeN hw tx lx) (seeN hw ty ly))
abbrev WT : Type := Nat × (Nat → Int32) × (Nat → Int32) × (Nat → Int32)
def wyEq (a b : WT) : Prop := a.1 = b.1 ∧ ∀ k, k < b.1 → a.2.1 k = b.2.1 k ∧ a.2.2.1 k = b.2.2.1 k ∧ a.2.2.2 k = b.2.2.2 k
theorem wyEq.rf (a : WT) : wyEq a a := ⟨rfl, fun _ _ => ⟨rfl, rfl, rfl⟩⟩
abbrev wyNN (N : Nat → Nat) (s : WT) : Nat → Nat := va_up N 9 s.1
abbrev wyF (F : Nat → Nat → Int32) (s : WT) : Nat → Nat → Int32 := va_up (va_up (va_up F 27 s.2.1) 28 s.2.2.1) 29 s.2.2.2
/-- what ways answers, and the way that it leaves -/
def wyA (C : CT) (hw : Nat → Int32) (en : Nat) (es : Nat → Int32) (el : Nat → Nat) (et : Nat → Nat → Int32) (ns : Option (Nat × (Nat → Int32))) (e : Int32) (s : WT) : Int32 × WT :=
  if stnd en es e = false then (-2, s) else match ns with
  | none => (-1, s)
  | some n => match dst C hw n.1 n.2 (el e.toNatClampNeg) (et e.toNatClampNeg) with
    | none => (-1, s)
    | some _ => (nI (wyS C hw n.1 n.2 (el e.toNatClampNeg) (et e.toNatClampNeg)).1, wyS C hw n.1 n.2 (el e.toNatClampNeg) (et e.toNatClampNeg))
section WY
variable {G : GT} {Q N : Nat → Nat} {Z : Nat → Int32} {F : Nat → Nat → Int32} {nm : Option Nat} {Ef : Nat → Option Nat} {T : List TR} {E : List ER} {tail P : va_W} {er eo es : Nat → Int32} {el : Nat → Nat} {et : Nat → Nat → Int32} {rf rw : Nat → Nat} {rs : Nat → Int32} {ns : Option (Nat × (Nat → Int32))}
theorem wy_self : wyNN N (N 9, F 27, F 28, F 29) = N ∧ wyF F (N 9, F 27, F 28, F 29) = F := by
  constructor
  · funext j
    show (if j = 9 then N 9 else N j) = N j
    split
    · rename_i h; rw [h]
    · rfl
  · funext j
    show (if j = 29 then F 29 else if j = 28 then F 28 else if j = 27 then F 27 else F j) = F j
    split
    · rename_i h; rw [h]
    · split
      · rename_i h; rw [h]
      · split
        · rename_i h; rw [h]
        · rfl
theorem RUN.way {Q' N' : Nat → Nat} {Z' : Nat → Int32} {F' : Nat → Nat → Int32} {T' : List TR} (s' : WT) (h : RUN Q N Z F T Q' N' Z' F' T') : RUN Q (wyNN N s') Z (wyF F s') T Q' (wyNN N' s') Z' (wyF F' s') T' := by
  have h1 := (((h.1.upN 9 s'.1).upF 27 s'.2.1).upF 28 s'.2.2.1).upF 29 s'.2.2.2
  exact ⟨h1, h.2.1, h.2.2.1, h.2.2.2⟩
theorem c_ways {e : Int32} (hP : PInv N Z F) (hX : XInv N F T) (hE : ENT E T (N 7) er eo es el et) (hf : EFI E Ef) (hN : NMI nm T ns) : JM G Y_X10_ways 7 (mc0 N Z F) (ms0 N Z F) [.ref (Q 8), .int e] (cW G Q N Z F nm Ef (poolE G T E tail)) (Qi (fun r w => r = (wyA (cCT N F) (F 12) (N 7) es el et ns e (N 9, F 27, F 28, F 29)).1 ∧ ∃ (Q' N' : Nat → Nat) (Z' : Nat → Int32) (F' : Nat → Nat → Int32) (T' : List TR) (s : WT), w = cW G Q' N' Z' F' nm Ef (poolE G T' E tail) ∧ wyEq s (wyA (cCT N F) (F 12) (N 7) es el et ns e (N 9, F 27, F 28, F 29)).2 ∧ RUN Q (wyNN N s) Z (wyF F s) T Q' N' Z' F' T')) := by
  have h7 := hE.2.1
  have hff := ff_v
  have hself := wy_self (N := N) (F := F)
  have hR0 := RUN.rf (Q := Q) hP hX
  have hRr : ∀ {Q' N' : Nat → Nat} {Z' : Nat → Int32} {F' : Nat → Nat → Int32} {T' : List TR}, RUN Q N Z F T Q' N' Z' F' T' → RUN Q (wyNN N (N 9, F 27, F 28, F 29)) Z (wyF F (N 9, F 27, F 28, F 29)) T Q' N' Z' F' T' := fun h => by rw [hself.1, hself.2]; exact h
  unfold wyA
  have hmc : mc0 N Z F = clMc (decide (Z 0 = nI (N 1))) (nd (cCT N F)).2 (N 3) := rfl
  have hms : ms0 N Z F = clMs (decide (Z 0 = nI (N 1))) (nd (cCT N F)).2 (N 3) := rfl
  refine JM.of [(0, .ref (Q 8)), (1, .int e)] rfl rfl (by simp) (Nat.le_of_ble_eq_true rfl) (by decide +kernel) ?_
  refine j_aload_n (n := 1) dX10_ways_0 rfl rfl ?_
  refine j_iload_n (n := 2) dX10_ways_1 rfl rfl ?_
  refine j_callVr (n := 5) (Y1 := Y_X10_standingAt) 8 dX10_ways_2 m_X10_217 cy_X10_standingAt ci_X10_standingAt (c_standingAt hE hf) rfl rfl rfl rfl rfl (by omega) (by omega) (by omega) (Nat.le_of_ble_eq_true rfl) (fun o w h => ?_)
  obtain ⟨rfl, h⟩ := h
  rcases h with ⟨hs, rfl⟩ | ⟨hs, j, x, rfl, hj, hxe, rfl⟩
  · rw [if_pos hs]
    refine j_astore_nN (n := 6) dX10_ways_5 rfl (by decide) ?_
    refine j_aload_nN (n := 7) dX10_ways_6 rfl rfl ?_
    refine j_ifnonnullN (n := 10) dX10_ways_7 rfl ?_
    refine j_bipush (n := 12) (-2) dX10_ways_10 rfl (by decide) ?_
    exact j_iret dX10_ways_12 rfl rfl (by omega) (by omega) (⟨rfl, Q, N, Z, F, T, _, rfl, wyEq.rf _, hRr hR0⟩)
  · rw [if_neg (by rw [hs]; exact Bool.noConfusion)]
    obtain ⟨x1, r, g1, g2, g3, g4, g5, g6, g8, g9, -⟩ := hE.2.2 j hj
    have : x1 = x := Option.some.inj (g1.symm.trans hxe)
    subst this
    rw [nI_clamp (show j < 2 ^ 31 by omega), ← g8, ← g9]
    rcases hN with ⟨rfl, rfl⟩ | ⟨ix, rx, hx, rfl, rfl⟩
    · refine j_astore_n (n := 6) dX10_ways_5 rfl (by decide) ?_
      refine j_aload_n (n := 7) dX10_ways_6 rfl rfl ?_
      refine j_ifnonnull 13 dX10_ways_7 (by decide) ?_
      refine j_aload_n (n := 14) dX10_ways_13 rfl rfl ?_
      refine j_get (n := 17) 8 dX10_ways_14 f_X10_38 rfl rfl rfl ?_
      refine j_ifnullN 38 dX10_ways_17 (by decide) ?_
      refine j_iconst (n := 39) (-1) dX10_ways_38 rfl (by decide) ?_
      exact j_iret dX10_ways_39 rfl rfl (by omega) (by omega) (⟨rfl, Q, N, Z, F, T, _, rfl, wyEq.rf _, hRr hR0⟩)
    · refine j_astore_n (n := 6) dX10_ways_5 rfl (by decide) ?_
      refine j_aload_n (n := 7) dX10_ways_6 rfl rfl ?_
      refine j_ifnonnull 13 dX10_ways_7 (by decide) ?_
      refine j_aload_n (n := 14) dX10_ways_13 rfl rfl ?_
      refine j_get (n := 17) 8 dX10_ways_14 f_X10_38 rfl rfl rfl ?_
      refine j_ifnull (n := 20) dX10_ways_17 rfl ?_
      refine j_aload_n (n := 21) dX10_ways_20 rfl rfl ?_
      refine j_aload_n (n := 22) dX10_ways_21 rfl rfl ?_
      refine j_get (n := 25) 8 dX10_ways_22 f_X10_38 rfl rfl rfl ?_
      refine j_aload_n (n := 26) dX10_ways_25 rfl rfl ?_
      refine j_getN (n := 29) (5 * T.length + j + 24 + 8) dX10_ways_26 f_X10_224 rfl (ep_get (G := G) (T := T) (tail := tail) hxe) rfl ?_
      refine j_ldc (n := 31) dX10_ways_29 rfl k_X10_254 ?_
      refine j_eq (st' := [.int (nI 536870911), .ref (r.1 0), .ref (rx.1 0), .ref (Q 8)]) rfl rfl (by rw [g3]; rfl) rfl ?_
      refine j_callVi (n := 34) (Y1 := Y_X10_costBetween) 8 dX10_ways_31 m_X10_238 cy_X10_costBetween ci_X10_costBetween (c_costBetween hP hX hx g2 (by omega)) rfl rfl rfl rfl rfl (by omega) (show _ ≤ mc0 N Z F by show 0 + mc0 N Z F ≤ mc0 N Z F; omega) (show _ ≤ ms0 N Z F by show 0 + ms0 N Z F ≤ ms0 N Z F; omega) (Nat.le_of_ble_eq_true rfl) (fun z w h => ?_)
      obtain ⟨hz, Q2, N2, Z2, F2, T2, rx', ry', rfl, hS2, hT2, hP2, hX2, hc2, -, hx2, hy2, sx, sy, hM, hV⟩ := h
      have hR2 : RUN Q N Z F T Q2 N2 Z2 F2 T2 := ⟨hS2, hT2, hP2, hX2⟩
      obtain ⟨eC, eH, e5, -⟩ := hS2.cct
      have e8 := hS2.2.1 8 (by omega)
      obtain ⟨y1, y2, kx⟩ := hT2.at hx
      have : y1 = rx' := Option.some.inj (y2.symm.trans hx2)
      subst this
      obtain ⟨y3, y4, ky⟩ := hT2.at g2
      have : y3 = ry' := Option.some.inj (y4.symm.trans hy2)
      subst this
      rw [← e8]
      dsimp only
      cases hd : dst (cCT N F) (F 12) (tLen rx) (tT rx) (tLen r) (tT r) with
      | none =>
        rw [hd] at hz
        rw [hz]
        refine j_iconst (n := 35) (-1) dX10_ways_34 rfl (by decide) ?_
        refine j_icmp_ne (n := 38) 40 dX10_ways_35 (by decide) rfl (fun c => ?_) (fun c => ?_)
        · exact absurd rfl c
        · refine j_iconst (n := 39) (-1) dX10_ways_38 rfl (by decide) ?_
          exact j_iret dX10_ways_39 rfl rfl (by omega) (by omega) (⟨rfl, Q2, N2, Z2, F2, T2, _, rfl, wyEq.rf _, hRr hR2⟩)
      | some v =>
        have hdv : v ≤ 536870911 := by
          have h40 : seeN (F 12) (tT rx) (tLen rx) ≤ 40 := Nat.le_trans (seeN_le _ _ _) (hX ix rx hx).1
          have := TT_lt hP.1 h40 (Nat.zero_le _) hd
          omega
        rw [hd] at hz
        have hz : z = nI v := hz.trans (if_pos hdv)
        have tkx := hX2 ix y1 hx2
        have tky := hX2 _ y3 hy2
        obtain ⟨sx1, sx2⟩ := tkx.2.2.2.2.2.1 (by rw [e5]; exact sx)
        obtain ⟨sy1, sy2⟩ := tky.2.2.2.2.2.1 (by rw [e5]; exact sy)
        rw [eH, kx.2.1, kx.2.2] at sx1 sx2
        rw [eH, ky.2.1, ky.2.2] at sy1 sy2
        have hV' := hV (by rw [hz]; exact nI_nm1 (by omega))
        have hTT : TT (cCT N2 F2) (tS y1) (tS y3) (tN y1) (tN y3) 0 0 = some v := by
          rw [TT_congr' sx2 sy2, sx1, sy1, eC]; exact hd
        have hV'' : VR (cCT N2 F2) (tS y1) (tS y3) (tN y1) (tN y3) (F2 22) 0 := by rw [eC]; exact hV'
        rw [hz]
        refine j_iconst (n := 35) (-1) dX10_ways_34 rfl (by decide) ?_
        refine j_icmp_ne (n := 38) 40 dX10_ways_35 (by decide) rfl (fun c => ?_) (fun c => ?_)
        · refine j_aload_n (n := 41) dX10_ways_40 rfl rfl ?_
          refine j_get (n := 44) 8 dX10_ways_41 f_X10_69 rfl rfl rfl ?_
          refine j_aload_n (n := 45) dX10_ways_44 rfl rfl ?_
          refine j_get (n := 48) 8 dX10_ways_45 f_X10_38 rfl rfl rfl ?_
          refine j_aload_n (n := 49) dX10_ways_48 rfl rfl ?_
          refine j_getN (n := 52) (5 * T2.length + j + 24 + 8) dX10_ways_49 f_X10_224 rfl (ep_get (G := G) (T := T2) (tail := tail) hxe) rfl ?_
          refine j_aload_n (n := 53) dX10_ways_52 rfl rfl ?_
          refine j_get (n := 56) 8 dX10_ways_53 f_X10_83 rfl rfl rfl ?_
          refine j_eq (st' := [.ref (Q2 26), .ref (y3.1 0), .ref (y1.1 0), .ref (Q2 21)]) rfl rfl (by rw [ky.1, kx.1, g3]; rfl) rfl ?_
          refine j_callVv (n := 59) (Y1 := Y_X1_writeWay) 21 dX10_ways_56 m_X10_263 cy_X1_writeWay ci_X1_writeWay (c_writeWay (rest := cRest G Q2 N2 Z2 F2 (some (rx.1 0)) Ef ++ poolE G T2 E tail) (jw := 18) (W := fun i => Q2 (26 + i)) hM hV'' hTT rfl rfl rfl rfl (Or.inl (by omega)) (Or.inl (by omega)) (Or.inl (by omega)) (Or.inl (by omega))) rfl rfl rfl rfl rfl (by omega) (by omega) (by omega) (Nat.le_of_ble_eq_true rfl) (fun w h => ?_)
          obtain ⟨f1, f2, f3, hw, hk⟩ := h
          subst hw
          have hcg := fun k hk => wmi_congr (k := k) sx2 sy2 hTT hk
          have hn := wayN_congr (C := cCT N2 F2) sx2 sy2
          have hnn : wayN (cCT N2 F2) (tS y1) (tS y3) (tN y1) (tN y3) = wayN (cCT N F) (tS y1) (tS y3) (seeN (F 12) (tT rx) (tLen rx)) (seeN (F 12) (tT r) (tLen r)) := by rw [sx1, sy1, eC]
          rw [sx1, sy1, eC] at hcg hn hk
          have hsq : wyEq (wayN (cCT N F) (tS y1) (tS y3) (seeN (F 12) (tT rx) (tLen rx)) (seeN (F 12) (tT r) (tLen r)), f1, f2, f3) (wyS (cCT N F) (F 12) (tLen rx) (tT rx) (tLen r) (tT r)) := by
            refine ⟨hn, fun k hk2 => ?_⟩
            have hk3 : k < wayN (cCT N F) (tS y1) (tS y3) (seeN (F 12) (tT rx) (tLen rx)) (seeN (F 12) (tT r) (tLen r)) := by rw [hn]; exact hk2
            obtain ⟨a1, a2, a3⟩ := hk k hk3
            obtain ⟨b1, b2, b3⟩ := hcg k hk3
            exact ⟨a1.trans b1, a2.trans b2, a3.trans b3⟩
          have hR3 := hR2.way (wayN (cCT N F) (tS y1) (tS y3) (seeN (F 12) (tT rx) (tLen rx)) (seeN (F 12) (tT r) (tLen r)), f1, f2, f3)
          refine j_ws (ws' := cW G Q2 (wyNN N2 (wayN (cCT N F) (tS y1) (tS y3) (seeN (F 12) (tT rx) (tLen rx)) (seeN (F 12) (tT r) (tLen r)), f1, f2, f3)) Z2 (wyF F2 (wayN (cCT N F) (tS y1) (tS y3) (seeN (F 12) (tT rx) (tLen rx)) (seeN (F 12) (tT r) (tLen r)), f1, f2, f3)) (some (rx.1 0)) Ef (poolE G T2 E tail)) (by rw [← hnn]; rfl) ?_
          refine j_aload_n (n := 60) dX10_ways_59 rfl rfl ?_
          refine j_get (n := 63) 8 dX10_ways_60 f_X10_83 rfl rfl rfl ?_
          refine j_getN (n := 66) 26 dX10_ways_63 f_X10_267 rfl rfl rfl ?_
          exact j_iret dX10_ways_66 rfl rfl (by omega) (by omega) (⟨congrArg nI hn, Q2, _, Z2, _, T2, _, rfl, hsq, hR3⟩)
        · exact absurd c (nI_nm1 (by omega))
end WY

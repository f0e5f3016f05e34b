/-! entry, about, chain, count -/
theorem sw5 {w : Int32} (h0 : ¬ w = 0) (h1 : ¬ w = 1) (h2 : ¬ w = 2) (h3 : ¬ w = 3) (h4 : ¬ w = 4) : w.toInt < 0 ∨ 4 < w.toInt := by
  have a0 := lv_neT h0 (show (0 : Int32).toInt = 0 from rfl)
  have a1 := lv_neT h1 (show (1 : Int32).toInt = 1 from rfl)
  have a2 := lv_neT h2 (show (2 : Int32).toInt = 2 from rfl)
  have a3 := lv_neT h3 (show (3 : Int32).toInt = 3 from rfl)
  have a4 := lv_neT h4 (show (4 : Int32).toInt = 4 from rfl)
  omega
theorem sw6 {w : Int32} (h0 : ¬ w = 0) (h1 : ¬ w = 1) (h2 : ¬ w = 2) (h3 : ¬ w = 3) (h4 : ¬ w = 4) (h5 : ¬ w = 5) : w.toInt < 0 ∨ 5 < w.toInt := by
  have a5 := lv_neT h5 (show (5 : Int32).toInt = 5 from rfl)
  have := sw5 h0 h1 h2 h3 h4
  omega
theorem sw7 {w : Int32} (h0 : ¬ w = 0) (h1 : ¬ w = 1) (h2 : ¬ w = 2) (h3 : ¬ w = 3) (h4 : ¬ w = 4) (h5 : ¬ w = 5) (h6 : ¬ w = 6) : w.toInt < 0 ∨ 6 < w.toInt := by
  have a6 := lv_neT h6 (show (6 : Int32).toInt = 6 from rfl)
  have := sw6 h0 h1 h2 h3 h4 h5
  omega
theorem sw13 {w : Int32} (h1 : ¬ w = 1) (h2 : ¬ w = 2) (h3 : ¬ w = 3) : w.toInt < 1 ∨ 3 < w.toInt := by
  have a1 := lv_neT h1 (show (1 : Int32).toInt = 1 from rfl)
  have a2 := lv_neT h2 (show (2 : Int32).toInt = 2 from rfl)
  have a3 := lv_neT h3 (show (3 : Int32).toInt = 3 from rfl)
  omega
theorem b01_bit (b : Bool) : (if b01 b = 0 then (0 : Int32) else 1) = b01 b := by cases b <;> rfl
theorem bit01 {x : Int32} (h : x = 0 ∨ x = 1) : (if x = 0 then (0 : Int32) else 1) = x := by rcases h with rfl | rfl <;> rfl
theorem atF_congr {n : Nat} {f g : Nat → Int32} {i : Int32} (hn : n < 2147483648) (h : ∀ k, k < n → f k = g k) : atF n f i = atF n g i := by
  unfold atF
  split
  · rfl
  · rename_i hc
    rcases ix3 i hn with h1 | h1 | ⟨j, hj, rfl⟩
    · exact absurd (Or.inl h1) hc
    · exact absurd (Or.inr h1) hc
    · rw [nI_clamp (by omega)]; exact h j hj
section T2
variable {G : GT} {Q N : Nat → Nat} {Z : Nat → Int32} {F : Nat → Nat → Int32} {nm : Option Nat} {Ef : Nat → Option Nat} {T : List TR} {E : List ER} {tail P : va_W} {er eo es : Nat → Int32} {el : Nat → Nat} {et : Nat → Nat → Int32} {rf rw : Nat → Nat} {rs : Nat → Int32} {ns : Option (Nat × (Nat → Int32))}
def etW (hw : Nat → Int32) (r o s : Int32) (l : Nat) (t : Nat → Int32) (w : Int32) : Int32 := if w = 0 then r else if w = 1 then o else if w = 2 then nI l else if w = 3 then nI (seeN hw t l) else if w = 4 then s else if w < 20 then -1 else atF l t (w - 20)
def etS (hw : Nat → Int32) (en : Nat) (er eo es : Nat → Int32) (el : Nat → Nat) (et : Nat → Nat → Int32) (e w : Int32) : Int32 := if e < 0 ∨ nI en ≤ e then -1 else etW hw (er e.toNatClampNeg) (eo e.toNatClampNeg) (es e.toNatClampNeg) (el e.toNatClampNeg) (et e.toNatClampNeg) w
theorem c_entry {e w : Int32} (hP : PInv N Z F) (hX : XInv N F T) (hE : ENT E T (N 7) er eo es el et) (hf : EFI E Ef) : JM G Y_X10_entry 3 0 0 [.ref (Q 8), .int e, .int w] (cW G Q N Z F nm Ef (poolE G T E tail)) (Qi (fun r u => r = etS (F 12) (N 7) er eo es el et e w ∧ ∃ T' : List TR, u = cW G Q N Z F nm Ef (poolE G T' E tail) ∧ EQT T T' ∧ XInv N F T')) := by
  have hps : N 1 < 1000 := hP.2.2.2.2.1
  have h7 := hE.2.1
  unfold etS
  refine JM.of [(0, .ref (Q 8)), (1, .int e), (2, .int w)] rfl rfl (by simp) (Nat.le_of_ble_eq_true rfl) (by decide +kernel) ?_
  refine j_aload_n (n := 1) dX10_entry_0 rfl rfl ?_
  refine j_iload_n (n := 2) dX10_entry_1 rfl rfl ?_
  refine j_callVq (n := 5) (Y1 := Y_X10_entryAt) 8 dX10_entry_2 m_X10_248 cy_X10_entryAt ci_X10_entryAt (c_entryAt h7) rfl rfl rfl rfl rfl (by omega) (by omega) (by omega) (Nat.le_of_ble_eq_true rfl) ?_
  by_cases hr : e < 0 ∨ nI (N 7) ≤ e
  · rw [if_pos hr, if_pos hr]
    refine j_astore_nN (n := 6) dX10_entry_5 rfl (by decide) ?_
    refine j_aload_nN (n := 7) dX10_entry_6 rfl rfl ?_
    refine j_ifnonnullN (n := 10) dX10_entry_7 rfl ?_
    refine j_iconst (n := 11) (-1) dX10_entry_10 rfl (by decide) ?_
    exact j_iret dX10_entry_11 rfl rfl (by omega) (by omega) (⟨rfl, T, rfl, EQT.rf T, hX⟩)
  · rw [if_neg hr, if_neg hr]
    rcases ix3 e (n := N 7) (by omega) with h | h | ⟨j, hj, rfl⟩
    · exact absurd (Or.inl h) hr
    · exact absurd (Or.inr h) hr
    · obtain ⟨x, r, g1, g2, g3, g4, g5, g6, g8, g9, g10⟩ := hE.2.2 j hj
      rw [nI_clamp (by omega), hf j x g1]
      have tr := hX _ r g2
      refine j_astore_n (n := 6) dX10_entry_5 rfl (by decide) ?_
      refine j_aload_n (n := 7) dX10_entry_6 rfl rfl ?_
      refine j_ifnonnull 12 dX10_entry_7 (by decide) ?_
      refine j_aload_n (n := 13) dX10_entry_12 rfl rfl ?_
      refine j_getN (n := 16) (5 * T.length + j + 24 + 8) dX10_entry_13 f_X10_224 rfl (ep_get (G := G) (T := T) (tail := tail) g1) rfl ?_
      refine j_aload_n (n := 17) dX10_entry_16 rfl rfl ?_
      refine j_get (n := 20) 8 dX10_entry_17 f_X10_20 rfl rfl rfl ?_
      refine j_eq (st' := [.ref (Q 10), .ref (r.1 0)]) rfl rfl (by rw [g3]) rfl ?_
      refine j_callVv (n := 23) (Y1 := Y_X8_look) (5 * x.2.2.2.2.1 + 0 + 24 + 8) dX10_entry_20 m_X10_144 cy_X8_look ci_X8_look (c_lookT g2 tr.1) rfl rfl rfl (tp_get (G := G) (tail := E.map eCell ++ tail) (c := 0) (by omega) T _ r g2) rfl (by omega) (by omega) (by omega) (Nat.le_of_ble_eq_true rfl) (fun w h => ?_)
      subst h
      obtain ⟨l1, l2⟩ := tr.look hps
      have kl := lookR_keep (F 12) (N 5) r
      rw [← kl.1] at g3
      rw [← kl.2.1] at g8
      rw [← kl.2.2] at g9
      generalize lookR (F 12) (N 5) r = r1 at l1 l2 kl g3 g8 g9 ⊢
      have hT2 := EQT.set g2 kl
      have hX2 := hX.set (i := x.2.2.2.2.1) l1
      have gr : (T.set x.2.2.2.2.1 r1)[x.2.2.2.2.1]? = some r1 := gs_eq g2
      generalize T.set x.2.2.2.2.1 r1 = T2 at hT2 hX2 gr ⊢
      have tx1 := txa_of (G := G) (Q := Q) (N := N) (Z := Z) (F := F) (nm := nm) (Ef := Ef) (tail := E.map eCell ++ tail) gr l1.2.2.2.1 l1.1
      obtain ⟨s1, -⟩ := l1.2.2.2.2.2.1 l2
      have g4' : Value.int x.2.1 = .int (er j) := by rw [g4]
      have htx : Value.ref x.2.2.2.1 = .ref (r1.1 0) := by rw [g3]
      have hres : ∀ v : Int32, v = etW (F 12) (er j) (eo j) (es j) (el j) (et j) w → v = etW (F 12) (er j) (eo j) (es j) (el j) (et j) w ∧ ∃ T' : List TR, cW G Q N Z F nm Ef (poolE G T2 E tail) = cW G Q N Z F nm Ef (poolE G T' E tail) ∧ EQT T T' ∧ XInv N F T' := fun v hv => ⟨hv, T2, rfl, hT2, hX2⟩
      clear l2 kl
      unfold etW at hres ⊢
      refine j_iload_n (n := 24) dX10_entry_23 rfl rfl ?_
      by_cases e0 : w = 0
      · subst e0
        refine j_tableIn 60 dX10_entry_24 (by decide) (by decide) (off := 36) (by decide) (by decide) ?_
        refine j_aload_n (n := 61) dX10_entry_60 rfl rfl ?_
        refine j_getN (n := 64) (5 * T2.length + j + 24 + 8) dX10_entry_61 f_X10_221 rfl (ep_get (G := G) (T := T2) (tail := tail) g1) rfl ?_
        exact j_iret dX10_entry_64 rfl rfl (by omega) (by omega) (hres _ g4)
      · by_cases e1 : w = 1
        · subst e1
          refine j_tableIn 65 dX10_entry_24 (by decide) (by decide) (off := 41) (by decide) (by decide) ?_
          refine j_aload_n (n := 66) dX10_entry_65 rfl rfl ?_
          refine j_getN (n := 69) (5 * T2.length + j + 24 + 8) dX10_entry_66 f_X10_230 rfl (ep_get (G := G) (T := T2) (tail := tail) g1) rfl ?_
          exact j_iret dX10_entry_69 rfl rfl (by omega) (by omega) (hres _ g5)
        · by_cases e2 : w = 2
          · subst e2
            refine j_tableIn 70 dX10_entry_24 (by decide) (by decide) (off := 46) (by decide) (by decide) ?_
            refine j_aload_n (n := 71) dX10_entry_70 rfl rfl ?_
            refine j_getN (n := 74) (5 * T2.length + j + 24 + 8) dX10_entry_71 f_X10_224 rfl (ep_get (G := G) (T := T2) (tail := tail) g1) rfl ?_
            refine j_eq (st' := [.ref (r1.1 0)]) rfl rfl (by rw [← htx]) rfl ?_
            refine j_getN (n := 77) (5 * x.2.2.2.2.1 + 24 + 8) dX10_entry_74 f_X10_158 rfl (tx1.1) rfl ?_
            exact j_iret dX10_entry_77 rfl rfl (by omega) (by omega) (hres _ (by rw [← g8]; rfl))
          · by_cases e3 : w = 3
            · subst e3
              refine j_tableIn 78 dX10_entry_24 (by decide) (by decide) (off := 54) (by decide) (by decide) ?_
              refine j_aload_n (n := 79) dX10_entry_78 rfl rfl ?_
              refine j_getN (n := 82) (5 * T2.length + j + 24 + 8) dX10_entry_79 f_X10_224 rfl (ep_get (G := G) (T := T2) (tail := tail) g1) rfl ?_
              refine j_eq (st' := [.ref (r1.1 0)]) rfl rfl (by rw [← htx]) rfl ?_
              refine j_getN (n := 85) (5 * x.2.2.2.2.1 + 24 + 8) dX10_entry_82 f_X10_148 rfl (tx1.1) rfl ?_
              exact j_iret dX10_entry_85 rfl rfl (by omega) (by omega) (hres _ (by rw [← g8, ← g9, ← s1]; rfl))
            · by_cases e4 : w = 4
              · subst e4
                refine j_tableIn 86 dX10_entry_24 (by decide) (by decide) (off := 62) (by decide) (by decide) ?_
                refine j_aload_n (n := 87) dX10_entry_86 rfl rfl ?_
                refine j_getN (n := 90) (5 * T2.length + j + 24 + 8) dX10_entry_87 f_X10_245 rfl (ep_get (G := G) (T := T2) (tail := tail) g1) rfl ?_
                refine j_callSe (n := 93) (Y1 := Y_X10_bit) dX10_entry_90 m_X10_169 cy_X10_bit cs_X10_bit (c_bit) rfl rfl rfl (by omega) (by omega) (by omega) (Nat.le_of_ble_eq_true rfl) ?_
                exact j_iret dX10_entry_93 rfl rfl (by omega) (by omega) (hres _ (by rw [g6, bit01 g10]; rfl))
              · rw [if_neg e0, if_neg e1, if_neg e2, if_neg e3, if_neg e4] at hres ⊢
                refine j_tableOut 94 dX10_entry_24 (sw5 e0 e1 e2 e3 e4) (by decide) ?_
                refine j_iload_n (n := 95) dX10_entry_94 rfl rfl ?_
                refine j_bipush (n := 97) (20) dX10_entry_95 rfl (by decide) ?_
                refine j_icmp_ge (n := 100) 104 dX10_entry_97 (by decide) rfl (fun c => ?_) (fun c => ?_)
                · rw [if_neg (Int32.not_lt.mpr c)] at hres ⊢
                  refine j_aload_n (n := 105) dX10_entry_104 rfl rfl ?_
                  refine j_getN (n := 108) (5 * T2.length + j + 24 + 8) dX10_entry_105 f_X10_224 rfl (ep_get (G := G) (T := T2) (tail := tail) g1) rfl ?_
                  refine j_eq (st' := [.ref (r1.1 0)]) rfl rfl (by rw [← htx]) rfl ?_
                  refine j_iload_n (n := 109) dX10_entry_108 rfl rfl ?_
                  refine j_bipush (n := 111) (20) dX10_entry_109 rfl (by decide) ?_
                  refine j_isub (n := 112) dX10_entry_111 rfl ?_
                  refine j_callVe (n := 115) (Y1 := Y_X8_toldAt) (5 * x.2.2.2.2.1 + 24 + 8) dX10_entry_112 m_X10_251 cy_X8_toldAt ci_X8_toldAt (c_toldAt (k0 := 5 * x.2.2.2.2.1 + 24 + 8) tx1.1 (k1 := 5 * x.2.2.2.2.1 + 24 + 1 + 8) tx1.2.1 l1.1) rfl rfl rfl tx1.1 rfl (by omega) (by omega) (by omega) (Nat.le_of_ble_eq_true rfl) ?_
                  exact j_iret dX10_entry_115 rfl rfl (by omega) (by omega) (hres _ (by rw [← g8, ← g9]))
                · rw [if_pos (Int32.not_le.mp c)] at hres ⊢
                  refine j_iconst (n := 101) (-1) dX10_entry_100 rfl (by decide) ?_
                  refine j_goto 115 dX10_entry_101 (by decide) ?_
                  exact j_iret dX10_entry_115 rfl rfl (by omega) (by omega) (hres _ rfl)
def abW (sc hw : Nat → Int32) (sn : Nat) (bt : Nat → Int32) (l : Nat) (t : Nat → Int32) (w : Int32) : Int32 := if w = 0 then nI l else if w = 1 then nI (seeN hw t l) else if w = 2 then bitsS sc hw l t else if w = 3 then b01 (mixB (bitsS sc hw l t) sn bt) else if w = 4 then b01 (hasB hw t l 1) else if w = 5 then b01 (hasB hw t l 2) else if w = 6 then b01 (padB hw t l) else if w < 20 then -1 else atF (seeN hw t l) (seeF hw t l) (w - 20)
def abS (sc hw : Nat → Int32) (sn : Nat) (bt : Nat → Int32) (ns : Option (Nat × (Nat → Int32))) (w : Int32) : Int32 := match ns with
  | none => -1
  | some n => abW sc hw sn bt n.1 n.2 w
theorem c_about {w : Int32} (hP : PInv N Z F) (hX : XInv N F T) (hN : NMI nm T ns) (h6 : N 6 ≤ 8) : JM G Y_X10_about 4 0 0 [.ref (Q 8), .int w] (cW G Q N Z F nm Ef (poolT G T tail)) (Qi (fun r u => r = abS (F 11) (F 12) (N 6) (F 14) ns w ∧ ∃ T' : List TR, u = cW G Q N Z F nm Ef (poolT G T' tail) ∧ EQT T T' ∧ XInv N F T')) := by
  have hps : N 1 < 1000 := hP.2.2.2.2.1
  unfold abS
  refine JM.of [(0, .ref (Q 8)), (1, .int w)] rfl rfl (by simp) (Nat.le_of_ble_eq_true rfl) (by decide +kernel) ?_
  rcases hN with ⟨rfl, rfl⟩ | ⟨ix, r, hr, rfl, rfl⟩
  · refine j_aload_n (n := 1) dX10_about_0 rfl rfl ?_
    refine j_get (n := 4) 8 dX10_about_1 f_X10_38 rfl rfl rfl ?_
    refine j_ifnonnullN (n := 7) dX10_about_4 rfl ?_
    refine j_iconst (n := 8) (-1) dX10_about_7 rfl (by decide) ?_
    exact j_iret dX10_about_8 rfl rfl (by omega) (by omega) (⟨rfl, T, rfl, EQT.rf T, hX⟩)
  · have tr := hX _ r hr
    refine j_aload_n (n := 1) dX10_about_0 rfl rfl ?_
    refine j_get (n := 4) 8 dX10_about_1 f_X10_38 rfl rfl rfl ?_
    refine j_ifnonnull 9 dX10_about_4 (by decide) ?_
    refine j_aload_n (n := 10) dX10_about_9 rfl rfl ?_
    refine j_get (n := 13) 8 dX10_about_10 f_X10_38 rfl rfl rfl ?_
    refine j_aload_n (n := 14) dX10_about_13 rfl rfl ?_
    refine j_get (n := 17) 8 dX10_about_14 f_X10_20 rfl rfl rfl ?_
    refine j_callVv (n := 20) (Y1 := Y_X8_look) (5 * ix + 0 + 24 + 8) dX10_about_17 m_X10_144 cy_X8_look ci_X8_look (c_lookT hr tr.1) rfl rfl rfl (tp_get (G := G) (tail := tail) (c := 0) (by omega) T ix r hr) rfl (by omega) (by omega) (by omega) (Nat.le_of_ble_eq_true rfl) (fun w h => ?_)
    subst h
    obtain ⟨l1, l2⟩ := tr.look hps
    have kl := lookR_keep (F 12) (N 5) r
    have hT2 := EQT.set hr kl
    have hX2 := hX.set (i := ix) l1
    have gr : (T.set ix (lookR (F 12) (N 5) r))[ix]? = some (lookR (F 12) (N 5) r) := gs_eq hr
    rw [← kl.1]
    have kn1 : tLen r = tLen (lookR (F 12) (N 5) r) := kl.2.1.symm
    have kn2 : tT r = tT (lookR (F 12) (N 5) r) := kl.2.2.symm
    rw [kn1, kn2]
    clear kn1 kn2 tr kl
    generalize lookR (F 12) (N 5) r = r1 at l1 l2 gr hX2 hT2 ⊢
    generalize T.set ix r1 = T2 at hT2 hX2 gr ⊢
    obtain ⟨s1, s2⟩ := l1.2.2.2.2.2.1 l2
    have hl40 := l1.1
    have hnl := l1.2.2.2.1
    have tx1 := txa_of (G := G) (Q := Q) (N := N) (Z := Z) (F := F) (nm := some (r1.1 0)) (Ef := Ef) (tail := tail) gr l1.2.2.2.1 l1.1
    have hb : (bitsF (F 11) (tS r1) (tN r1) &&& 254) = bitsS (F 11) (F 12) (tLen r1) (tT r1) := by
      unfold bitsS; rw [bitsF_congr (tN r1) s2, s1]
    dsimp only
    have hres : ∀ v : Int32, v = abW (F 11) (F 12) (N 6) (F 14) (tLen r1) (tT r1) w → v = abW (F 11) (F 12) (N 6) (F 14) (tLen r1) (tT r1) w ∧ ∃ T' : List TR, cW G Q N Z F (some (r1.1 0)) Ef (poolT G T2 tail) = cW G Q N Z F (some (r1.1 0)) Ef (poolT G T' tail) ∧ EQT T T' ∧ XInv N F T' := fun v hv => ⟨hv, T2, rfl, hT2, hX2⟩
    unfold abW at hres ⊢
    refine j_iload_n (n := 21) dX10_about_20 rfl rfl ?_
    by_cases e0 : w = 0
    · subst e0
      refine j_tableIn 64 dX10_about_21 (by decide) (by decide) (off := 43) (by decide) (by decide) ?_
      refine j_aload_n (n := 65) dX10_about_64 rfl rfl ?_
      refine j_get (n := 68) 8 dX10_about_65 f_X10_38 rfl rfl rfl ?_
      refine j_getN (n := 71) (5 * ix + 24 + 8) dX10_about_68 f_X10_158 rfl (tx1.1) rfl ?_
      exact j_iret dX10_about_71 rfl rfl (by omega) (by omega) (hres _ rfl)
    · skip
      by_cases e1 : w = 1
      · subst e1
        refine j_tableIn 72 dX10_about_21 (by decide) (by decide) (off := 51) (by decide) (by decide) ?_
        refine j_aload_n (n := 73) dX10_about_72 rfl rfl ?_
        refine j_get (n := 76) 8 dX10_about_73 f_X10_38 rfl rfl rfl ?_
        refine j_getN (n := 79) (5 * ix + 24 + 8) dX10_about_76 f_X10_148 rfl (tx1.1) rfl ?_
        exact j_iret dX10_about_79 rfl rfl (by omega) (by omega) (hres _ (by rw [← s1]; rfl))
      · skip
        by_cases e2 : w = 2
        · subst e2
          refine j_tableIn 80 dX10_about_21 (by decide) (by decide) (off := 59) (by decide) (by decide) ?_
          refine j_aload_n (n := 81) dX10_about_80 rfl rfl ?_
          refine j_get (n := 84) 8 dX10_about_81 f_X10_38 rfl rfl rfl ?_
          refine j_aload_n (n := 85) dX10_about_84 rfl rfl ?_
          refine j_get (n := 88) 8 dX10_about_85 f_X10_20 rfl rfl rfl ?_
          refine j_callVe (n := 91) (Y1 := Y_X8_scriptBits) (5 * ix + 24 + 8) dX10_about_88 m_X10_161 cy_X8_scriptBits ci_X8_scriptBits (c_scriptBits (k0 := 5 * ix + 24 + 8) tx1.1 (k2 := 5 * ix + 24 + 2 + 8) tx1.2.2.1 (m0 := 10) rfl (m1 := 11) rfl l1.2.2.2.1 l1.1) rfl rfl rfl tx1.1 rfl (by omega) (by omega) (by omega) (Nat.le_of_ble_eq_true rfl) ?_
          exact j_iret dX10_about_91 rfl rfl (by omega) (by omega) (hres _ hb)
        · skip
          by_cases e3 : w = 3
          · subst e3
            refine j_tableIn 92 dX10_about_21 (by decide) (by decide) (off := 71) (by decide) (by decide) ?_
            refine j_aload_n (n := 93) dX10_about_92 rfl rfl ?_
            refine j_aload_n (n := 94) dX10_about_93 rfl rfl ?_
            refine j_get (n := 97) 8 dX10_about_94 f_X10_38 rfl rfl rfl ?_
            refine j_callVe (n := 100) (Y1 := Y_X10_isMixed) 8 dX10_about_97 m_X10_165 cy_X10_isMixed ci_X10_isMixed (c_isMixed gr hX2 l2 h6) rfl rfl rfl rfl rfl (by omega) (by omega) (by omega) (Nat.le_of_ble_eq_true rfl) ?_
            refine j_callSe (n := 103) (Y1 := Y_X10_bit) dX10_about_100 m_X10_169 cy_X10_bit cs_X10_bit (c_bit) rfl rfl rfl (by omega) (by omega) (by omega) (Nat.le_of_ble_eq_true rfl) ?_
            exact j_iret dX10_about_103 rfl rfl (by omega) (by omega) (hres _ (by rw [b01_bit]; rfl))
          · skip
            by_cases e4 : w = 4
            · subst e4
              refine j_tableIn 104 dX10_about_21 (by decide) (by decide) (off := 83) (by decide) (by decide) ?_
              refine j_aload_n (n := 105) dX10_about_104 rfl rfl ?_
              refine j_get (n := 108) 8 dX10_about_105 f_X10_38 rfl rfl rfl ?_
              refine j_iconst (n := 109) (1) dX10_about_108 rfl (by decide) ?_
              refine j_aload_n (n := 110) dX10_about_109 rfl rfl ?_
              refine j_get (n := 113) 8 dX10_about_110 f_X10_20 rfl rfl rfl ?_
              refine j_callVe (n := 116) (Y1 := Y_X8_has) (5 * ix + 24 + 8) dX10_about_113 m_X10_173 cy_X8_has ci_X8_has (c_has (k0 := 5 * ix + 24 + 8) tx1.1 (k1 := 5 * ix + 24 + 1 + 8) tx1.2.1 (m0 := 10) rfl (m2 := 12) rfl l1.1) rfl rfl rfl tx1.1 rfl (by omega) (by omega) (by omega) (Nat.le_of_ble_eq_true rfl) ?_
              refine j_callSe (n := 119) (Y1 := Y_X10_bit) dX10_about_116 m_X10_169 cy_X10_bit cs_X10_bit (c_bit) rfl rfl rfl (by omega) (by omega) (by omega) (Nat.le_of_ble_eq_true rfl) ?_
              exact j_iret dX10_about_119 rfl rfl (by omega) (by omega) (hres _ (by rw [b01_bit]; rfl))
            · skip
              by_cases e5 : w = 5
              · subst e5
                refine j_tableIn 120 dX10_about_21 (by decide) (by decide) (off := 99) (by decide) (by decide) ?_
                refine j_aload_n (n := 121) dX10_about_120 rfl rfl ?_
                refine j_get (n := 124) 8 dX10_about_121 f_X10_38 rfl rfl rfl ?_
                refine j_iconst (n := 125) (2) dX10_about_124 rfl (by decide) ?_
                refine j_aload_n (n := 126) dX10_about_125 rfl rfl ?_
                refine j_get (n := 129) 8 dX10_about_126 f_X10_20 rfl rfl rfl ?_
                refine j_callVe (n := 132) (Y1 := Y_X8_has) (5 * ix + 24 + 8) dX10_about_129 m_X10_173 cy_X8_has ci_X8_has (c_has (k0 := 5 * ix + 24 + 8) tx1.1 (k1 := 5 * ix + 24 + 1 + 8) tx1.2.1 (m0 := 10) rfl (m2 := 12) rfl l1.1) rfl rfl rfl tx1.1 rfl (by omega) (by omega) (by omega) (Nat.le_of_ble_eq_true rfl) ?_
                refine j_callSe (n := 135) (Y1 := Y_X10_bit) dX10_about_132 m_X10_169 cy_X10_bit cs_X10_bit (c_bit) rfl rfl rfl (by omega) (by omega) (by omega) (Nat.le_of_ble_eq_true rfl) ?_
                exact j_iret dX10_about_135 rfl rfl (by omega) (by omega) (hres _ (by rw [b01_bit]; rfl))
              · skip
                by_cases e6 : w = 6
                · subst e6
                  refine j_tableIn 136 dX10_about_21 (by decide) (by decide) (off := 115) (by decide) (by decide) ?_
                  refine j_aload_n (n := 137) dX10_about_136 rfl rfl ?_
                  refine j_get (n := 140) 8 dX10_about_137 f_X10_38 rfl rfl rfl ?_
                  refine j_aload_n (n := 141) dX10_about_140 rfl rfl ?_
                  refine j_get (n := 144) 8 dX10_about_141 f_X10_20 rfl rfl rfl ?_
                  refine j_callVe (n := 147) (Y1 := Y_X8_isPadded) (5 * ix + 24 + 8) dX10_about_144 m_X10_177 cy_X8_isPadded ci_X8_isPadded (c_isPadded (k0 := 5 * ix + 24 + 8) tx1.1 (k1 := 5 * ix + 24 + 1 + 8) tx1.2.1 (m0 := 10) rfl (m2 := 12) rfl l1.1) rfl rfl rfl tx1.1 rfl (by omega) (by omega) (by omega) (Nat.le_of_ble_eq_true rfl) ?_
                  refine j_callSe (n := 150) (Y1 := Y_X10_bit) dX10_about_147 m_X10_169 cy_X10_bit cs_X10_bit (c_bit) rfl rfl rfl (by omega) (by omega) (by omega) (Nat.le_of_ble_eq_true rfl) ?_
                  exact j_iret dX10_about_150 rfl rfl (by omega) (by omega) (hres _ (by rw [b01_bit]; rfl))
                · skip
                  rw [if_neg e0, if_neg e1, if_neg e2, if_neg e3, if_neg e4, if_neg e5, if_neg e6] at hres ⊢
                  refine j_tableOut 151 dX10_about_21 (sw7 e0 e1 e2 e3 e4 e5 e6) (by decide) ?_
                  refine j_iload_n (n := 152) dX10_about_151 rfl rfl ?_
                  refine j_bipush (n := 154) (20) dX10_about_152 rfl (by decide) ?_
                  refine j_icmp_ge (n := 157) 161 dX10_about_154 (by decide) rfl (fun c => ?_) (fun c => ?_)
                  · rw [if_neg (Int32.not_lt.mpr c)] at hres ⊢
                    refine j_aload_n (n := 162) dX10_about_161 rfl rfl ?_
                    refine j_get (n := 165) 8 dX10_about_162 f_X10_38 rfl rfl rfl ?_
                    refine j_iload_n (n := 166) dX10_about_165 rfl rfl ?_
                    refine j_bipush (n := 168) (20) dX10_about_166 rfl (by decide) ?_
                    refine j_isub (n := 169) dX10_about_168 rfl ?_
                    refine j_callVe (n := 172) (Y1 := Y_X8_seenAt) (5 * ix + 24 + 8) dX10_about_169 m_X10_181 cy_X8_seenAt ci_X8_seenAt (c_seenAt (k0 := 5 * ix + 24 + 8) tx1.1 (k2 := 5 * ix + 24 + 2 + 8) tx1.2.2.1 l1.2.2.2.1 l1.1) rfl rfl rfl tx1.1 rfl (by omega) (by omega) (by omega) (Nat.le_of_ble_eq_true rfl) ?_
                    exact j_iret dX10_about_172 rfl rfl (by omega) (by omega) (hres _ (by rw [atF_congr (by omega) s2, s1]))
                  · rw [if_pos (Int32.not_le.mp c)] at hres ⊢
                    refine j_iconst (n := 158) (-1) dX10_about_157 rfl (by decide) ?_
                    refine j_goto 172 dX10_about_158 (by decide) ?_
                    exact j_iret dX10_about_172 rfl rfl (by omega) (by omega) (hres _ rfl)
end T2

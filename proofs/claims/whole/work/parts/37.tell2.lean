/-! entry, about, chain, count -/
theorem sw5 {w : Int32} (h0 : ¬ w = 0) (h1 : ¬ w = 1) (h2 : ¬ w = 2) (h3 : ¬ w = 3) (h4 : ¬ w = 4) : w.toInt < 0 ∨ 4 < w.toInt := by
  have a0 := lv_neT h0 (show (0 : Int32).toInt = 0 from rfl)
  have a1 := lv_neT h1 (show (1 : Int32).toInt = 1 from rfl)
  have a2 := lv_neT h2 (show (2 : Int32).toInt = 2 from rfl)
  have a3 := lv_neT h3 (show (3 : Int32).toInt = 3 from rfl)
  have a4 := lv_neT h4 (show (4 : Int32).toInt = 4 from rfl)
  omega
theorem sw6 {w : Int32} (h0 : ¬ w = 0) (h1 : ¬ w = 1) (h2 : ¬ w = 2) (h3 : ¬ w = 3) (h4 : ¬ w = 4) (h5 : ¬ w = 5) : w.toInt < 0 ∨ 5 < w.toInt := by
  have a5 := lv_neT h5 (show (5 : Int32).toInt = 5 from rfl)
  have := sw5 h0 h1 h2 h3 h4
  omega
theorem sw7 {w : Int32} (h0 : ¬ w = 0) (h1 : ¬ w = 1) (h2 : ¬ w = 2) (h3 : ¬ w = 3) (h4 : ¬ w = 4) (h5 : ¬ w = 5) (h6 : ¬ w = 6) : w.toInt < 0 ∨ 6 < w.toInt := by
  have a6 := lv_neT h6 (show (6 : Int32).toInt = 6 from rfl)
  have := sw6 h0 h1 h2 h3 h4 h5
  omega
theorem sw13 {w : Int32} (h1 : ¬ w = 1) (h2 : ¬ w = 2) (h3 : ¬ w = 3) : w.toInt < 1 ∨ 3 < w.toInt := by
  have a1 := lv_neT h1 (show (1 : Int32).toInt = 1 from rfl)
  have a2 := lv_neT h2 (show (2 : Int32).toInt = 2 from rfl)
  have a3 := lv_neT h3 (show (3 : Int32).toInt = 3 from rfl)
  omega
theorem b01_bit (b : Bool) : (if b01 b = 0 then (0 : Int32) else 1) = b01 b := by cases b <;> rfl
theorem bit01 {x : Int32} (h : x = 0 ∨ x = 1) : (if x = 0 then (0 : Int32) else 1) = x := by rcases h with rfl | rfl <;> rfl
theorem atF_congr {n : Nat} {f g : Nat → Int32} {i : Int32} (hn : n < 2147483648) (h : ∀ k, k < n → f k = g k) : atF n f i = atF n g i := by
  unfold atF
  split
  · rfl
  · rename_i hc
    rcases ix3 i hn with h1 | h1 | ⟨j, hj, rfl⟩
    · exact absurd (Or.inl h1) hc
    · exact absurd (Or.inr h1) hc
    · rw [nI_clamp (by omega)]; exact h j hj
section T2
variable {G : GT} {Q N : Nat → Nat} {Z : Nat → Int32} {F : Nat → Nat → Int32} {nm : Option Nat} {Ef : Nat → Option Nat} {T : List TR} {E : List ER} {tail P : va_W} {er eo es : Nat → Int32} {el : Nat → Nat} {et : Nat → Nat → Int32} {rf rw : Nat → Nat} {rs : Nat → Int32} {ns : Option (Nat × (Nat → Int32))}
def etW (hw : Nat → Int32) (r o s : Int32) (l : Nat) (t : Nat → Int32) (w : Int32) : Int32 := if w = 0 then r else if w = 1 then o else if w = 2 then nI l else if w = 3 then nI (seeN hw t l) else if w = 4 then s else if w < 20 then -1 else atF l t (w - 20)
def etS (hw : Nat → Int32) (en : Nat) (er eo es : Nat → Int32) (el : Nat → Nat) (et : Nat → Nat → Int32) (e w : Int32) : Int32 := if e < 0 ∨ nI en ≤ e then -1 else etW hw (er e.toNatClampNeg) (eo e.toNatClampNeg) (es e.toNatClampNeg) (el e.toNatClampNeg) (et e.toNatClampNeg) w
theorem c_entry {e w : Int32} (hP : PInv N Z F) (hX : XInv N F T) (hE : ENT E T (N 7) er eo es el et) (hf : EFI E Ef) : JM G Y_X10_entry 3 0 0 [.ref (Q 8), .int e, .int w] (cW G Q N Z F nm Ef (poolE G T E tail)) (Qi (fun r u => r = etS (F 12) (N 7) er eo es el et e w ∧ ∃ T' : List TR, u = cW G Q N Z F nm Ef (poolE G T' E tail) ∧ EQT T T' ∧ XInv N F T')) := by
  have hps : N 1 < 1000 := hP.2.2.2.2.1
  have h7 := hE.2.1
  unfold etS
  refine JM.of [(0, .ref (Q 8)), (1, .int e), (2, .int w)] rfl rfl (by simp) (Nat.le_of_ble_eq_true rfl) (by decide +kernel) ?_
  refine j_aload_n (n := 1) dX10_entry_0 rfl rfl ?_
  refine j_iload_n (n := 2) dX10_entry_1 rfl rfl ?_
  refine j_callVq (n := 5) (Y1 := Y_X10_entryAt) 8 dX10_entry_2 m_X10_248 cy_X10_entryAt ci_X10_entryAt (c_entryAt h7) rfl rfl rfl rfl rfl (by omega) (by omega) (by omega) (Nat.le_of_ble_eq_true rfl) ?_
  by_cases hr : e < 0 ∨ nI (N 7) ≤ e
  · rw [if_pos hr, if_pos hr]
    refine j_astore_nN (n := 6) dX10_entry_5 rfl (by decide) ?_
    refine j_aload_nN (n := 7) dX10_entry_6 rfl rfl ?_
    refine j_ifnonnullN (n := 10) dX10_entry_7 rfl ?_
    refine j_iconst (n := 11) (-1) dX10_entry_10 rfl (by decide) ?_
    exact j_iret dX10_entry_11 rfl rfl (by omega) (by omega) (⟨rfl, T, rfl, EQT.rf T, hX⟩)
  · rw [if_neg hr, if_neg hr]
    rcases ix3 e (n := N 7) (by omega) with h | h | ⟨j, hj, rfl⟩
    · exact absurd (Or.inl h) hr
    · exact absurd (Or.inr h) hr
    · obtain ⟨x, r, g1, g2, g3, g4, g5, g6, g8, g9, g10⟩ := hE.2.2 j hj
      rw [nI_clamp (by omega), hf j x g1]
      have tr := hX _ r g2
      refine j_astore_n (n := 6) dX10_entry_5 rfl (by decide) ?_
      refine j_aload_n (n := 7) dX10_entry_6 rfl rfl ?_
      refine j_ifnonnull 12 dX10_entry_7 (by decide) ?_
      refine j_aload_n (n := 13) dX10_entry_12 rfl rfl ?_
      refine j_getN (n := 16) (5 * T.length + j + 24 + 8) dX10_entry_13 f_X10_224 rfl (ep_get (G := G) (T := T) (tail := tail) g1) rfl ?_
      refine j_aload_n (n := 17) dX10_entry_16 rfl rfl ?_
      refine j_get (n := 20) 8 dX10_entry_17 f_X10_20 rfl rfl rfl ?_
      refine j_eq (st' := [.ref (Q 10), .ref (r.1 0)]) rfl rfl (by rw [g3]) rfl ?_
      refine j_callVv (n := 23) (Y1 := Y_X8_look) (5 * x.2.2.2.2.1 + 0 + 24 + 8) dX10_entry_20 m_X10_144 cy_X8_look ci_X8_look (c_lookT g2 tr.1) rfl rfl rfl (tp_get (G := G) (tail := E.map eCell ++ tail) (c := 0) (by omega) T _ r g2) rfl (by omega) (by omega) (by omega) (Nat.le_of_ble_eq_true rfl) (fun w h => ?_)
      subst h
      obtain ⟨l1, l2⟩ := tr.look hps
      have kl := lookR_keep (F 12) (N 5) r
      rw [← kl.1] at g3
      rw [← kl.2.1] at g8
      rw [← kl.2.2] at g9
      generalize lookR (F 12) (N 5) r = r1 at l1 l2 kl g3 g8 g9 ⊢
      have hT2 := EQT.set g2 kl
      have hX2 := hX.set (i := x.2.2.2.2.1) l1
      have gr : (T.set x.2.2.2.2.1 r1)[x.2.2.2.2.1]? = some r1 := gs_eq g2
      generalize T.set x.2.2.2.2.1 r1 = T2 at hT2 hX2 gr ⊢
      have tx1 := txa_of (G := G) (Q := Q) (N := N) (Z := Z) (F := F) (nm := nm) (Ef := Ef) (tail := E.map eCell ++ tail) gr l1.2.2.2.1 l1.1
      obtain ⟨s1, -⟩ := l1.2.2.2.2.2.1 l2
      have g4' : Value.int x.2.1 = .int (er j) := by rw [g4]
      have htx : Value.ref x.2.2.2.1 = .ref (r1.1 0) := by rw [g3]
      have hres : ∀ v : Int32, v = etW (F 12) (er j) (eo j) (es j) (el j) (et j) w → v = etW (F 12) (er j) (eo j) (es j) (el j) (et j) w ∧ ∃ T' : List TR, cW G Q N Z F nm Ef (poolE G T2 E tail) = cW G Q N Z F nm Ef (poolE G T' E tail) ∧ EQT T T' ∧ XInv N F T' := fun v hv => ⟨hv, T2, rfl, hT2, hX2⟩
      clear l2 kl
      unfold etW at hres ⊢
      refine j_iload_n (n := 24) dX10_entry_23 rfl rfl ?_
      by_cases e0 : w = 0
      · subst e0
        refine j_tableIn 60 dX10_entry_24 (by decide) (by decide) (off := 36) (by decide) (by decide) ?_
        refine j_aload_n (n := 61) dX10_entry_60 rfl rfl ?_
        refine j_getN (n := 64) (5 * T2.length + j + 24 + 8) dX10_entry_61 f_X10_221 rfl (ep_get (G := G) (T := T2) (tail := tail) g1) rfl ?_
        exact j_iret dX10_entry_64 rfl rfl (by omega) (by omega) (hres _ g4)
      · by_cases e1 : w = 1
        · subst e1
          refine j_tableIn 65 dX10_entry_24 (by decide) (by decide) (off := 41) (by decide) (by decide) ?_
          refine j_aload_n (n := 66) dX10_entry_65 rfl rfl ?_
          refine j_getN (n := 69) (5 * T2.length + j + 24 + 8) dX10_entry_66 f_X10_230 rfl (ep_get (G := G) (T := T2) (tail := tail) g1) rfl ?_
          exact j_iret dX10_entry_69 rfl rfl (by omega) (by omega) (hres _ g5)
        · by_cases e2 : w = 2
          · subst e2
            refine j_tableIn 70 dX10_entry_24 (by decide) (by decide) (off := 46) (by decide) (by decide) ?_
            refine j_aload_n (n := 71) dX10_entry_70 rfl rfl ?_
            refine j_getN (n := 74) (5 * T2.length + j + 24 + 8) dX10_entry_71 f_X10_224 rfl (ep_get (G := G) (T := T2) (tail := tail) g1) rfl ?_
            refine j_eq (st' := [.ref (r1.1 0)]) rfl rfl (by rw [← htx]) rfl ?_
            refine j_getN (n := 77) (5 * x.2.2.2.2.1 + 24 + 8) dX10_entry_74 f_X10_158 rfl (tx1.1) rfl ?_
            exact j_iret dX10_entry_77 rfl rfl (by omega) (by omega) (hres _ (by rw [← g8]; rfl))
          · by_cases e3 : w = 3
            · subst e3
              refine j_tableIn 78 dX10_entry_24 (by decide) (by decide) (off := 54) (by decide) (by decide) ?_
              refine j_aload_n (n := 79) dX10_entry_78 rfl rfl ?_
              refine j_getN (n := 82) (5 * T2.length + j + 24 + 8) dX10_entry_79 f_X10_224 rfl (ep_get (G := G) (T := T2) (tail := tail) g1) rfl ?_
              refine j_eq (st' := [.ref (r1.1 0)]) rfl rfl (by rw [← htx]) rfl ?_
              refine j_getN (n := 85) (5 * x.2.2.2.2.1 + 24 + 8) dX10_entry_82 f_X10_148 rfl (tx1.1) rfl ?_
              exact j_iret dX10_entry_85 rfl rfl (by omega) (by omega) (hres _ (by rw [← g8, ← g9, ← s1]; rfl))
            · by_cases e4 : w = 4
              · subst e4
                refine j_tableIn 86 dX10_entry_24 (by decide) (by decide) (off := 62) (by decide) (by decide) ?_
                refine j_aload_n (n := 87) dX10_entry_86 rfl rfl ?_
                refine j_getN (n := 90) (5 * T2.length + j + 24 + 8) dX10_entry_87 f_X10_245 rfl (ep_get (G := G) (T := T2) (tail := tail) g1) rfl ?_
                refine j_callSe (n := 93) (Y1 := Y_X10_bit) dX10_entry_90 m_X10_169 cy_X10_bit cs_X10_bit (c_bit) rfl rfl rfl (by omega) (by omega) (by omega) (Nat.le_of_ble_eq_true rfl) ?_
                exact j_iret dX10_entry_93 rfl rfl (by omega) (by omega) (hres _ (by rw [g6, bit01 g10]; rfl))
              · rw [if_neg e0, if_neg e1, if_neg e2, if_neg e3, if_neg e4] at hres ⊢
                refine j_tableOut 94 dX10_entry_24 (sw5 e0 e1 e2 e3 e4) (by decide) ?_
                refine j_iload_n (n := 95) dX10_entry_94 rfl rfl ?_
                refine j_bipush (n := 97) (20) dX10_entry_95 rfl (by decide) ?_
                refine j_icmp_ge (n := 100) 104 dX10_entry_97 (by decide) rfl (fun c => ?_) (fun c => ?_)
                · rw [if_neg (Int32.not_lt.mpr c)] at hres ⊢
                  refine j_aload_n (n := 105) dX10_entry_104 rfl rfl ?_
                  refine j_getN (n := 108) (5 * T2.length + j + 24 + 8) dX10_entry_105 f_X10_224 rfl (ep_get (G := G) (T := T2) (tail := tail) g1) rfl ?_
                  refine j_eq (st' := [.ref (r1.1 0)]) rfl rfl (by rw [← htx]) rfl ?_
                  refine j_iload_n (n := 109) dX10_entry_108 rfl rfl ?_
                  refine j_bipush (n := 111) (20) dX10_entry_109 rfl (by decide) ?_
                  refine j_isub (n := 112) dX10_entry_111 rfl ?_
                  refine j_callVe (n := 115) (Y1 := Y_X8_toldAt) (5 * x.2.2.2.2.1 + 24 + 8) dX10_entry_112 m_X10_251 cy_X8_toldAt ci_X8_toldAt (c_toldAt (k0 := 5 * x.2.2.2.2.1 + 24 + 8) tx1.1 (k1 := 5 * x.2.2.2.2.1 + 24 + 1 + 8) tx1.2.1 l1.1) rfl rfl rfl tx1.1 rfl (by omega) (by omega) (by omega) (Nat.le_of_ble_eq_true rfl) ?_
                  exact j_iret dX10_entry_115 rfl rfl (by omega) (by omega) (hres _ (by rw [← g8, ← g9]))
                · rw [if_pos (Int32.not_le.mp c)] at hres ⊢
                  refine j_iconst (n := 101) (-1) dX10_entry_100 rfl (by decide) ?_
                  refine j_goto 115 dX10_entry_101 (by decide) ?_
                  exact j_iret dX10_entry_115 rfl rfl (by omega) (by omega) (hres _ rfl)
end T2

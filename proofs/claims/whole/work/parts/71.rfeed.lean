/-! the reference: feed -/
theorem t8_eq {a b : Int32} (h : a.toInt % 256 = b.toInt % 256) : a.toInt8 = b.toInt8 := by
  apply Int8.toInt_inj.1
  rw [Int32.toInt_toInt8, Int32.toInt_toInt8]
  unfold Int.bmod
  rw [show ((2 ^ 8 : Nat) : Int) = 256 from rfl, h]
theorem by_t8 (x s : Int32) (k : Nat) (hk : k = 0 ∨ k = 8 ∨ k = 16 ∨ k = 24) (h1 : ((s.toUInt32 &&& Int32.toUInt32 31).toBitVec % 32).toNat = k) (h2 : ((s &&& 31).toBitVec.smod 32).toNat = k) : ∃ m : Nat, m < 256 ∧ byF x s = nI m ∧ (x >>> (s &&& 31)).toInt8.toInt32 = (nI m).toInt8.toInt32 := by
  refine ⟨x.toBitVec.toNat / 2 ^ k % 256, Nat.mod_lt _ (by omega), ?_, ?_⟩
  · unfold byF; rw [pk_and _ (m := 255) 8 (by decide), pk_ushr x s k h1]
  · congr 1
    apply t8_eq
    have hm : x.toBitVec.toNat / 2 ^ k % 256 < 256 := Nat.mod_lt _ (by omega)
    rw [pk_shr x (s &&& 31) k h2, nI_toInt (by omega), Int.shiftRight_eq_div_pow]
    have hl := x.toBitVec.isLt
    have e : x.toInt = if 2 * x.toBitVec.toNat < 2 ^ 32 then (x.toBitVec.toNat : Int) else (x.toBitVec.toNat : Int) - (2 ^ 32 : Nat) := BitVec.toInt_eq_toNat_cond x.toBitVec
    rw [e]
    clear e h1 h2 hm
    generalize x.toBitVec.toNat = n at hl ⊢
    rcases hk with rfl | rfl | rfl | rfl <;> split <;> omega
def bR (x s : Int32) : Int32 := (x >>> (s &&& 31)).toInt8.toInt32
def pRF (f : Nat → Int32) (n : Nat) (x : Int32) : Nat → Int32 := upd (upd (upd (upd f n (bR x 24)) (n + 1) (bR x 16)) (n + 2) (bR x 8)) (n + 3) (bR x 0)
/-- the class's tape is the reference's -/
def TPR (f g : Nat → Int32) (n : Nat) : Prop := ∀ j, j < n → ∃ m : Nat, m < 256 ∧ f j = nI m ∧ g j = (nI m).toInt8.toInt32
theorem TPR.put {f g : Nat → Int32} {n : Nat} {x s : Int32} (h : TPR f g n) (hs : ∃ m : Nat, m < 256 ∧ byF x s = nI m ∧ bR x s = (nI m).toInt8.toInt32) : TPR (upd f n (byF x s)) (upd g n (bR x s)) (n + 1) := by
  intro j hj
  by_cases e : j = n
  · subst e; rw [pk_us, pk_us]; exact hs
  · rw [pk_un e, pk_un e]; exact h j (by omega)
theorem TPR.put4 {f g : Nat → Int32} {n : Nat} {x : Int32} (h : TPR f g n) : TPR (pbF f n x) (pRF g n x) (n + 4) :=
  (((h.put (by_t8 x 24 24 (by omega) (by decide) (by decide))).put (by_t8 x 16 16 (by omega) (by decide) (by decide))).put (by_t8 x 8 8 (by omega) (by decide) (by decide))).put (by_t8 x 0 0 (by omega) (by decide) (by decide))
/-- only the tape differs -/
def RTP (M : Nat → Nat) (R : Nat → Nat → Int32) (M' : Nat → Nat) (R' : Nat → Nat → Int32) : Prop := (∀ i, i ≠ 3 → M' i = M i) ∧ ∀ i, i ≠ 3 → R' i = R i
theorem RTP.rf (M : Nat → Nat) (R : Nat → Nat → Int32) : RTP M R M R := ⟨fun _ _ => rfl, fun _ _ => rfl⟩
theorem RTP.tr {M M1 M2 : Nat → Nat} {R R1 R2 : Nat → Nat → Int32} (h : RTP M R M1 R1) (h' : RTP M1 R1 M2 R2) : RTP M R M2 R2 := ⟨fun k a => (h'.1 k a).trans (h.1 k a), fun k a => (h'.2 k a).trans (h.2 k a)⟩
section RO
variable {G : GT} {A M : Nat → Nat} {Z : Nat → Int32} {R : Nat → Nat → Int32} {P ws : va_W} {post : OT} {a b c d e : Int32}
abbrev fL (A : Nat → Nat) (a b c d e i : Int32) : List (Nat × Value) := [(0, .ref (A 0)), (1, .int a), (2, .int b), (3, .int c), (4, .int d), (5, .int e), (6, .int i)]
theorem fr_4 {n : Nat} {x i : Int32} (hM : M 3 = n) (hn : n + 4 ≤ 200)
    (hk : ∀ (M' : Nat → Nat) (R' : Nat → Nat → Int32), RTP M R M' R' → M' 3 = n + 4 → R' 3 = pRF (R 3) n x → JJ G Y_X11_feed 1 0 0 post 109 (fL A a b c d e i) [] (rW G A M' Z R' P) 0 0) :
    JJ G Y_X11_feed 1 0 0 post 69 [(0, .ref (A 0)), (1, .int a), (2, .int b), (3, .int c), (4, .int d), (5, .int e), (6, .int i), (7, .int x)] [] (rW G A M Z R P) 0 0 := by
  refine j_bipush (n := 71) (24) dX11_feed_69 rfl (by decide) ?_
  refine j_istore (n := 73) dX11_feed_71 rfl (by decide) ?_
  refine j_iload (n := 75) dX11_feed_73 rfl rfl ?_
  refine j_if_lt (n := 78) 109 dX11_feed_75 (by decide) rfl (fun c0 => ?_) (fun c0 => ?_)
  · exact absurd c0 (by decide)
  · refine j_aload_n (n := 79) dX11_feed_78 rfl rfl ?_
    refine j_get (n := 82) 0 dX11_feed_79 f_X11_16 rfl rfl rfl ?_
    refine j_aload_n (n := 83) dX11_feed_82 rfl rfl ?_
    refine j_get (n := 86) 0 dX11_feed_83 f_X11_110 rfl rfl rfl ?_
    refine j_iload (n := 88) dX11_feed_86 rfl rfl ?_
    refine j_iload (n := 90) dX11_feed_88 rfl rfl ?_
    refine j_ishr (n := 91) dX11_feed_90 rfl ?_
    refine j_i2b (n := 92) dX11_feed_91 rfl ?_
    refine j_bast (n := 93) 3 n dX11_feed_92 rfl rfl (by rw [hM]) (by omega) (by omega) ?_
    refine j_ws (ws' := rW G A M Z (va_up R 3 (upd (R 3) n (vp_nar .byte (bR x 24)))) P) rfl ?_
    rw [show vp_nar .byte (bR x 24) = bR x 24 from pk_vb _]
    refine j_nmR (fun R1 a0 b0 => ?_)
    refine j_aload_n (n := 94) dX11_feed_93 rfl rfl ?_
    refine j_dup (n := 95) dX11_feed_94 rfl rfl ?_
    refine j_get (n := 98) 0 dX11_feed_95 f_X11_110 rfl rfl rfl ?_
    refine j_iconst (n := 99) (1) dX11_feed_98 rfl (by decide) ?_
    refine j_iadd (n := 100) dX11_feed_99 rfl ?_
    refine j_top (nI (n + 1)) (by rw [hM]; exact nI_inc _) ?_
    refine j_put (n := 103) 0 dX11_feed_100 f_X11_110 rfl rfl rfl (Nat.le_of_ble_eq_true rfl) rfl rfl ?_
    refine j_ws (ws' := rW G A (va_up M 3 (n + 1)) Z R1 P) rfl ?_
    refine j_nmM (fun M1 p0 m1 => ?_)
    refine j_iinc (n := 106) (16 : Int32) dX11_feed_103 rfl rfl (by decide) (by decide) ?_
    refine j_goto 73 dX11_feed_106 (by decide) ?_
    refine j_iload (n := 75) dX11_feed_73 rfl rfl ?_
    refine j_if_lt (n := 78) 109 dX11_feed_75 (by decide) rfl (fun c1 => ?_) (fun c1 => ?_)
    · exact absurd c1 (by decide)
    · refine j_aload_n (n := 79) dX11_feed_78 rfl rfl ?_
      refine j_get (n := 82) 0 dX11_feed_79 f_X11_16 rfl rfl rfl ?_
      refine j_aload_n (n := 83) dX11_feed_82 rfl rfl ?_
      refine j_get (n := 86) 0 dX11_feed_83 f_X11_110 rfl rfl rfl ?_
      refine j_iload (n := 88) dX11_feed_86 rfl rfl ?_
      refine j_iload (n := 90) dX11_feed_88 rfl rfl ?_
      refine j_ishr (n := 91) dX11_feed_90 rfl ?_
      refine j_i2b (n := 92) dX11_feed_91 rfl ?_
      refine j_bast (n := 93) 3 (n + 1) dX11_feed_92 rfl rfl (by rw [m1]) (by omega) (by omega) ?_
      refine j_ws (ws' := rW G A M1 Z (va_up R1 3 (upd (R1 3) (n + 1) (vp_nar .byte (bR x 16)))) P) rfl ?_
      rw [show vp_nar .byte (bR x 16) = bR x 16 from pk_vb _]
      refine j_nmR (fun R2 a1 b1 => ?_)
      refine j_aload_n (n := 94) dX11_feed_93 rfl rfl ?_
      refine j_dup (n := 95) dX11_feed_94 rfl rfl ?_
      refine j_get (n := 98) 0 dX11_feed_95 f_X11_110 rfl rfl rfl ?_
      refine j_iconst (n := 99) (1) dX11_feed_98 rfl (by decide) ?_
      refine j_iadd (n := 100) dX11_feed_99 rfl ?_
      refine j_top (nI (n + 2)) (by rw [m1]; exact nI_inc _) ?_
      refine j_put (n := 103) 0 dX11_feed_100 f_X11_110 rfl rfl rfl (Nat.le_of_ble_eq_true rfl) rfl rfl ?_
      refine j_ws (ws' := rW G A (va_up M1 3 (n + 2)) Z R2 P) rfl ?_
      refine j_nmM (fun M2 p1 m2 => ?_)
      refine j_iinc (n := 106) (8 : Int32) dX11_feed_103 rfl rfl (by decide) (by decide) ?_
      refine j_goto 73 dX11_feed_106 (by decide) ?_
      refine j_iload (n := 75) dX11_feed_73 rfl rfl ?_
      refine j_if_lt (n := 78) 109 dX11_feed_75 (by decide) rfl (fun c2 => ?_) (fun c2 => ?_)
      · exact absurd c2 (by decide)
      · refine j_aload_n (n := 79) dX11_feed_78 rfl rfl ?_
        refine j_get (n := 82) 0 dX11_feed_79 f_X11_16 rfl rfl rfl ?_
        refine j_aload_n (n := 83) dX11_feed_82 rfl rfl ?_
        refine j_get (n := 86) 0 dX11_feed_83 f_X11_110 rfl rfl rfl ?_
        refine j_iload (n := 88) dX11_feed_86 rfl rfl ?_
        refine j_iload (n := 90) dX11_feed_88 rfl rfl ?_
        refine j_ishr (n := 91) dX11_feed_90 rfl ?_
        refine j_i2b (n := 92) dX11_feed_91 rfl ?_
        refine j_bast (n := 93) 3 (n + 2) dX11_feed_92 rfl rfl (by rw [m2]) (by omega) (by omega) ?_
        refine j_ws (ws' := rW G A M2 Z (va_up R2 3 (upd (R2 3) (n + 2) (vp_nar .byte (bR x 8)))) P) rfl ?_
        rw [show vp_nar .byte (bR x 8) = bR x 8 from pk_vb _]
        refine j_nmR (fun R3 a2 b2 => ?_)
        refine j_aload_n (n := 94) dX11_feed_93 rfl rfl ?_
        refine j_dup (n := 95) dX11_feed_94 rfl rfl ?_
        refine j_get (n := 98) 0 dX11_feed_95 f_X11_110 rfl rfl rfl ?_
        refine j_iconst (n := 99) (1) dX11_feed_98 rfl (by decide) ?_
        refine j_iadd (n := 100) dX11_feed_99 rfl ?_
        refine j_top (nI (n + 3)) (by rw [m2]; exact nI_inc _) ?_
        refine j_put (n := 103) 0 dX11_feed_100 f_X11_110 rfl rfl rfl (Nat.le_of_ble_eq_true rfl) rfl rfl ?_
        refine j_ws (ws' := rW G A (va_up M2 3 (n + 3)) Z R3 P) rfl ?_
        refine j_nmM (fun M3 p2 m3 => ?_)
        refine j_iinc (n := 106) (0 : Int32) dX11_feed_103 rfl rfl (by decide) (by decide) ?_
        refine j_goto 73 dX11_feed_106 (by decide) ?_
        refine j_iload (n := 75) dX11_feed_73 rfl rfl ?_
        refine j_if_lt (n := 78) 109 dX11_feed_75 (by decide) rfl (fun c3 => ?_) (fun c3 => ?_)
        · exact absurd c3 (by decide)
        · refine j_aload_n (n := 79) dX11_feed_78 rfl rfl ?_
          refine j_get (n := 82) 0 dX11_feed_79 f_X11_16 rfl rfl rfl ?_
          refine j_aload_n (n := 83) dX11_feed_82 rfl rfl ?_
          refine j_get (n := 86) 0 dX11_feed_83 f_X11_110 rfl rfl rfl ?_
          refine j_iload (n := 88) dX11_feed_86 rfl rfl ?_
          refine j_iload (n := 90) dX11_feed_88 rfl rfl ?_
          refine j_ishr (n := 91) dX11_feed_90 rfl ?_
          refine j_i2b (n := 92) dX11_feed_91 rfl ?_
          refine j_bast (n := 93) 3 (n + 3) dX11_feed_92 rfl rfl (by rw [m3]) (by omega) (by omega) ?_
          refine j_ws (ws' := rW G A M3 Z (va_up R3 3 (upd (R3 3) (n + 3) (vp_nar .byte (bR x 0)))) P) rfl ?_
          rw [show vp_nar .byte (bR x 0) = bR x 0 from pk_vb _]
          refine j_nmR (fun R4 a3 b3 => ?_)
          refine j_aload_n (n := 94) dX11_feed_93 rfl rfl ?_
          refine j_dup (n := 95) dX11_feed_94 rfl rfl ?_
          refine j_get (n := 98) 0 dX11_feed_95 f_X11_110 rfl rfl rfl ?_
          refine j_iconst (n := 99) (1) dX11_feed_98 rfl (by decide) ?_
          refine j_iadd (n := 100) dX11_feed_99 rfl ?_
          refine j_top (nI (n + 4)) (by rw [m3]; exact nI_inc _) ?_
          refine j_put (n := 103) 0 dX11_feed_100 f_X11_110 rfl rfl rfl (Nat.le_of_ble_eq_true rfl) rfl rfl ?_
          refine j_ws (ws' := rW G A (va_up M3 3 (n + 4)) Z R4 P) rfl ?_
          refine j_nmM (fun M4 p3 m4 => ?_)
          refine j_iinc (n := 106) (-8 : Int32) dX11_feed_103 rfl rfl (by decide) (by decide) ?_
          refine j_goto 73 dX11_feed_106 (by decide) ?_
          refine j_iload (n := 75) dX11_feed_73 rfl rfl ?_
          refine j_if_lt (n := 78) 109 dX11_feed_75 (by decide) rfl (fun c4 => ?_) (fun c4 => ?_)
          · refine j_keep [0, 1, 2, 3, 4, 5, 6] rfl ?_
            exact hk M4 R4 ⟨fun i h => by rw [p3 i h, p2 i h, p1 i h, p0 i h], fun i h => by rw [a3 i h, a2 i h, a1 i h, a0 i h]⟩ m4 (by rw [b3, b2, b1, b0]; rfl)
          · exact absurd (by decide) c4
theorem fr_i0 {n : Nat} (hM : M 3 = n) (hn : n + 4 ≤ 200)
    (hk : ∀ (M' : Nat → Nat) (R' : Nat → Nat → Int32), RTP M R M' R' → M' 3 = n + 4 → R' 3 = pRF (R 3) n a → JJ G Y_X11_feed 1 0 0 post 19 (fL A a b c d e 1) [] (rW G A M' Z R' P) 0 0) :
    JJ G Y_X11_feed 1 0 0 post 19 (fL A a b c d e 0) [] (rW G A M Z R P) 0 0 := by
  refine j_iload (n := 21) dX11_feed_19 rfl rfl ?_
  refine j_iconst (n := 22) (5) dX11_feed_21 rfl (by decide) ?_
  refine j_icmp_ge (n := 25) 115 dX11_feed_22 (by decide) rfl (fun c0 => ?_) (fun c0 => ?_)
  · exact absurd c0 (by decide)
  · refine j_iload (n := 27) dX11_feed_25 rfl rfl ?_
    refine j_if_ne (n := 30) 34 dX11_feed_27 (by decide) rfl (fun q0 => ?_) (fun q0 => ?_)
    · exact absurd rfl q0
    · refine j_iload_n (n := 31) dX11_feed_30 rfl rfl ?_
      refine j_goto 67 dX11_feed_31 (by decide) ?_
      refine j_istore (n := 69) dX11_feed_67 rfl (by decide) ?_
      refine fr_4 (i := 0) hM hn (fun M' R' h1 h2 h3 => ?_)
      refine j_iinc (n := 112) (1 : Int32) dX11_feed_109 rfl rfl (by decide) (by decide) ?_
      refine j_goto 19 dX11_feed_112 (by decide) ?_
      exact hk M' R' h1 h2 h3
theorem fr_i1 {n : Nat} (hM : M 3 = n) (hn : n + 4 ≤ 200)
    (hk : ∀ (M' : Nat → Nat) (R' : Nat → Nat → Int32), RTP M R M' R' → M' 3 = n + 4 → R' 3 = pRF (R 3) n b → JJ G Y_X11_feed 1 0 0 post 19 (fL A a b c d e 2) [] (rW G A M' Z R' P) 0 0) :
    JJ G Y_X11_feed 1 0 0 post 19 (fL A a b c d e 1) [] (rW G A M Z R P) 0 0 := by
  refine j_iload (n := 21) dX11_feed_19 rfl rfl ?_
  refine j_iconst (n := 22) (5) dX11_feed_21 rfl (by decide) ?_
  refine j_icmp_ge (n := 25) 115 dX11_feed_22 (by decide) rfl (fun c0 => ?_) (fun c0 => ?_)
  · exact absurd c0 (by decide)
  · refine j_iload (n := 27) dX11_feed_25 rfl rfl ?_
    refine j_if_ne (n := 30) 34 dX11_feed_27 (by decide) rfl (fun q0 => ?_) (fun q0 => ?_)
    · refine j_iload (n := 36) dX11_feed_34 rfl rfl ?_
      refine j_iconst (n := 37) (1) dX11_feed_36 rfl (by decide) ?_
      refine j_icmp_ne (n := 40) 44 dX11_feed_37 (by decide) rfl (fun q1 => ?_) (fun q1 => ?_)
      · exact absurd rfl q1
      · refine j_iload_n (n := 41) dX11_feed_40 rfl rfl ?_
        refine j_goto 67 dX11_feed_41 (by decide) ?_
        refine j_istore (n := 69) dX11_feed_67 rfl (by decide) ?_
        refine fr_4 (i := 1) hM hn (fun M' R' h1 h2 h3 => ?_)
        refine j_iinc (n := 112) (2 : Int32) dX11_feed_109 rfl rfl (by decide) (by decide) ?_
        refine j_goto 19 dX11_feed_112 (by decide) ?_
        exact hk M' R' h1 h2 h3
    · exact absurd q0 (by decide)
theorem fr_i2 {n : Nat} (hM : M 3 = n) (hn : n + 4 ≤ 200)
    (hk : ∀ (M' : Nat → Nat) (R' : Nat → Nat → Int32), RTP M R M' R' → M' 3 = n + 4 → R' 3 = pRF (R 3) n c → JJ G Y_X11_feed 1 0 0 post 19 (fL A a b c d e 3) [] (rW G A M' Z R' P) 0 0) :
    JJ G Y_X11_feed 1 0 0 post 19 (fL A a b c d e 2) [] (rW G A M Z R P) 0 0 := by
  refine j_iload (n := 21) dX11_feed_19 rfl rfl ?_
  refine j_iconst (n := 22) (5) dX11_feed_21 rfl (by decide) ?_
  refine j_icmp_ge (n := 25) 115 dX11_feed_22 (by decide) rfl (fun c0 => ?_) (fun c0 => ?_)
  · exact absurd c0 (by decide)
  · refine j_iload (n := 27) dX11_feed_25 rfl rfl ?_
    refine j_if_ne (n := 30) 34 dX11_feed_27 (by decide) rfl (fun q0 => ?_) (fun q0 => ?_)
    · refine j_iload (n := 36) dX11_feed_34 rfl rfl ?_
      refine j_iconst (n := 37) (1) dX11_feed_36 rfl (by decide) ?_
      refine j_icmp_ne (n := 40) 44 dX11_feed_37 (by decide) rfl (fun q1 => ?_) (fun q1 => ?_)
      · refine j_iload (n := 46) dX11_feed_44 rfl rfl ?_
        refine j_iconst (n := 47) (2) dX11_feed_46 rfl (by decide) ?_
        refine j_icmp_ne (n := 50) 54 dX11_feed_47 (by decide) rfl (fun q2 => ?_) (fun q2 => ?_)
        · exact absurd rfl q2
        · refine j_iload_n (n := 51) dX11_feed_50 rfl rfl ?_
          refine j_goto 67 dX11_feed_51 (by decide) ?_
          refine j_istore (n := 69) dX11_feed_67 rfl (by decide) ?_
          refine fr_4 (i := 2) hM hn (fun M' R' h1 h2 h3 => ?_)
          refine j_iinc (n := 112) (3 : Int32) dX11_feed_109 rfl rfl (by decide) (by decide) ?_
          refine j_goto 19 dX11_feed_112 (by decide) ?_
          exact hk M' R' h1 h2 h3
      · exact absurd q1 (by decide)
    · exact absurd q0 (by decide)
theorem fr_i3 {n : Nat} (hM : M 3 = n) (hn : n + 4 ≤ 200)
    (hk : ∀ (M' : Nat → Nat) (R' : Nat → Nat → Int32), RTP M R M' R' → M' 3 = n + 4 → R' 3 = pRF (R 3) n d → JJ G Y_X11_feed 1 0 0 post 19 (fL A a b c d e 4) [] (rW G A M' Z R' P) 0 0) :
    JJ G Y_X11_feed 1 0 0 post 19 (fL A a b c d e 3) [] (rW G A M Z R P) 0 0 := by
  refine j_iload (n := 21) dX11_feed_19 rfl rfl ?_
  refine j_iconst (n := 22) (5) dX11_feed_21 rfl (by decide) ?_
  refine j_icmp_ge (n := 25) 115 dX11_feed_22 (by decide) rfl (fun c0 => ?_) (fun c0 => ?_)
  · exact absurd c0 (by decide)
  · refine j_iload (n := 27) dX11_feed_25 rfl rfl ?_
    refine j_if_ne (n := 30) 34 dX11_feed_27 (by decide) rfl (fun q0 => ?_) (fun q0 => ?_)
    · refine j_iload (n := 36) dX11_feed_34 rfl rfl ?_
      refine j_iconst (n := 37) (1) dX11_feed_36 rfl (by decide) ?_
      refine j_icmp_ne (n := 40) 44 dX11_feed_37 (by decide) rfl (fun q1 => ?_) (fun q1 => ?_)
      · refine j_iload (n := 46) dX11_feed_44 rfl rfl ?_
        refine j_iconst (n := 47) (2) dX11_feed_46 rfl (by decide) ?_
        refine j_icmp_ne (n := 50) 54 dX11_feed_47 (by decide) rfl (fun q2 => ?_) (fun q2 => ?_)
        · refine j_iload (n := 56) dX11_feed_54 rfl rfl ?_
          refine j_iconst (n := 57) (3) dX11_feed_56 rfl (by decide) ?_
          refine j_icmp_ne (n := 60) 65 dX11_feed_57 (by decide) rfl (fun q3 => ?_) (fun q3 => ?_)
          · exact absurd rfl q3
          · refine j_iload (n := 62) dX11_feed_60 rfl rfl ?_
            refine j_goto 67 dX11_feed_62 (by decide) ?_
            refine j_istore (n := 69) dX11_feed_67 rfl (by decide) ?_
            refine fr_4 (i := 3) hM hn (fun M' R' h1 h2 h3 => ?_)
            refine j_iinc (n := 112) (4 : Int32) dX11_feed_109 rfl rfl (by decide) (by decide) ?_
            refine j_goto 19 dX11_feed_112 (by decide) ?_
            exact hk M' R' h1 h2 h3
        · exact absurd q2 (by decide)
      · exact absurd q1 (by decide)
    · exact absurd q0 (by decide)
theorem fr_i4 {n : Nat} (hM : M 3 = n) (hn : n + 4 ≤ 200)
    (hk : ∀ (M' : Nat → Nat) (R' : Nat → Nat → Int32), RTP M R M' R' → M' 3 = n + 4 → R' 3 = pRF (R 3) n e → JJ G Y_X11_feed 1 0 0 post 19 (fL A a b c d e 5) [] (rW G A M' Z R' P) 0 0) :
    JJ G Y_X11_feed 1 0 0 post 19 (fL A a b c d e 4) [] (rW G A M Z R P) 0 0 := by
  refine j_iload (n := 21) dX11_feed_19 rfl rfl ?_
  refine j_iconst (n := 22) (5) dX11_feed_21 rfl (by decide) ?_
  refine j_icmp_ge (n := 25) 115 dX11_feed_22 (by decide) rfl (fun c0 => ?_) (fun c0 => ?_)
  · exact absurd c0 (by decide)
  · refine j_iload (n := 27) dX11_feed_25 rfl rfl ?_
    refine j_if_ne (n := 30) 34 dX11_feed_27 (by decide) rfl (fun q0 => ?_) (fun q0 => ?_)
    · refine j_iload (n := 36) dX11_feed_34 rfl rfl ?_
      refine j_iconst (n := 37) (1) dX11_feed_36 rfl (by decide) ?_
      refine j_icmp_ne (n := 40) 44 dX11_feed_37 (by decide) rfl (fun q1 => ?_) (fun q1 => ?_)
      · refine j_iload (n := 46) dX11_feed_44 rfl rfl ?_
        refine j_iconst (n := 47) (2) dX11_feed_46 rfl (by decide) ?_
        refine j_icmp_ne (n := 50) 54 dX11_feed_47 (by decide) rfl (fun q2 => ?_) (fun q2 => ?_)
        · refine j_iload (n := 56) dX11_feed_54 rfl rfl ?_
          refine j_iconst (n := 57) (3) dX11_feed_56 rfl (by decide) ?_
          refine j_icmp_ne (n := 60) 65 dX11_feed_57 (by decide) rfl (fun q3 => ?_) (fun q3 => ?_)
          · refine j_iload (n := 67) dX11_feed_65 rfl rfl ?_
            refine j_istore (n := 69) dX11_feed_67 rfl (by decide) ?_
            refine fr_4 (i := 4) hM hn (fun M' R' h1 h2 h3 => ?_)
            refine j_iinc (n := 112) (5 : Int32) dX11_feed_109 rfl rfl (by decide) (by decide) ?_
            refine j_goto 19 dX11_feed_112 (by decide) ?_
            exact hk M' R' h1 h2 h3
          · exact absurd q3 (by decide)
        · exact absurd q2 (by decide)
      · exact absurd q1 (by decide)
    · exact absurd q0 (by decide)
def fRF (f : Nat → Int32) (n : Nat) (a b c d e : Int32) : Nat → Int32 := pRF (pRF (pRF (pRF (pRF f n a) (n + 4) b) (n + 8) c) (n + 12) d) (n + 16) e
theorem TPR.feed {f g : Nat → Int32} {n : Nat} {a b c d e : Int32} (h : TPR f g n) : TPR (fdF f n a b c d e) (fRF g n a b c d e) (n + 20) := h.put4.put4.put4.put4.put4
theorem r_feed (h3 : M 3 ≤ 200) : JM G Y_X11_feed 1 0 0 [.ref (A 0), .int a, .int b, .int c, .int d, .int e] (rW G A M Z R P) (Qi (fun r u => r = (if M 3 ≤ 180 then nI (M 3 + 20) else -3) ∧ ∃ (M' : Nat → Nat) (R' : Nat → Nat → Int32), u = rW G A M' Z R' P ∧ RTP M R M' R' ∧ M' 3 = (if M 3 ≤ 180 then M 3 + 20 else M 3) ∧ R' 3 = (if M 3 ≤ 180 then fRF (R 3) (M 3) a b c d e else R 3))) := by
  refine JM.of [(0, .ref (A 0)), (1, .int a), (2, .int b), (3, .int c), (4, .int d), (5, .int e)] rfl rfl (by simp) (Nat.le_of_ble_eq_true rfl) (by decide +kernel) ?_
  refine j_aload_n (n := 1) dX11_feed_0 rfl rfl ?_
  refine j_get (n := 4) 0 dX11_feed_1 f_X11_110 rfl rfl rfl ?_
  refine j_bipush (n := 6) (20) dX11_feed_4 rfl (by decide) ?_
  refine j_iadd (n := 7) dX11_feed_6 rfl ?_
  refine j_sipush (n := 10) (200) dX11_feed_7 rfl (by decide) ?_
  rw [show nI (M 3) + 20 = nI (M 3 + 20) from nI_add _ 20]
  refine j_icmp_le (n := 13) 16 dX11_feed_10 (by decide) rfl (fun c0 => ?_) (fun c0 => ?_)
  · have h : M 3 ≤ 180 := by
      have := (nI_leI (by omega) (by omega)).mp (show nI (M 3 + 20) ≤ nI 200 from c0)
      omega
    rw [if_pos h, if_pos h, if_pos h]
    refine j_iconst (n := 17) (0) dX11_feed_16 rfl (by decide) ?_
    refine j_istore (n := 19) dX11_feed_17 rfl (by decide) ?_
    refine fr_i0 (n := M 3) rfl (by omega) (fun M1 R1 t1 m1 r1 => ?_)
    refine fr_i1 (n := M 3 + 4) m1 (by omega) (fun M2 R2 t2 m2 r2 => ?_)
    refine fr_i2 (n := M 3 + 8) m2 (by omega) (fun M3 R3 t3 m3 r3 => ?_)
    refine fr_i3 (n := M 3 + 12) m3 (by omega) (fun M4 R4 t4 m4 r4 => ?_)
    refine fr_i4 (n := M 3 + 16) m4 (by omega) (fun M5 R5 t5 m5 r5 => ?_)
    refine j_iload (n := 21) dX11_feed_19 rfl rfl ?_
    refine j_iconst (n := 22) (5) dX11_feed_21 rfl (by decide) ?_
    refine j_icmp_ge (n := 25) 115 dX11_feed_22 (by decide) rfl (fun c1 => ?_) (fun c1 => ?_)
    · refine j_aload_n (n := 116) dX11_feed_115 rfl rfl ?_
      refine j_get (n := 119) 0 dX11_feed_116 f_X11_110 rfl rfl rfl ?_
      refine j_top (nI (M 3 + 20)) (by rw [m5]) ?_
      exact j_iret dX11_feed_119 rfl rfl (by omega) (by omega) (⟨rfl, M5, R5, rfl, (((t1.tr t2).tr t3).tr t4).tr t5, m5, by rw [r5, r4, r3, r2, r1]; rfl⟩)
    · exact absurd (by decide) c1
  · have h : ¬ M 3 ≤ 180 := fun q => c0 (show nI (M 3 + 20) ≤ nI 200 from nI_le (by omega) (by omega))
    rw [if_neg h, if_neg h, if_neg h]
    refine j_bipush (n := 15) (-3) dX11_feed_13 rfl (by decide) ?_
    exact j_iret dX11_feed_15 rfl rfl (by omega) (by omega) (⟨rfl, M, R, rfl, RTP.rf M R, rfl, rfl⟩)
end RO

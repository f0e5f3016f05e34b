/-! PairList's add and tell; Text but for findPieces -/
theorem bi_and (a b : Nat) : nI a &&& nI b = nI (a &&& b) := by
  apply Int32.toBitVec_inj.1
  show BitVec.ofNat 32 a &&& BitVec.ofNat 32 b = BitVec.ofNat 32 (a &&& b)
  apply BitVec.eq_of_getLsbD_eq
  intro i hi
  simp [hi]
theorem bi_or (a b : Nat) : nI a ||| nI b = nI (a ||| b) := by
  apply Int32.toBitVec_inj.1
  show BitVec.ofNat 32 a ||| BitVec.ofNat 32 b = BitVec.ofNat 32 (a ||| b)
  apply BitVec.eq_of_getLsbD_eq
  intro i hi
  simp [hi]
theorem bi_or_sum {a k : Nat} (b : Nat) (h : a < 2 ^ k) : nI (2 ^ k * b) ||| nI a = nI (2 ^ k * b + a) := by rw [bi_or, Nat.two_pow_add_eq_or_of_lt h]
theorem pkd (e f c : Nat) (he : e < 256) (hf : f < 256) (hc : c < 256) : ((nI e <<< ((16 : Int32) &&& 31)) ||| (nI f <<< ((8 : Int32) &&& 31))) ||| nI c = nI (65536 * e + 256 * f + c) := by
  rw [pk_shlN (16 &&& 31) 16 (by decide) (by omega), pk_shlN (8 &&& 31) 8 (by decide) (by omega)]
  have e1 : nI (e * 2 ^ 16) ||| nI (f * 2 ^ 8) = nI (2 ^ 16 * e + f * 2 ^ 8) := by
    rw [Nat.mul_comm e]; exact bi_or_sum e (by omega)
  rw [e1, show 2 ^ 16 * e + f * 2 ^ 8 = 2 ^ 8 * (256 * e + f) by omega, bi_or_sum _ (by omega)]
  congr 1
  omega
theorem pkd_e {e f c : Nat} (he : e < 256) (hf : f < 256) (hc : c < 256) : nI (65536 * e + 256 * f + c) >>> ((16 : Int32) &&& 31) = nI e := by
  rw [pk_shrN (by omega) (16 &&& 31) 16 (by decide)]; congr 1; omega
theorem pkd_f {e f c : Nat} (he : e < 256) (hf : f < 256) (hc : c < 256) : (nI (65536 * e + 256 * f + c) >>> ((8 : Int32) &&& 31)) &&& 255 = nI f := by
  rw [pk_shrN (by omega) (8 &&& 31) 8 (by decide), pk_andN (by omega) 8 (by decide)]; congr 1; omega
theorem pkd_c {e f c : Nat} (he : e < 256) (hf : f < 256) (hc : c < 256) : nI (65536 * e + 256 * f + c) &&& 255 = nI c := by
  rw [pk_andN (by omega) 8 (by decide)]; congr 1; omega
def revF (f : Nat → Int32) (lo hi : Nat) : Nat → Int32 := fun k => if lo ≤ k ∧ k < hi then f (lo + hi - 1 - k) else f k
def swF (f : Nat → Int32) (lo hi i : Nat) : Nat → Int32 := fun k => if (lo ≤ k ∧ k < lo + i) ∨ (hi - i ≤ k ∧ k < hi) then f (lo + hi - 1 - k) else f k
theorem swF_0 (f : Nat → Int32) (lo hi : Nat) : swF f lo hi 0 = f := by
  funext k; unfold swF; rw [if_neg (by omega)]
theorem swF_end (f : Nat → Int32) {lo hi i : Nat} (h1 : lo + 2 * i ≤ hi + 1) (h2 : hi ≤ lo + 2 * i + 1) (h3 : lo ≤ hi) : swF f lo hi i = revF f lo hi := by
  funext k; unfold swF revF
  by_cases hk : (lo ≤ k ∧ k < lo + i) ∨ (hi - i ≤ k ∧ k < hi)
  · rw [if_pos hk]
    by_cases hb : lo ≤ k ∧ k < hi
    · rw [if_pos hb]
    · rw [if_neg hb]; congr 1; omega
  · rw [if_neg hk]
    by_cases hb : lo ≤ k ∧ k < hi
    · rw [if_pos hb]; congr 1; omega
    · rw [if_neg hb]
theorem swF_s (f : Nat → Int32) {lo hi i h : Nat} (h1 : h + i + 1 = hi) (h2 : lo + i < h) : upd (upd (swF f lo hi i) (lo + i) (swF f lo hi i h)) h (swF f lo hi i (lo + i)) = swF f lo hi (i + 1) := by
  have a1 : swF f lo hi i h = f h := by unfold swF; rw [if_neg (by omega)]
  have a2 : swF f lo hi i (lo + i) = f (lo + i) := by unfold swF; rw [if_neg (by omega)]
  rw [a1, a2]
  funext k; unfold upd
  by_cases k1 : k = h
  · rw [if_pos k1]; unfold swF; rw [if_pos (by omega)]; congr 1; omega
  · rw [if_neg k1]
    by_cases k2 : k = lo + i
    · rw [if_pos k2]; unfold swF; rw [if_pos (by omega)]; congr 1; omega
    · rw [if_neg k2]; unfold swF
      by_cases hk : (lo ≤ k ∧ k < lo + i) ∨ (hi - i ≤ k ∧ k < hi)
      · rw [if_pos hk, if_pos (by omega)]
      · rw [if_neg hk, if_neg (by omega)]
def atF (n : Nat) (f : Nat → Int32) (i : Int32) : Int32 := if i < 0 ∨ nI n ≤ i then -1 else f i.toNatClampNeg
theorem atF_in {n : Nat} {f : Nat → Int32} {j : Nat} (h : j < n) (hn : n < 2147483648) : atF n f (nI j) = f j := by
  unfold atF
  rw [if_neg (fun q => q.elim (nI_pos (by omega)) (nI_ge h hn)), nI_clamp (by omega)]
theorem atF_out {n : Nat} {f : Nat → Int32} {j : Nat} (h : n ≤ j) (hj : j < 2147483648) : atF n f (nI j) = -1 := by
  unfold atF
  rw [if_pos (Or.inr (nI_le h hj))]
section TE
variable {G : GT} {ws : va_W} {pre : va_W}
theorem c_pairAdd {a0 a1 n e f c : Nat} {p : Nat → Int32} (k0 : Nat) (h0 : ws[k0]? = some (a0, .inr (3, [.ref a1, .int (nI n)]))) (k1 : Nat) (h1 : ws[k1]? = some (a1, .inl (gI G, 1000, .inl p))) (n01 : k0 ≠ k1) (hn : n < 1000000) (he : e < 256) (hf : f < 256) (hc : c < 256) : JV G Y_X3_add 0 0 0 [.ref a0, .int (nI e), .int (nI f), .int (nI c)] ws ((if n < 1000 then ws.set k1 (a1, .inl (gI G, 1000, .inl (upd p n (nI (65536 * e + 256 * f + c))))) else ws).set k0 (a0, .inr (3, [.ref a1, .int (nI (n + 1))]))) := by
  refine JM.of [(0, .ref a0), (1, .int (nI e)), (2, .int (nI f)), (3, .int (nI c))] rfl rfl (by simp) (Nat.le_of_ble_eq_true rfl) (by decide +kernel) ?_
  refine j_aload_n (n := 1) dX3_add_0 rfl rfl ?_
  refine j_get (n := 4) _ dX3_add_1 f_X3_15 rfl h0 rfl ?_
  refine j_sipush (n := 7) (1000) dX3_add_4 rfl (by decide) ?_
  refine j_icmp_ge (n := 10) 30 dX3_add_7 (by decide) rfl (fun c1 => ?_) (fun c1 => ?_)
  · have hx : ¬ n < 1000 := fun q => (nI_ge (b := 1000) q (by omega)) c1
    rw [if_neg hx]
    refine j_aload_n (n := 31) dX3_add_30 rfl rfl ?_
    refine j_dup (n := 32) dX3_add_31 rfl rfl ?_
    refine j_get (n := 35) _ dX3_add_32 f_X3_15 rfl h0 rfl ?_
    refine j_iconst (n := 36) (1) dX3_add_35 rfl (by decide) ?_
    refine j_iadd (n := 37) dX3_add_36 rfl ?_
    refine j_top (nI (n + 1)) (nI_1 n) ?_
    refine j_put (n := 40) _ dX3_add_37 f_X3_15 rfl rfl h0 (Nat.le_of_ble_eq_true rfl) rfl rfl ?_
    exact j_vret dX3_add_40 rfl (by omega) (by omega) (rfl)
  · have hx : n < 1000 := Nat.lt_of_not_le (fun q => c1 (nI_le (a := 1000) q (by omega)))
    rw [if_pos hx]
    refine j_aload_n (n := 11) dX3_add_10 rfl rfl ?_
    refine j_get (n := 14) _ dX3_add_11 f_X3_9 rfl h0 rfl ?_
    refine j_aload_n (n := 15) dX3_add_14 rfl rfl ?_
    refine j_get (n := 18) _ dX3_add_15 f_X3_15 rfl h0 rfl ?_
    refine j_iload_n (n := 19) dX3_add_18 rfl rfl ?_
    refine j_bipush (n := 21) (16) dX3_add_19 rfl (by decide) ?_
    refine j_ishl (n := 22) dX3_add_21 rfl ?_
    refine j_iload_n (n := 23) dX3_add_22 rfl rfl ?_
    refine j_bipush (n := 25) (8) dX3_add_23 rfl (by decide) ?_
    refine j_ishl (n := 26) dX3_add_25 rfl ?_
    refine j_ior (n := 27) dX3_add_26 rfl ?_
    refine j_iload_n (n := 28) dX3_add_27 rfl rfl ?_
    refine j_ior (n := 29) dX3_add_28 rfl ?_
    refine j_top (nI (65536 * e + 256 * f + c)) (pkd e f c he hf hc) ?_
    refine j_iast (n := 30) _ n dX3_add_29 rfl h1 rfl (by omega) (by omega) ?_
    refine j_aload_n (n := 31) dX3_add_30 rfl rfl ?_
    refine j_dup (n := 32) dX3_add_31 rfl rfl ?_
    refine j_get (n := 35) _ dX3_add_32 f_X3_15 rfl (gs_ne (by omega) h0) rfl ?_
    refine j_iconst (n := 36) (1) dX3_add_35 rfl (by decide) ?_
    refine j_iadd (n := 37) dX3_add_36 rfl ?_
    refine j_top (nI (n + 1)) (nI_1 n) ?_
    refine j_put (n := 40) _ dX3_add_37 f_X3_15 rfl rfl (gs_ne (by omega) h0) (Nat.le_of_ble_eq_true rfl) rfl rfl ?_
    exact j_vret dX3_add_40 rfl (by omega) (by omega) (rfl)
theorem c_pairTell {a0 a1 n : Nat} {p : Nat → Int32} {E F C : Nat → Nat} {i w : Int32} (k0 : Nat) (h0 : ws[k0]? = some (a0, .inr (3, [.ref a1, .int (nI n)]))) (k1 : Nat) (h1 : ws[k1]? = some (a1, .inl (gI G, 1000, .inl p))) (hn : n < 1000000) (hp : ∀ j, j < n → j < 1000 → p j = nI (65536 * E j + 256 * F j + C j) ∧ E j < 256 ∧ F j < 256 ∧ C j < 256) : JE G Y_X3_tell 0 0 0 [.ref a0, .int i, .int w] ws (tl3 (min n 1000) (fun j => nI (E j)) (fun j => nI (F j)) (fun j => nI (C j)) i w) ws := by
  refine JM.of [(0, .ref a0), (1, .int i), (2, .int w)] rfl rfl (by simp) (Nat.le_of_ble_eq_true rfl) (by decide +kernel) ?_
  refine j_iload_n (n := 1) dX3_tell_0 rfl rfl ?_
  refine j_if_lt (n := 4) 19 dX3_tell_1 (by decide) rfl (fun c => ?_) (fun c => ?_)
  · refine j_iconst (n := 20) (-1) dX3_tell_19 rfl (by decide) ?_
    exact j_iret dX3_tell_20 rfl rfl (by omega) (by omega) (⟨by simp [tl3, c], rfl⟩)
  · refine j_iload_n (n := 5) dX3_tell_4 rfl rfl ?_
    refine j_aload_n (n := 6) dX3_tell_5 rfl rfl ?_
    refine j_get (n := 9) _ dX3_tell_6 f_X3_15 rfl h0 rfl ?_
    refine j_icmp_ge (n := 12) 19 dX3_tell_9 (by decide) rfl (fun c2 => ?_) (fun c2 => ?_)
    · have hm : nI (min n 1000) ≤ i := Int32.le_trans (nI_le (by omega) (by omega)) c2
      refine j_iconst (n := 20) (-1) dX3_tell_19 rfl (by decide) ?_
      exact j_iret dX3_tell_20 rfl rfl (by omega) (by omega) (⟨by simp [tl3, hm], rfl⟩)
    · refine j_iload_n (n := 13) dX3_tell_12 rfl rfl ?_
      refine j_sipush (n := 16) (1000) dX3_tell_13 rfl (by decide) ?_
      refine j_icmp_lt (n := 19) 21 dX3_tell_16 (by decide) rfl (fun c3 => ?_) (fun c3 => ?_)
      · rcases ix3 i (show min n 1000 < 2147483648 by omega) with h | h | ⟨j, hj, rfl⟩
        · exact absurd h c
        · rcases (show min n 1000 = n ∨ min n 1000 = 1000 by omega) with e | e
          · rw [e] at h; exact absurd h c2
          · rw [e] at h; exact absurd c3 (Int32.not_lt.mpr h)
        · have hc : (nI j).toNatClampNeg = j := nI_clamp (by omega)
          have hx : ¬ (nI j < 0 ∨ nI (min n 1000) ≤ nI j) := fun q => q.elim c (nI_ge hj (by omega))
          obtain ⟨q1, q2, q3, q4⟩ := hp j (by omega) (by omega)
          refine j_iload_n (n := 22) dX3_tell_21 rfl rfl ?_
          by_cases e0 : w = 0
          · subst e0
            refine j_tableIn 48 dX3_tell_22 (by decide) (by decide) (off := 26) (by decide) (by decide) ?_
            refine j_aload_n (n := 49) dX3_tell_48 rfl rfl ?_
            refine j_get (n := 52) _ dX3_tell_49 f_X3_9 rfl h0 rfl ?_
            refine j_iload_n (n := 53) dX3_tell_52 rfl rfl ?_
            refine j_iald (n := 54) _ j dX3_tell_53 rfl h1 rfl (by omega) (by omega) ?_
            refine j_bipush (n := 56) (16) dX3_tell_54 rfl (by decide) ?_
            refine j_ishr (n := 57) dX3_tell_56 rfl ?_
            exact j_iret dX3_tell_57 rfl rfl (by omega) (by omega) (⟨by rw [q1, pkd_e q2 q3 q4]; simp [tl3, hx, hc], rfl⟩)
          · by_cases e1 : w = 1
            · subst e1
              refine j_tableIn 58 dX3_tell_22 (by decide) (by decide) (off := 36) (by decide) (by decide) ?_
              refine j_aload_n (n := 59) dX3_tell_58 rfl rfl ?_
              refine j_get (n := 62) _ dX3_tell_59 f_X3_9 rfl h0 rfl ?_
              refine j_iload_n (n := 63) dX3_tell_62 rfl rfl ?_
              refine j_iald (n := 64) _ j dX3_tell_63 rfl h1 rfl (by omega) (by omega) ?_
              refine j_bipush (n := 66) (8) dX3_tell_64 rfl (by decide) ?_
              refine j_ishr (n := 67) dX3_tell_66 rfl ?_
              refine j_sipush (n := 70) (255) dX3_tell_67 rfl (by decide) ?_
              refine j_iand (n := 71) dX3_tell_70 rfl ?_
              exact j_iret dX3_tell_71 rfl rfl (by omega) (by omega) (⟨by rw [q1, pkd_f q2 q3 q4]; simp [tl3, hx, hc], rfl⟩)
            · by_cases e2 : w = 2
              · subst e2
                refine j_tableIn 72 dX3_tell_22 (by decide) (by decide) (off := 50) (by decide) (by decide) ?_
                refine j_aload_n (n := 73) dX3_tell_72 rfl rfl ?_
                refine j_get (n := 76) _ dX3_tell_73 f_X3_9 rfl h0 rfl ?_
                refine j_iload_n (n := 77) dX3_tell_76 rfl rfl ?_
                refine j_iald (n := 78) _ j dX3_tell_77 rfl h1 rfl (by omega) (by omega) ?_
                refine j_sipush (n := 81) (255) dX3_tell_78 rfl (by decide) ?_
                refine j_iand (n := 82) dX3_tell_81 rfl ?_
                exact j_iret dX3_tell_82 rfl rfl (by omega) (by omega) (⟨by rw [q1, pkd_c q2 q3 q4]; simp [tl3, hx, hc], rfl⟩)
              · refine j_tableOut 83 dX3_tell_22 (sw3 e0 e1 e2) (by decide) ?_
                refine j_iconst (n := 84) (-1) dX3_tell_83 rfl (by decide) ?_
                exact j_iret dX3_tell_84 rfl rfl (by omega) (by omega) (⟨by simp [tl3, e0, e1, e2], rfl⟩)
      · have hm : nI (min n 1000) ≤ i := Int32.le_trans (nI_le (a := min n 1000) (b := 1000) (by omega) (by omega)) (Int32.not_lt.mp c3)
        refine j_iconst (n := 20) (-1) dX3_tell_19 rfl (by decide) ?_
        exact j_iret dX3_tell_20 rfl rfl (by omega) (by omega) (⟨by simp [tl3, hm], rfl⟩)
theorem c_seenAt {a0 a1 a2 a3 a4 len cnt : Nat} {s : Nat → Int32} {st pst i : Int32} (k0 : Nat) (h0 : ws[k0]? = some (a0, .inr (8, [.ref a1, .int (nI len), .ref a2, .int (nI cnt), .int st, .ref a3, .ref a4, .int pst]))) (k2 : Nat) (h2 : ws[k2]? = some (a2, .inl (gI G, len, .inl s))) (hc : cnt ≤ len) (hl : len ≤ 40) : JE G Y_X8_seenAt 0 0 0 [.ref a0, .int i] ws (atF cnt s i) ws := by
  refine JM.of [(0, .ref a0), (1, .int i)] rfl rfl (by simp) (Nat.le_of_ble_eq_true rfl) (by decide +kernel) ?_
  refine j_iload_n (n := 1) dX8_seenAt_0 rfl rfl ?_
  refine j_if_lt (n := 4) 21 dX8_seenAt_1 (by decide) rfl (fun c => ?_) (fun c => ?_)
  · refine j_iconst (n := 22) (-1) dX8_seenAt_21 rfl (by decide) ?_
    exact j_iret dX8_seenAt_22 rfl rfl (by omega) (by omega) (⟨by simp [atF, c], rfl⟩)
  · refine j_iload_n (n := 5) dX8_seenAt_4 rfl rfl ?_
    refine j_aload_n (n := 6) dX8_seenAt_5 rfl rfl ?_
    refine j_get (n := 9) _ dX8_seenAt_6 f_X8_43 rfl h0 rfl ?_
    refine j_icmp_ge (n := 12) 21 dX8_seenAt_9 (by decide) rfl (fun c2 => ?_) (fun c2 => ?_)
    · refine j_iconst (n := 22) (-1) dX8_seenAt_21 rfl (by decide) ?_
      exact j_iret dX8_seenAt_22 rfl rfl (by omega) (by omega) (⟨by simp [atF, c2], rfl⟩)
    · rcases ix3 i (show cnt < 2147483648 by omega) with h | h | ⟨j, hj, rfl⟩
      · exact absurd h c
      · exact absurd h c2
      · refine j_aload_n (n := 13) dX8_seenAt_12 rfl rfl ?_
        refine j_get (n := 16) _ dX8_seenAt_13 f_X8_34 rfl h0 rfl ?_
        refine j_iload_n (n := 17) dX8_seenAt_16 rfl rfl ?_
        refine j_iald (n := 18) _ j dX8_seenAt_17 rfl h2 rfl (by omega) (by omega) ?_
        refine j_goto 22 dX8_seenAt_18 (by decide) ?_
        exact j_iret dX8_seenAt_22 rfl rfl (by omega) (by omega) (⟨(atF_in hj (by omega)).symm, rfl⟩)
theorem c_toldAt {a0 a1 a2 a3 a4 len cnt : Nat} {t : Nat → Int32} {st pst i : Int32} (k0 : Nat) (h0 : ws[k0]? = some (a0, .inr (8, [.ref a1, .int (nI len), .ref a2, .int (nI cnt), .int st, .ref a3, .ref a4, .int pst]))) (k1 : Nat) (h1 : ws[k1]? = some (a1, .inl (gI G, len, .inl t))) (hl : len ≤ 40) : JE G Y_X8_toldAt 0 0 0 [.ref a0, .int i] ws (atF len t i) ws := by
  refine JM.of [(0, .ref a0), (1, .int i)] rfl rfl (by simp) (Nat.le_of_ble_eq_true rfl) (by decide +kernel) ?_
  refine j_iload_n (n := 1) dX8_toldAt_0 rfl rfl ?_
  refine j_if_lt (n := 4) 21 dX8_toldAt_1 (by decide) rfl (fun c => ?_) (fun c => ?_)
  · refine j_iconst (n := 22) (-1) dX8_toldAt_21 rfl (by decide) ?_
    exact j_iret dX8_toldAt_22 rfl rfl (by omega) (by omega) (⟨by simp [atF, c], rfl⟩)
  · refine j_iload_n (n := 5) dX8_toldAt_4 rfl rfl ?_
    refine j_aload_n (n := 6) dX8_toldAt_5 rfl rfl ?_
    refine j_get (n := 9) _ dX8_toldAt_6 f_X8_18 rfl h0 rfl ?_
    refine j_icmp_ge (n := 12) 21 dX8_toldAt_9 (by decide) rfl (fun c2 => ?_) (fun c2 => ?_)
    · refine j_iconst (n := 22) (-1) dX8_toldAt_21 rfl (by decide) ?_
      exact j_iret dX8_toldAt_22 rfl rfl (by omega) (by omega) (⟨by simp [atF, c2], rfl⟩)
    · rcases ix3 i (show len < 2147483648 by omega) with h | h | ⟨j, hj, rfl⟩
      · exact absurd h c
      · exact absurd h c2
      · refine j_aload_n (n := 13) dX8_toldAt_12 rfl rfl ?_
        refine j_get (n := 16) _ dX8_toldAt_13 f_X8_30 rfl h0 rfl ?_
        refine j_iload_n (n := 17) dX8_toldAt_16 rfl rfl ?_
        refine j_iald (n := 18) _ j dX8_toldAt_17 rfl h1 rfl (by omega) (by omega) ?_
        refine j_goto 22 dX8_toldAt_18 (by decide) ?_
        exact j_iret dX8_toldAt_22 rfl rfl (by omega) (by omega) (⟨(atF_in hj (by omega)).symm, rfl⟩)
def pceF (n : Nat) (f : Nat → Int32) (i c : Int32) : Int32 := if c = 1 then atF n f i else 256 * atF n f i + atF n f (i + 1)
theorem c_pieceAt {a0 a1 a2 a3 a4 len cnt : Nat} {s : Nat → Int32} {st pst i c : Int32} (k0 : Nat) (h0 : ws[k0]? = some (a0, .inr (8, [.ref a1, .int (nI len), .ref a2, .int (nI cnt), .int st, .ref a3, .ref a4, .int pst]))) (k2 : Nat) (h2 : ws[k2]? = some (a2, .inl (gI G, len, .inl s))) (hc : cnt ≤ len) (hl : len ≤ 40) : JE G Y_X8_pieceAt 1 0 0 [.ref a0, .int i, .int c] ws (pceF cnt s i c) ws := by
  refine JM.of [(0, .ref a0), (1, .int i), (2, .int c)] rfl rfl (by simp) (Nat.le_of_ble_eq_true rfl) (by decide +kernel) ?_
  refine j_iload_n (n := 1) dX8_pieceAt_0 rfl rfl ?_
  refine j_iconst (n := 2) (1) dX8_pieceAt_1 rfl (by decide) ?_
  refine j_icmp_ne (n := 5) 13 dX8_pieceAt_2 (by decide) rfl (fun c1 => ?_) (fun c1 => ?_)
  · refine j_sipush (n := 16) (256) dX8_pieceAt_13 rfl (by decide) ?_
    refine j_aload_n (n := 17) dX8_pieceAt_16 rfl rfl ?_
    refine j_iload_n (n := 18) dX8_pieceAt_17 rfl rfl ?_
    refine j_callVe (n := 21) (Y1 := Y_X8_seenAt) _ dX8_pieceAt_18 m_X8_74 cy_X8_seenAt ci_X8_seenAt (c_seenAt _ h0 _ h2 (by omega) (by omega)) rfl rfl rfl h0 rfl (by omega) (by omega) (by omega) (Nat.le_of_ble_eq_true rfl) ?_
    refine j_imul (n := 22) dX8_pieceAt_21 rfl ?_
    refine j_aload_n (n := 23) dX8_pieceAt_22 rfl rfl ?_
    refine j_iload_n (n := 24) dX8_pieceAt_23 rfl rfl ?_
    refine j_iconst (n := 25) (1) dX8_pieceAt_24 rfl (by decide) ?_
    refine j_iadd (n := 26) dX8_pieceAt_25 rfl ?_
    refine j_callVe (n := 29) (Y1 := Y_X8_seenAt) _ dX8_pieceAt_26 m_X8_74 cy_X8_seenAt ci_X8_seenAt (c_seenAt _ h0 _ h2 (by omega) (by omega)) rfl rfl rfl h0 rfl (by omega) (by omega) (by omega) (Nat.le_of_ble_eq_true rfl) ?_
    refine j_iadd (n := 30) dX8_pieceAt_29 rfl ?_
    exact j_iret dX8_pieceAt_30 rfl rfl (by omega) (by omega) (⟨by simp [pceF, c1], rfl⟩)
  · refine j_aload_n (n := 6) dX8_pieceAt_5 rfl rfl ?_
    refine j_iload_n (n := 7) dX8_pieceAt_6 rfl rfl ?_
    refine j_callVe (n := 10) (Y1 := Y_X8_seenAt) _ dX8_pieceAt_7 m_X8_74 cy_X8_seenAt ci_X8_seenAt (c_seenAt _ h0 _ h2 (by omega) (by omega)) rfl rfl rfl h0 rfl (by omega) (by omega) (by omega) (Nat.le_of_ble_eq_true rfl) ?_
    refine j_goto 30 dX8_pieceAt_10 (by decide) ?_
    exact j_iret dX8_pieceAt_30 rfl rfl (by omega) (by omega) (⟨by simp [pceF, c1], rfl⟩)
def pixF (n : Nat) (u p : Nat → Int32) (i c : Int32) : Int32 := if i < 0 ∨ nI n ≤ i then -1 else if c = 1 then u i.toNatClampNeg else p i.toNatClampNeg
theorem c_pieceIndexAt {a0 a1 a2 a3 a4 len cnt : Nat} {u p : Nat → Int32} {st pst i c : Int32} (k0 : Nat) (h0 : ws[k0]? = some (a0, .inr (8, [.ref a1, .int (nI len), .ref a2, .int (nI cnt), .int st, .ref a3, .ref a4, .int pst]))) (k3 : Nat) (h3 : ws[k3]? = some (a3, .inl (gI G, len, .inl u))) (k4 : Nat) (h4 : ws[k4]? = some (a4, .inl (gI G, len, .inl p))) (hc : cnt ≤ len) (hl : len ≤ 40) : JE G Y_X8_pieceIndexAt 0 0 0 [.ref a0, .int i, .int c] ws (pixF cnt u p i c) ws := by
  refine JM.of [(0, .ref a0), (1, .int i), (2, .int c)] rfl rfl (by simp) (Nat.le_of_ble_eq_true rfl) (by decide +kernel) ?_
  refine j_iload_n (n := 1) dX8_pieceIndexAt_0 rfl rfl ?_
  refine j_if_lt (n := 4) 12 dX8_pieceIndexAt_1 (by decide) rfl (fun c1 => ?_) (fun c1 => ?_)
  · refine j_iconst (n := 13) (-1) dX8_pieceIndexAt_12 rfl (by decide) ?_
    exact j_iret dX8_pieceIndexAt_13 rfl rfl (by omega) (by omega) (⟨by simp [pixF, c1], rfl⟩)
  · refine j_iload_n (n := 5) dX8_pieceIndexAt_4 rfl rfl ?_
    refine j_aload_n (n := 6) dX8_pieceIndexAt_5 rfl rfl ?_
    refine j_get (n := 9) _ dX8_pieceIndexAt_6 f_X8_43 rfl h0 rfl ?_
    refine j_icmp_lt (n := 12) 14 dX8_pieceIndexAt_9 (by decide) rfl (fun c2 => ?_) (fun c2 => ?_)
    · rcases ix3 i (show cnt < 2147483648 by omega) with h | h | ⟨j, hj, rfl⟩
      · exact absurd h c1
      · exact absurd c2 (Int32.not_lt.mpr h)
      · have hcl : (nI j).toNatClampNeg = j := nI_clamp (by omega)
        have hx : ¬ (nI j < 0 ∨ nI cnt ≤ nI j) := fun q => q.elim c1 (nI_ge hj (by omega))
        refine j_iload_n (n := 15) dX8_pieceIndexAt_14 rfl rfl ?_
        refine j_iconst (n := 16) (1) dX8_pieceIndexAt_15 rfl (by decide) ?_
        refine j_icmp_ne (n := 19) 28 dX8_pieceIndexAt_16 (by decide) rfl (fun c3 => ?_) (fun c3 => ?_)
        · refine j_aload_n (n := 29) dX8_pieceIndexAt_28 rfl rfl ?_
          refine j_get (n := 32) _ dX8_pieceIndexAt_29 f_X8_40 rfl h0 rfl ?_
          refine j_iload_n (n := 33) dX8_pieceIndexAt_32 rfl rfl ?_
          refine j_iald (n := 34) _ j dX8_pieceIndexAt_33 rfl h4 rfl (by omega) (by omega) ?_
          exact j_iret dX8_pieceIndexAt_34 rfl rfl (by omega) (by omega) (⟨by simp [pixF, hx, hcl, c3], rfl⟩)
        · refine j_aload_n (n := 20) dX8_pieceIndexAt_19 rfl rfl ?_
          refine j_get (n := 23) _ dX8_pieceIndexAt_20 f_X8_37 rfl h0 rfl ?_
          refine j_iload_n (n := 24) dX8_pieceIndexAt_23 rfl rfl ?_
          refine j_iald (n := 25) _ j dX8_pieceIndexAt_24 rfl h3 rfl (by omega) (by omega) ?_
          refine j_goto 34 dX8_pieceIndexAt_25 (by decide) ?_
          exact j_iret dX8_pieceIndexAt_34 rfl rfl (by omega) (by omega) (⟨by simp [pixF, hx, hcl, c3], rfl⟩)
    · refine j_iconst (n := 13) (-1) dX8_pieceIndexAt_12 rfl (by decide) ?_
      exact j_iret dX8_pieceIndexAt_13 rfl rfl (by omega) (by omega) (⟨by simp [pixF, Int32.not_lt.mp c2], rfl⟩)
theorem turn_loop {a0 a1 a2 a3 a4 len cnt fr : Nat} {s : Nat → Int32} {st pst : Int32} {k0 k2 : Nat} (h0 : ws[k0]? = some (a0, .inr (8, [.ref a1, .int (nI len), .ref a2, .int (nI cnt), .int st, .ref a3, .ref a4, .int pst]))) (h2 : ws[k2]? = some (a2, .inl (gI G, len, .inl s))) (hne : k0 ≠ k2) (hfr : fr ≤ cnt) (hc : cnt ≤ len) (hl : len ≤ 40) : ∀ (n i h : Nat), h + i + 1 = cnt → cnt ≤ 2 * i + fr + 1 + n → fr + 2 * i ≤ cnt + 1 → JJ G Y_X8_turnFrom 1 0 0 (Qv (fun w => w = ws.set k2 (a2, .inl (gI G, len, .inl (revF s fr cnt))))) 13 [(0, .ref a0), (2, .int (nI h)), (3, .int (nI (fr + i)))] [] (ws.set k2 (a2, .inl (gI G, len, .inl (swF s fr cnt i)))) 0 0 := by
  intro n
  induction n with
  | zero =>
    intro i h e1 e2 e3
    refine j_iload_n (n := 14) dX8_turnFrom_13 rfl rfl ?_
    refine j_iload_n (n := 15) dX8_turnFrom_14 rfl rfl ?_
    refine j_icmp_ge (n := 18) 55 dX8_turnFrom_15 (by decide) rfl (fun c => ?_) (fun c => ?_)
    · exact j_vret dX8_turnFrom_55 rfl (by omega) (by omega) (by rw [swF_end s e3 (by omega) hfr])
    · exact absurd (nI_le (show h ≤ fr + i by omega) (by omega)) c
  | succ n ih =>
    intro i h e1 e2 e3
    have h0' : (ws.set k2 (a2, .inl (gI G, len, .inl (swF s fr cnt i))))[k0]? = some (a0, .inr (8, [.ref a1, .int (nI len), .ref a2, .int (nI cnt), .int st, .ref a3, .ref a4, .int pst])) := gs_ne (by omega) h0
    have h2' : (ws.set k2 (a2, .inl (gI G, len, .inl (swF s fr cnt i))))[k2]? = some (a2, .inl (gI G, len, .inl (swF s fr cnt i))) := gs_eq h2
    refine j_iload_n (n := 14) dX8_turnFrom_13 rfl rfl ?_
    refine j_iload_n (n := 15) dX8_turnFrom_14 rfl rfl ?_
    refine j_icmp_ge (n := 18) 55 dX8_turnFrom_15 (by decide) rfl (fun c => ?_) (fun c => ?_)
    · have hx : h ≤ fr + i := Nat.le_of_not_lt (fun q => (nI_ge q (by omega)) c)
      exact j_vret dX8_turnFrom_55 rfl (by omega) (by omega) (by rw [swF_end s e3 (by omega) hfr])
    · have hx : fr + i < h := Nat.lt_of_not_le (fun q => c (nI_le q (by omega)))
      obtain ⟨h', rfl⟩ : ∃ h', h = h' + 1 := ⟨h - 1, by omega⟩
      refine j_aload_n (n := 19) dX8_turnFrom_18 rfl rfl ?_
      refine j_get (n := 22) _ dX8_turnFrom_19 f_X8_34 rfl h0' rfl ?_
      refine j_iload_n (n := 23) dX8_turnFrom_22 rfl rfl ?_
      refine j_iald (n := 24) _ (fr + i) dX8_turnFrom_23 rfl h2' rfl (by omega) (by omega) ?_
      refine j_istore (n := 26) dX8_turnFrom_24 rfl (by decide) ?_
      refine j_aload_n (n := 27) dX8_turnFrom_26 rfl rfl ?_
      refine j_get (n := 30) _ dX8_turnFrom_27 f_X8_34 rfl h0' rfl ?_
      refine j_iload_n (n := 31) dX8_turnFrom_30 rfl rfl ?_
      refine j_aload_n (n := 32) dX8_turnFrom_31 rfl rfl ?_
      refine j_get (n := 35) _ dX8_turnFrom_32 f_X8_34 rfl h0' rfl ?_
      refine j_iload_n (n := 36) dX8_turnFrom_35 rfl rfl ?_
      refine j_iald (n := 37) _ (h' + 1) dX8_turnFrom_36 rfl h2' rfl (by omega) (by omega) ?_
      refine j_iast (n := 38) _ (fr + i) dX8_turnFrom_37 rfl h2' rfl (by omega) (by omega) ?_
      refine j_aload_n (n := 39) dX8_turnFrom_38 rfl rfl ?_
      refine j_get (n := 42) _ dX8_turnFrom_39 f_X8_34 rfl (gs_ne (by omega) h0') rfl ?_
      refine j_iload_n (n := 43) dX8_turnFrom_42 rfl rfl ?_
      refine j_iload (n := 45) dX8_turnFrom_43 rfl rfl ?_
      refine j_iast (n := 46) _ (h' + 1) dX8_turnFrom_45 rfl (gs_eq h2') rfl (by omega) (by omega) ?_
      refine j_iinc (n := 49) (nI h') dX8_turnFrom_46 rfl rfl (nI_dec h') (by decide) ?_
      refine j_iinc (n := 52) (nI ((fr + i) + 1)) dX8_turnFrom_49 rfl rfl (nI_inc (fr + i)) (by decide) ?_
      refine j_goto 13 dX8_turnFrom_52 (by decide) ?_
      refine j_keep [0, 2, 3] rfl ?_
      refine j_ws (by rw [List.set_set, List.set_set, swF_s s e1 hx]) ?_
      exact ih (i + 1) h' (by omega) (by omega) (by omega)
theorem c_turnFrom {a0 a1 a2 a3 a4 len cnt fr : Nat} {s : Nat → Int32} {st pst : Int32} (k0 : Nat) (h0 : ws[k0]? = some (a0, .inr (8, [.ref a1, .int (nI len), .ref a2, .int (nI cnt), .int st, .ref a3, .ref a4, .int pst]))) (k2 : Nat) (h2 : ws[k2]? = some (a2, .inl (gI G, len, .inl s))) (hne : k0 ≠ k2) (hfr : fr ≤ cnt) (hc : cnt ≤ len) (hl : len ≤ 40) : JV G Y_X8_turnFrom 1 0 0 [.ref a0, .int (nI fr)] ws (ws.set k2 (a2, .inl (gI G, len, .inl (revF s fr cnt)))) := by
  refine JM.of [(0, .ref a0), (1, .int (nI fr))] rfl rfl (by simp) (Nat.le_of_ble_eq_true rfl) (by decide +kernel) ?_
  have hmx : (if (0 : Int32) < nI fr then nI fr else 0) = nI fr := by
    by_cases h : fr = 0
    · subst h; rfl
    · rw [if_pos]; exact nI_lt (a := 0) (by omega) (by omega)
  by_cases hz : cnt = 0
  · subst hz
    obtain rfl : fr = 0 := by omega
    refine j_aload_n (n := 1) dX8_turnFrom_0 rfl rfl ?_
    refine j_get (n := 4) _ dX8_turnFrom_1 f_X8_43 rfl h0 rfl ?_
    refine j_iconst (n := 5) (1) dX8_turnFrom_4 rfl (by decide) ?_
    refine j_isub (n := 6) dX8_turnFrom_5 rfl ?_
    refine j_istore_n (n := 7) dX8_turnFrom_6 rfl (by decide) ?_
    refine j_iconst (n := 8) (0) dX8_turnFrom_7 rfl (by decide) ?_
    refine j_iload_n (n := 9) dX8_turnFrom_8 rfl rfl ?_
    refine j_max (n := 12) dX8_turnFrom_9 m_X8_15 rfl (by omega) (by omega) (by omega) (Nat.le_of_ble_eq_true rfl) ?_
    refine j_istore_n (n := 13) dX8_turnFrom_12 rfl (by decide) ?_
    refine j_iload_n (n := 14) dX8_turnFrom_13 rfl rfl ?_
    refine j_iload_n (n := 15) dX8_turnFrom_14 rfl rfl ?_
    refine j_icmp_ge (n := 18) 55 dX8_turnFrom_15 (by decide) rfl (fun c => ?_) (fun c => ?_)
    · exact j_vret dX8_turnFrom_55 rfl (by omega) (by omega) (by rw [show revF s 0 0 = s from by funext k; unfold revF; rw [if_neg (by omega)], set_self h2])
    · exact absurd (by decide) c
  · obtain ⟨q, rfl⟩ : ∃ q, cnt = q + 1 := ⟨cnt - 1, by omega⟩
    refine j_aload_n (n := 1) dX8_turnFrom_0 rfl rfl ?_
    refine j_get (n := 4) _ dX8_turnFrom_1 f_X8_43 rfl h0 rfl ?_
    refine j_iconst (n := 5) (1) dX8_turnFrom_4 rfl (by decide) ?_
    refine j_isub (n := 6) dX8_turnFrom_5 rfl ?_
    refine j_top (nI q) (nI_sub1 q) ?_
    refine j_istore_n (n := 7) dX8_turnFrom_6 rfl (by decide) ?_
    refine j_iconst (n := 8) (0) dX8_turnFrom_7 rfl (by decide) ?_
    refine j_iload_n (n := 9) dX8_turnFrom_8 rfl rfl ?_
    refine j_max (n := 12) dX8_turnFrom_9 m_X8_15 rfl (by omega) (by omega) (by omega) (Nat.le_of_ble_eq_true rfl) ?_
    refine j_top (nI fr) hmx ?_
    refine j_istore_n (n := 13) dX8_turnFrom_12 rfl (by decide) ?_
    refine j_keep [0, 2, 3] rfl ?_
    refine j_ws (ws' := ws.set k2 (a2, .inl (gI G, len, .inl (swF s fr (q + 1) 0)))) (by rw [swF_0, set_self h2]) ?_
    exact turn_loop h0 h2 hne hfr hc hl (q + 1) 0 q (by omega) (by omega) (by omega)
end TE

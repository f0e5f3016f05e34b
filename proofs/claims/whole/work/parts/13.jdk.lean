/-! the JDK's own: Arrays.fill, Arrays.copyOf, Integer.bitCount -/
theorem nI_inc (i : Nat) : nI i + Int32.ofInt 1 = nI (i + 1) := (nI_succ i).symm
theorem nI_dec (i : Nat) : nI (i + 1) + Int32.ofInt (-1) = nI i := pk_m1 i
section JT
variable {G : GT} {Y : YT} {d mc ms : Nat} {post : OT} {pc n : Nat} {lv : List (Nat × Value)} {st : List Value} {ws : va_W} {kc ks : Nat}
theorem j_top {x : Int32} (y : Int32) (h : x = y) (k : JJ G Y d mc ms post pc lv (.int y :: st) ws kc ks) : JJ G Y d mc ms post pc lv (.int x :: st) ws kc ks := by subst h; exact k
theorem j_ws {ws' : va_W} (h : ws = ws') (k : JJ G Y d mc ms post pc lv st ws' kc ks) : JJ G Y d mc ms post pc lv st ws kc ks := by subst h; exact k
theorem gs_app {α : Type} {ws : List α} {k : Nat} {x : α} {l : List α} (h : ws[k]? = some x) : (ws ++ l)[k]? = some x := by
  rw [List.getElem?_append_left (List.getElem?_eq_some_iff.mp h).1]; exact h
theorem set_self {α : Type} {ws : List α} {k : Nat} {x : α} (h : ws[k]? = some x) : ws.set k x = ws := by
  apply List.ext_getElem?
  intro i
  by_cases hi : k = i
  · subst hi; rw [gs_eq h, h]
  · rw [List.getElem?_set_ne hi]
theorem gs_last {α : Type} {ws : List α} {x : α} : (ws ++ [x])[ws.length]? = some x := by
  rw [List.getElem?_append_right (Nat.le_refl _), Nat.sub_self]; rfl
theorem set_last {α : Type} {ws : List α} {x y : α} : (ws ++ [x]).set ws.length y = ws ++ [y] := by
  rw [List.set_append_right _ _ (Nat.le_refl _), Nat.sub_self]; rfl
theorem set_app {α : Type} {ws l : List α} {k : Nat} {x y : α} (h : ws[k]? = some x) : (ws ++ l).set k y = ws.set k y ++ l := by
  rw [List.set_append_left _ _ (List.getElem?_eq_some_iff.mp h).1]
theorem gs_lt {α : Type} {ws : List α} {k : Nat} {x : α} (h : ws[k]? = some x) : k < ws.length := (List.getElem?_eq_some_iff.mp h).1
theorem sy_1 : Cond.native arraycopyName ∈ BW := List.mem_filter.mpr ⟨by decide +kernel, rfl⟩
theorem sy_2 : Cond.static arraycopyName ∈ BW := List.mem_filter.mpr ⟨by decide +kernel, rfl⟩
theorem sy_3 : Cond.initialized "java/lang/System" ∈ BW := List.mem_filter.mpr ⟨by decide +kernel, rfl⟩
theorem sy_4 : Cond.methodLink RJ7 150 arraycopyName ∈ BW := List.mem_filter.mpr ⟨by decide +kernel, rfl⟩
theorem j_copyi (q0 q1 m : Nat) {idx a a0 n0 n1 : Nat} {f g : Nat → Int32} {x : Int32} (hd : decode Y.2.1 pc = .ok (.invokestatic idx, 3)) (hF : Cond.methodLink Y.1.cls idx arraycopyName ∈ BW) (hn : pc + 3 = n) (hd1 : 1 ≤ d) (ha0 : ws[q0]? = some (a0, .inl (gI G, n0, .inl f))) (ha1 : ws[q1]? = some (a, .inl (gI G, n1, .inl g))) (hx : x = nI m) (h0 : m ≤ n0) (h1 : m ≤ n1) (hm : m < 2147483648) (hst : (st.map fun v => v.category).sum ≤ 8)
    (kk : JJ G Y d mc ms post n lv st (ws.set q1 (a, .inl (gI G, n1, .inl (va_cpy f g 0 0 m)))) kc ks) : JJ G Y d mc ms post pc lv (.int x :: .int 0 :: .ref a :: .int 0 :: .ref a0 :: st) ws kc ks := by
  subst hn
  subst hx
  have hc : (nI m).toNatClampNeg = m := nI_clamp hm
  intro p e s mm args below meth c H locs ls C hS hW hlv
  have ht := C.2.2.2.2.2.2.2.1
  have hi := C.2.2.2.2.2.2.2.2.1.1.1
  have z0 : (0 : Int32).toNatClampNeg = 0 := rfl
  refine va_copyi C.1 C.2.1 (by rw [C.2.2.1]; exact hlv.1.1.symm) C.2.2.2.2.2.2.1 (ht _ hF) (ht _ sy_1) (ht _ sy_2) (ht _ sy_3) C.2.2.2.2.2.2.2.2.1.2.1 hW.1 hW.2 hS q0 q1 0 0 ha0 ha1 hi hi rfl (by decide) (by decide) (nI_pos hm) (by rw [z0, hc]; omega) (by rw [z0, hc]; omega) (fun _ _ => rfl) hd1 ?_ hd ?_
  · have : nativeFrameWords "java/lang/System" "arraycopy" 5 ≤ 20 := by decide +kernel
    show _ + _ ≤ 41 * d
    omega
  · intro H1 locs1 hP hD hS1
    rw [z0, hc] at hP hD
    exact kk p e s mm args below meth c H1 locs1 ls C hS1 ⟨hP, hD⟩ hlv
end JT
def fillF (f : Nat → Int32) (lo hi : Nat) (v : Int32) : Nat → Int32 := fun k => if lo ≤ k ∧ k < hi then v else f k
theorem fillF_0 (f : Nat → Int32) (lo : Nat) (v : Int32) : fillF f lo lo v = f := by
  funext k; unfold fillF; rw [if_neg (by omega)]
theorem fillF_s (f : Nat → Int32) (lo i : Nat) (v : Int32) (h : lo ≤ i) : upd (fillF f lo i v) i v = fillF f lo (i + 1) v := by
  funext k; unfold upd fillF
  by_cases hk : k = i
  · subst hk; rw [if_pos rfl, if_pos (by omega)]
  · rw [if_neg hk]
    by_cases h2 : lo ≤ k ∧ k < i
    · rw [if_pos h2, if_pos (by omega)]
    · rw [if_neg h2, if_neg (by omega)]
section JD
variable {G : GT} {ws : va_W}
theorem c_rangeCheck {N lo hi : Nat} (h1 : lo ≤ hi) (h2 : hi ≤ N) (hN : N < 2147483648) : JV G Y_J7_rangeCheck_23922 0 0 0 [.int (nI N), .int (nI lo), .int (nI hi)] ws ws := by
  refine JM.of [(0, .int (nI N)), (1, .int (nI lo)), (2, .int (nI hi))] rfl rfl (by simp) (Nat.le_of_ble_eq_true rfl) (by decide +kernel) ?_
  refine j_iload_n (n := 1) dJ7_rangeCheck_23922_0 rfl rfl ?_
  refine j_iload_n (n := 2) dJ7_rangeCheck_23922_1 rfl rfl ?_
  refine j_icmp_le (n := 5) 46 dJ7_rangeCheck_23922_2 (by decide) rfl (fun c => ?_) (fun c => ?_)
  · refine j_iload_n (n := 47) dJ7_rangeCheck_23922_46 rfl rfl ?_
    refine j_if_ge (n := 50) 59 dJ7_rangeCheck_23922_47 (by decide) rfl (fun c2 => ?_) (fun c2 => ?_)
    · refine j_iload_n (n := 60) dJ7_rangeCheck_23922_59 rfl rfl ?_
      refine j_iload_n (n := 61) dJ7_rangeCheck_23922_60 rfl rfl ?_
      refine j_icmp_le (n := 64) 73 dJ7_rangeCheck_23922_61 (by decide) rfl (fun c3 => ?_) (fun c3 => ?_)
      · exact j_vret dJ7_rangeCheck_23922_73 rfl (by omega) (by omega) (rfl)
      · exact absurd (nI_le h2 (by omega)) c3
    · exact absurd (nI_pos' (by omega)) c2
  · exact absurd (nI_le h1 (by omega)) c
theorem fill_loop {a k N lo hi : Nat} {f : Nat → Int32} {v : Int32} (h0 : ws[k]? = some (a, .inl (gI G, N, .inl f))) (hhi : hi ≤ N) (hN : N < 2147483648) : ∀ (n i : Nat), i + n = hi → lo ≤ i → JJ G Y_J7_fill_fda19 1 0 0 (Qv (fun w => w = ws.set k (a, .inl (gI G, N, .inl (fillF f lo hi v))))) 10 [(0, .ref a), (1, .int (nI lo)), (2, .int (nI hi)), (3, .int v), (4, .int (nI i))] [] (ws.set k (a, .inl (gI G, N, .inl (fillF f lo i v)))) 0 0 := by
  intro n
  induction n with
  | zero =>
    intro i hi1 hlo
    refine j_iload (n := 12) dJ7_fill_fda19_10 rfl rfl ?_
    refine j_iload_n (n := 13) dJ7_fill_fda19_12 rfl rfl ?_
    refine j_icmp_ge (n := 16) 27 dJ7_fill_fda19_13 (by decide) rfl (fun c => ?_) (fun c => ?_)
    · obtain rfl : i = hi := by omega
      exact j_vret dJ7_fill_fda19_27 rfl (by omega) (by omega) (rfl)
    · exact absurd (nI_le (show hi ≤ i by omega) (by omega)) c
  | succ n ih =>
    intro i hi1 hlo
    refine j_iload (n := 12) dJ7_fill_fda19_10 rfl rfl ?_
    refine j_iload_n (n := 13) dJ7_fill_fda19_12 rfl rfl ?_
    refine j_icmp_ge (n := 16) 27 dJ7_fill_fda19_13 (by decide) rfl (fun c => ?_) (fun c => ?_)
    · exact absurd c (nI_ge (show i < hi by omega) (by omega))
    · refine j_aload_n (n := 17) dJ7_fill_fda19_16 rfl rfl ?_
      refine j_iload (n := 19) dJ7_fill_fda19_17 rfl rfl ?_
      refine j_iload_n (n := 20) dJ7_fill_fda19_19 rfl rfl ?_
      refine j_iast (n := 21) _ i dJ7_fill_fda19_20 rfl (gs_eq h0) rfl (by omega) (by omega) ?_
      refine j_iinc (n := 24) (nI (i + 1)) dJ7_fill_fda19_21 rfl rfl (nI_inc i) (by decide) ?_
      refine j_goto 10 dJ7_fill_fda19_24 (by decide) ?_
      refine j_ws (by rw [List.set_set, fillF_s f lo i v hlo]) ?_
      exact ih (i + 1) (by omega) (by omega)
theorem c_fill4 {a N lo hi : Nat} {f : Nat → Int32} {v : Int32} (k : Nat) (h0 : ws[k]? = some (a, .inl (gI G, N, .inl f))) (h1 : lo ≤ hi) (h2 : hi ≤ N) (hN : N < 2147483648) : JV G Y_J7_fill_fda19 1 0 0 [.ref a, .int (nI lo), .int (nI hi), .int v] ws (ws.set k (a, .inl (gI G, N, .inl (fillF f lo hi v)))) := by
  refine JM.of [(0, .ref a), (1, .int (nI lo)), (2, .int (nI hi)), (3, .int v)] rfl rfl (by simp) (Nat.le_of_ble_eq_true rfl) (by decide +kernel) ?_
  refine j_aload_n (n := 1) dJ7_fill_fda19_0 rfl rfl ?_
  refine j_alen (n := 2) _ dJ7_fill_fda19_1 rfl h0 ?_
  refine j_iload_n (n := 3) dJ7_fill_fda19_2 rfl rfl ?_
  refine j_iload_n (n := 4) dJ7_fill_fda19_3 rfl rfl ?_
  refine j_callSw (n := 7) (Y1 := Y_J7_rangeCheck_23922) dJ7_fill_fda19_4 m_J7_13 cy_J7_rangeCheck_23922 cs_J7_rangeCheck_23922 (c_rangeCheck h1 h2 hN) rfl rfl rfl (by omega) (by omega) (by omega) (Nat.le_of_ble_eq_true rfl) ?_
  refine j_iload_n (n := 8) dJ7_fill_fda19_7 rfl rfl ?_
  refine j_istore (n := 10) dJ7_fill_fda19_8 rfl (by decide) ?_
  have hs : ws = ws.set k (a, .inl (gI G, N, .inl (fillF f lo lo v))) := by
    rw [fillF_0]
    exact (set_self h0).symm
  refine j_ws hs ?_
  exact fill_loop h0 h2 hN (hi - lo) lo (by omega) (Nat.le_refl _)
theorem fillA_loop {a k N : Nat} {f : Nat → Int32} {v : Int32} (h0 : ws[k]? = some (a, .inl (gI G, N, .inl f))) (hN : N < 2147483648) : ∀ (n i : Nat), i + n = N → JJ G Y_J7_fill_53178 0 0 0 (Qv (fun w => w = ws.set k (a, .inl (gI G, N, .inl (fillF f 0 N v))))) 5 [(0, .ref a), (1, .int v), (2, .int (nI i)), (3, .int (nI N))] [] (ws.set k (a, .inl (gI G, N, .inl (fillF f 0 i v)))) 0 0 := by
  intro n
  induction n with
  | zero =>
    intro i hi1
    refine j_iload_n (n := 6) dJ7_fill_53178_5 rfl rfl ?_
    refine j_iload_n (n := 7) dJ7_fill_53178_6 rfl rfl ?_
    refine j_icmp_ge (n := 10) 20 dJ7_fill_53178_7 (by decide) rfl (fun c => ?_) (fun c => ?_)
    · obtain rfl : i = N := by omega
      exact j_vret dJ7_fill_53178_20 rfl (by omega) (by omega) (rfl)
    · exact absurd (nI_le (show N ≤ i by omega) (by omega)) c
  | succ n ih =>
    intro i hi1
    refine j_iload_n (n := 6) dJ7_fill_53178_5 rfl rfl ?_
    refine j_iload_n (n := 7) dJ7_fill_53178_6 rfl rfl ?_
    refine j_icmp_ge (n := 10) 20 dJ7_fill_53178_7 (by decide) rfl (fun c => ?_) (fun c => ?_)
    · exact absurd c (nI_ge (show i < N by omega) (by omega))
    · refine j_aload_n (n := 11) dJ7_fill_53178_10 rfl rfl ?_
      refine j_iload_n (n := 12) dJ7_fill_53178_11 rfl rfl ?_
      refine j_iload_n (n := 13) dJ7_fill_53178_12 rfl rfl ?_
      refine j_iast (n := 14) _ i dJ7_fill_53178_13 rfl (gs_eq h0) rfl (by omega) (by omega) ?_
      refine j_iinc (n := 17) (nI (i + 1)) dJ7_fill_53178_14 rfl rfl (nI_inc i) (by decide) ?_
      refine j_goto 5 dJ7_fill_53178_17 (by decide) ?_
      refine j_ws (by rw [List.set_set, fillF_s f 0 i v (Nat.zero_le _)]) ?_
      exact ih (i + 1) (by omega)
theorem c_fillA {a N : Nat} {f : Nat → Int32} {v : Int32} (k : Nat) (h0 : ws[k]? = some (a, .inl (gI G, N, .inl f))) (hN : N < 2147483648) : JV G Y_J7_fill_53178 0 0 0 [.ref a, .int v] ws (ws.set k (a, .inl (gI G, N, .inl (fillF f 0 N v)))) := by
  refine JM.of [(0, .ref a), (1, .int v)] rfl rfl (by simp) (Nat.le_of_ble_eq_true rfl) (by decide +kernel) ?_
  refine j_iconst (n := 1) (0) dJ7_fill_53178_0 rfl (by decide) ?_
  refine j_istore_n (n := 2) dJ7_fill_53178_1 rfl (by decide) ?_
  refine j_aload_n (n := 3) dJ7_fill_53178_2 rfl rfl ?_
  refine j_alen (n := 4) _ dJ7_fill_53178_3 rfl h0 ?_
  refine j_istore_n (n := 5) dJ7_fill_53178_4 rfl (by decide) ?_
  have hs : ws = ws.set k (a, .inl (gI G, N, .inl (fillF f 0 0 v))) := by
    rw [fillF_0]
    exact (set_self h0).symm
  refine j_ws hs ?_
  exact fillA_loop h0 hN N 0 (by omega)
theorem c_copyOf {a0 N n : Nat} {f : Nat → Int32} (k : Nat) (h0 : ws[k]? = some (a0, .inl (gI G, N, .inl f))) (hn : n < N) (hN : N < 134217728) : JM G Y_J7_copyOf_59c91 1 1 n [.ref a0, .int (nI n)] ws (Qr (fun o w => ∃ a : Nat, o = some a ∧ w = ws ++ [(a, .inl (gI G, n, .inl (va_cpy f (fun _ => 0) 0 0 n)))])) := by
  refine JM.of [(0, .ref a0), (1, .int (nI n))] rfl rfl (by simp) (Nat.le_of_ble_eq_true rfl) (by decide +kernel) ?_
  refine j_iload_n (n := 1) dJ7_copyOf_59c91_0 rfl rfl ?_
  refine j_aload_n (n := 2) dJ7_copyOf_59c91_1 rfl rfl ?_
  refine j_alen (n := 3) _ dJ7_copyOf_59c91_2 rfl h0 ?_
  refine j_icmp_ne 14 dJ7_copyOf_59c91_3 (by decide) rfl (fun c => ?_) (fun c => ?_)
  · refine j_iload_n (n := 15) dJ7_copyOf_59c91_14 rfl rfl ?_
    refine j_newi n dJ7_copyOf_59c91_15 rfl rfl (by omega) (by omega) (by omega) (fun a => ?_)
    refine j_astore_n (n := 18) dJ7_copyOf_59c91_17 rfl (by decide) ?_
    refine j_aload_n (n := 19) dJ7_copyOf_59c91_18 rfl rfl ?_
    refine j_iconst (n := 20) (0) dJ7_copyOf_59c91_19 rfl (by decide) ?_
    refine j_aload_n (n := 21) dJ7_copyOf_59c91_20 rfl rfl ?_
    refine j_iconst (n := 22) (0) dJ7_copyOf_59c91_21 rfl (by decide) ?_
    refine j_aload_n (n := 23) dJ7_copyOf_59c91_22 rfl rfl ?_
    refine j_alen (n := 24) _ dJ7_copyOf_59c91_23 rfl (gs_app h0) ?_
    refine j_iload_n (n := 25) dJ7_copyOf_59c91_24 rfl rfl ?_
    refine j_min (n := 28) dJ7_copyOf_59c91_25 m_J7_304 rfl (by omega) (by omega) (by omega) (Nat.le_of_ble_eq_true rfl) ?_
    refine j_top (nI n) ?_ ?_
    · show (if nI n < nI N then nI n else nI N) = nI n
      rw [if_pos (nI_lt hn (by omega))]
    refine j_copyi _ _ n dJ7_copyOf_59c91_28 sy_4 rfl (by omega) (gs_app h0) gs_last rfl (by omega) (by omega) (by omega) (Nat.le_of_ble_eq_true rfl) ?_
    refine j_aload_n (n := 32) dJ7_copyOf_59c91_31 rfl rfl ?_
    refine j_aret (some a) rfl dJ7_copyOf_59c91_32 rfl (Or.inr ⟨_, rfl⟩) (by omega) (by omega) ⟨a, rfl, set_last⟩
  · exact absurd ((nI_eq (by omega) (by omega)).mp c) (by omega)
end JD

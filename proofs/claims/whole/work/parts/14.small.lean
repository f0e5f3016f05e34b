/-! SignTable, ScriptSets, Register, Entry, the three lists -/
theorem nI_sub1 (i : Nat) : nI (i + 1) - 1 = nI i := nI_pred i
theorem ix3 (i : Int32) {n : Nat} (hn : n < 2147483648) : i < 0 ∨ nI n ≤ i ∨ ∃ j : Nat, j < n ∧ i = nI j := pk_ix i hn
theorem sw2 {w : Int32} (h0 : ¬ w = 0) (h1 : ¬ w = 1) : w.toInt < 0 ∨ 1 < w.toInt := by
  have a0 := lv_neT h0 (show (0 : Int32).toInt = 0 from rfl)
  have a1 := lv_neT h1 (show (1 : Int32).toInt = 1 from rfl)
  omega
theorem sw3 {w : Int32} (h0 : ¬ w = 0) (h1 : ¬ w = 1) (h2 : ¬ w = 2) : w.toInt < 0 ∨ 2 < w.toInt := by
  have a0 := lv_neT h0 (show (0 : Int32).toInt = 0 from rfl)
  have a1 := lv_neT h1 (show (1 : Int32).toInt = 1 from rfl)
  have a2 := lv_neT h2 (show (2 : Int32).toInt = 2 from rfl)
  omega
def tl2 (n : Nat) (f g : Nat → Int32) (i w : Int32) : Int32 := if i < 0 ∨ nI n ≤ i then -1 else if w = 0 then f i.toNatClampNeg else if w = 1 then g i.toNatClampNeg else -1
def tl3 (n : Nat) (f g h : Nat → Int32) (i w : Int32) : Int32 := if i < 0 ∨ nI n ≤ i then -1 else if w = 0 then f i.toNatClampNeg else if w = 1 then g i.toNatClampNeg else if w = 2 then h i.toNatClampNeg else -1
/-- bitCount, as it is reckoned -/
def bcF (x : Int32) : Int32 :=
  let ush (a b : Int32) : Int32 := (a.toUInt32 >>> (b.toUInt32 &&& Int32.toUInt32 31)).toInt32
  let a := x - (ush x 1 &&& 1431655765)
  let b := (a &&& 858993459) + (ush a 2 &&& 858993459)
  let c := (b + ush b 4) &&& 252645135
  let e := c + ush c 8
  let f := e + ush e 16
  f &&& 63
section SM
variable {G : GT} {ws : va_W}
theorem c_bitCount {x : Int32} : JE G Y_J6_bitCount_0f7a4 0 0 0 [.int x] ws (bcF x) ws := by
  refine JM.of [(0, .int x)] rfl rfl (by simp) (Nat.le_of_ble_eq_true rfl) (by decide +kernel) ?_
  refine j_iload_n (n := 1) dJ6_bitCount_0f7a4_0 rfl rfl ?_
  refine j_iload_n (n := 2) dJ6_bitCount_0f7a4_1 rfl rfl ?_
  refine j_iconst (n := 3) (1) dJ6_bitCount_0f7a4_2 rfl (by decide) ?_
  refine j_iushr (n := 4) dJ6_bitCount_0f7a4_3 rfl ?_
  refine j_ldcw (n := 7) dJ6_bitCount_0f7a4_4 rfl k_J6_265 ?_
  refine j_iand (n := 8) dJ6_bitCount_0f7a4_7 rfl ?_
  refine j_isub (n := 9) dJ6_bitCount_0f7a4_8 rfl ?_
  refine j_istore_n (n := 10) dJ6_bitCount_0f7a4_9 rfl (by decide) ?_
  refine j_iload_n (n := 11) dJ6_bitCount_0f7a4_10 rfl rfl ?_
  refine j_ldcw (n := 14) dJ6_bitCount_0f7a4_11 rfl k_J6_266 ?_
  refine j_iand (n := 15) dJ6_bitCount_0f7a4_14 rfl ?_
  refine j_iload_n (n := 16) dJ6_bitCount_0f7a4_15 rfl rfl ?_
  refine j_iconst (n := 17) (2) dJ6_bitCount_0f7a4_16 rfl (by decide) ?_
  refine j_iushr (n := 18) dJ6_bitCount_0f7a4_17 rfl ?_
  refine j_ldcw (n := 21) dJ6_bitCount_0f7a4_18 rfl k_J6_266 ?_
  refine j_iand (n := 22) dJ6_bitCount_0f7a4_21 rfl ?_
  refine j_iadd (n := 23) dJ6_bitCount_0f7a4_22 rfl ?_
  refine j_istore_n (n := 24) dJ6_bitCount_0f7a4_23 rfl (by decide) ?_
  refine j_iload_n (n := 25) dJ6_bitCount_0f7a4_24 rfl rfl ?_
  refine j_iload_n (n := 26) dJ6_bitCount_0f7a4_25 rfl rfl ?_
  refine j_iconst (n := 27) (4) dJ6_bitCount_0f7a4_26 rfl (by decide) ?_
  refine j_iushr (n := 28) dJ6_bitCount_0f7a4_27 rfl ?_
  refine j_iadd (n := 29) dJ6_bitCount_0f7a4_28 rfl ?_
  refine j_ldcw (n := 32) dJ6_bitCount_0f7a4_29 rfl k_J6_267 ?_
  refine j_iand (n := 33) dJ6_bitCount_0f7a4_32 rfl ?_
  refine j_istore_n (n := 34) dJ6_bitCount_0f7a4_33 rfl (by decide) ?_
  refine j_iload_n (n := 35) dJ6_bitCount_0f7a4_34 rfl rfl ?_
  refine j_iload_n (n := 36) dJ6_bitCount_0f7a4_35 rfl rfl ?_
  refine j_bipush (n := 38) (8) dJ6_bitCount_0f7a4_36 rfl (by decide) ?_
  refine j_iushr (n := 39) dJ6_bitCount_0f7a4_38 rfl ?_
  refine j_iadd (n := 40) dJ6_bitCount_0f7a4_39 rfl ?_
  refine j_istore_n (n := 41) dJ6_bitCount_0f7a4_40 rfl (by decide) ?_
  refine j_iload_n (n := 42) dJ6_bitCount_0f7a4_41 rfl rfl ?_
  refine j_iload_n (n := 43) dJ6_bitCount_0f7a4_42 rfl rfl ?_
  refine j_bipush (n := 45) (16) dJ6_bitCount_0f7a4_43 rfl (by decide) ?_
  refine j_iushr (n := 46) dJ6_bitCount_0f7a4_45 rfl ?_
  refine j_iadd (n := 47) dJ6_bitCount_0f7a4_46 rfl ?_
  refine j_istore_n (n := 48) dJ6_bitCount_0f7a4_47 rfl (by decide) ?_
  refine j_iload_n (n := 49) dJ6_bitCount_0f7a4_48 rfl rfl ?_
  refine j_bipush (n := 51) (63) dJ6_bitCount_0f7a4_49 rfl (by decide) ?_
  refine j_iand (n := 52) dJ6_bitCount_0f7a4_51 rfl ?_
  exact j_iret dJ6_bitCount_0f7a4_52 rfl rfl (by omega) (by omega) (⟨rfl, rfl⟩)
theorem jw_pick {G : GT} {ws ws' : va_W} {H : Heap} (is : List Nat) (hn : va_nd is = true) (hs : is.map (fun i => ws[i]?) = ws'.map some) (h : JW G ws H) : JW G ws' H := by
  refine ⟨fun k q hk => ?_, h.2.sub is hn hs⟩
  have h1 : (is.map (fun i => ws[i]?))[k]? = some (some q) := by rw [hs, List.getElem?_map, hk]; rfl
  rw [List.getElem?_map] at h1
  cases hi : is[k]? with
  | none => rw [hi] at h1; cases h1
  | some i => rw [hi] at h1; exact h.1 i q (Option.some.inj h1)
theorem j_pick {Y : YT} {d mc ms : Nat} {post : OT} {pc : Nat} {lv : List (Nat × Value)} {st : List Value} {ws ws' : va_W} {kc ks : Nat} (is : List Nat) (hn : va_nd is = true) (hs : is.map (fun i => ws[i]?) = ws'.map some) (kk : JJ G Y d mc ms post pc lv st ws' kc ks) : JJ G Y d mc ms post pc lv st ws kc ks :=
  j_world (fun _ _ => jw_pick is hn hs) kk
theorem c_changeScript {a0 a1 a2 j : Nat} {stamp : Int32} {sc : Nat → Int32} {s : Int32} (k0 : Nat) (h0 : ws[k0]? = some (a0, .inr (7, [.ref a1, .ref a2, .int stamp]))) (k1 : Nat) (h1 : ws[k1]? = some (a1, .inl (gI G, 127, .inl sc))) (hj1 : 33 ≤ j) (hj2 : j ≤ 126) : JE G Y_X7_changeScript 2 0 0 [.ref a0, .int (nI j), .int s] ws (sc j) (ws.set k1 (a1, .inl (gI G, 127, .inl (upd sc j s)))) := by
  have hs := sg_of hj1 hj2
  refine JM.of [(0, .ref a0), (1, .int (nI j)), (2, .int s)] rfl rfl (by simp) (Nat.le_of_ble_eq_true rfl) (by decide +kernel) ?_
  refine j_aload_n (n := 1) dX7_changeScript_0 rfl rfl ?_
  refine j_iload_n (n := 2) dX7_changeScript_1 rfl rfl ?_
  refine j_callVe (n := 5) (Y1 := Y_X7_scriptOf) _ dX7_changeScript_2 m_X7_32 cy_X7_scriptOf ci_X7_scriptOf (c_scriptOf _ h0 _ h1) rfl rfl rfl h0 rfl (by omega) (by omega) (by omega) (Nat.le_of_ble_eq_true rfl) ?_
  refine j_istore_n (n := 6) dX7_changeScript_5 rfl (by decide) ?_
  refine j_iload_n (n := 7) dX7_changeScript_6 rfl rfl ?_
  refine j_callSNe (n := 10) (Y1 := Y_X10_isSign) dX7_changeScript_7 m_X7_28 cy_X10_isSign cs_X10_isSign (c_isSign) rfl rfl rfl (by omega) (by omega) (by omega) (Nat.le_of_ble_eq_true rfl) ?_
  refine j_if_eq (n := 13) 20 dX7_changeScript_10 (by decide) rfl (fun c => ?_) (fun c => ?_)
  · rw [hs] at c; cases c
  · refine j_aload_n (n := 14) dX7_changeScript_13 rfl rfl ?_
    refine j_get (n := 17) _ dX7_changeScript_14 f_X7_9 rfl h0 rfl ?_
    refine j_iload_n (n := 18) dX7_changeScript_17 rfl rfl ?_
    refine j_iload_n (n := 19) dX7_changeScript_18 rfl rfl ?_
    refine j_iast (n := 20) _ j dX7_changeScript_19 rfl h1 rfl (by omega) (by omega) ?_
    refine j_iload_n (n := 21) dX7_changeScript_20 rfl rfl ?_
    exact j_iret dX7_changeScript_21 rfl rfl (by omega) (by omega) (⟨by simp [scrF, hs, nI_clamp (show j < 2 ^ 31 by omega)], rfl⟩)
theorem c_changeHow {a0 a1 a2 j st : Nat} {hw : Nat → Int32} {s : Int32} (k0 : Nat) (h0 : ws[k0]? = some (a0, .inr (7, [.ref a1, .ref a2, .int (nI st)]))) (k2 : Nat) (h2 : ws[k2]? = some (a2, .inl (gI G, 127, .inl hw))) (hne : k0 ≠ k2) (hj1 : 33 ≤ j) (hj2 : j ≤ 126) : JE G Y_X7_changeHow 2 0 0 [.ref a0, .int (nI j), .int s] ws (hw j) (if hw j = s then ws else (ws.set k2 (a2, .inl (gI G, 127, .inl (upd hw j s)))).set k0 (a0, .inr (7, [.ref a1, .ref a2, .int (nI (st + 1))]))) := by
  have hs := sg_of hj1 hj2
  have hh : howF hw (nI j) = hw j := by simp [howF, hs, nI_clamp (show j < 2 ^ 31 by omega)]
  refine JM.of [(0, .ref a0), (1, .int (nI j)), (2, .int s)] rfl rfl (by simp) (Nat.le_of_ble_eq_true rfl) (by decide +kernel) ?_
  refine j_aload_n (n := 1) dX7_changeHow_0 rfl rfl ?_
  refine j_iload_n (n := 2) dX7_changeHow_1 rfl rfl ?_
  refine j_callVe (n := 5) (Y1 := Y_X7_howOf) _ dX7_changeHow_2 m_X7_36 cy_X7_howOf ci_X7_howOf (c_howOf _ h0 _ h2) rfl rfl rfl h0 rfl (by omega) (by omega) (by omega) (Nat.le_of_ble_eq_true rfl) ?_
  refine j_istore_n (n := 6) dX7_changeHow_5 rfl (by decide) ?_
  refine j_iload_n (n := 7) dX7_changeHow_6 rfl rfl ?_
  refine j_callSNe (n := 10) (Y1 := Y_X10_isSign) dX7_changeHow_7 m_X7_28 cy_X10_isSign cs_X10_isSign (c_isSign) rfl rfl rfl (by omega) (by omega) (by omega) (Nat.le_of_ble_eq_true rfl) ?_
  refine j_if_eq (n := 13) 35 dX7_changeHow_10 (by decide) rfl (fun c => ?_) (fun c => ?_)
  · rw [hs] at c; cases c
  · rw [hh]
    refine j_iload_n (n := 14) dX7_changeHow_13 rfl rfl ?_
    refine j_iload_n (n := 15) dX7_changeHow_14 rfl rfl ?_
    refine j_icmp_eq (n := 18) 35 dX7_changeHow_15 (by decide) rfl (fun c2 => ?_) (fun c2 => ?_)
    · rw [if_pos c2]
      refine j_iload_n (n := 36) dX7_changeHow_35 rfl rfl ?_
      exact j_iret dX7_changeHow_36 rfl rfl (by omega) (by omega) (⟨rfl, rfl⟩)
    · rw [if_neg c2]
      refine j_aload_n (n := 19) dX7_changeHow_18 rfl rfl ?_
      refine j_get (n := 22) _ dX7_changeHow_19 f_X7_15 rfl h0 rfl ?_
      refine j_iload_n (n := 23) dX7_changeHow_22 rfl rfl ?_
      refine j_iload_n (n := 24) dX7_changeHow_23 rfl rfl ?_
      refine j_iast (n := 25) _ j dX7_changeHow_24 rfl h2 rfl (by omega) (by omega) ?_
      refine j_aload_n (n := 26) dX7_changeHow_25 rfl rfl ?_
      refine j_dup (n := 27) dX7_changeHow_26 rfl rfl ?_
      refine j_get (n := 30) _ dX7_changeHow_27 f_X7_18 rfl (gs_ne (by omega) h0) rfl ?_
      refine j_iconst (n := 31) (1) dX7_changeHow_30 rfl (by decide) ?_
      refine j_iadd (n := 32) dX7_changeHow_31 rfl ?_
      refine j_top (nI (st + 1)) (nI_1 st) ?_
      refine j_put (n := 35) _ dX7_changeHow_32 f_X7_18 rfl rfl (gs_ne (by omega) h0) (Nat.le_of_ble_eq_true rfl) rfl rfl ?_
      refine j_iload_n (n := 36) dX7_changeHow_35 rfl rfl ?_
      exact j_iret dX7_changeHow_36 rfl rfl (by omega) (by omega) (⟨rfl, rfl⟩)
/-- SETS -/
def heldB (n : Nat) (b : Nat → Int32) (s : Int32) : Bool := (List.range n).any (fun i => decide (s &&& (b i ^^^ (-1)) = 0))
def inB (n : Nat) (b : Nat → Int32) (s : Int32) : Bool := (List.range n).any (fun i => decide (b i = s))
theorem any_t {n : Nat} {P : Nat → Bool} {i : Nat} (hi : i < n) (h : P i = true) : (List.range n).any P = true := List.any_eq_true.mpr ⟨i, List.mem_range.mpr hi, h⟩
theorem any_f {n : Nat} {P : Nat → Bool} (h : ∀ i, i < n → P i = false) : (List.range n).any P = false := by
  rw [List.any_eq_false]
  intro i hi
  rw [h i (List.mem_range.mp hi)]
  exact Bool.false_ne_true
theorem held_loop {a0 a1 sz : Nat} {b : Nat → Int32} {s : Int32} {k0 k1 : Nat} (h0 : ws[k0]? = some (a0, .inr (6, [.ref a1, .int (nI sz)]))) (h1 : ws[k1]? = some (a1, .inl (gI G, 8, .inl b))) (hsz : sz ≤ 8) : ∀ (n i : Nat), i + n = sz → (∀ j, j < i → ¬ s &&& (b j ^^^ (-1)) = 0) → JJ G Y_X6_holdTogether 0 0 0 (Qi (fun r w => r = b01 (heldB sz b s) ∧ w = ws)) 2 [(0, .ref a0), (1, .int s), (2, .int (nI i))] [] ws 0 0 := by
  intro n
  induction n with
  | zero =>
    intro i hi hj
    refine j_iload_n (n := 3) dX6_holdTogether_2 rfl rfl ?_
    refine j_aload_n (n := 4) dX6_holdTogether_3 rfl rfl ?_
    refine j_get (n := 7) _ dX6_holdTogether_4 f_X6_15 rfl h0 rfl ?_
    refine j_icmp_ge (n := 10) 31 dX6_holdTogether_7 (by decide) rfl (fun c => ?_) (fun c => ?_)
    · refine j_iconst (n := 32) (0) dX6_holdTogether_31 rfl (by decide) ?_
      obtain rfl : i = sz := by omega
      exact j_iret dX6_holdTogether_32 rfl rfl (by omega) (by omega) (⟨by rw [heldB, any_f (fun j h => decide_eq_false (hj j h))]; rfl, rfl⟩)
    · exact absurd (nI_le (show sz ≤ i by omega) (by omega)) c
  | succ n ih =>
    intro i hi hj
    refine j_iload_n (n := 3) dX6_holdTogether_2 rfl rfl ?_
    refine j_aload_n (n := 4) dX6_holdTogether_3 rfl rfl ?_
    refine j_get (n := 7) _ dX6_holdTogether_4 f_X6_15 rfl h0 rfl ?_
    refine j_icmp_ge (n := 10) 31 dX6_holdTogether_7 (by decide) rfl (fun c => ?_) (fun c => ?_)
    · exact absurd c (nI_ge (show i < sz by omega) (by omega))
    · refine j_iload_n (n := 11) dX6_holdTogether_10 rfl rfl ?_
      refine j_aload_n (n := 12) dX6_holdTogether_11 rfl rfl ?_
      refine j_get (n := 15) _ dX6_holdTogether_12 f_X6_9 rfl h0 rfl ?_
      refine j_iload_n (n := 16) dX6_holdTogether_15 rfl rfl ?_
      refine j_iald (n := 17) _ i dX6_holdTogether_16 rfl h1 rfl (by omega) (by omega) ?_
      refine j_iconst (n := 18) (-1) dX6_holdTogether_17 rfl (by decide) ?_
      refine j_ixor (n := 19) dX6_holdTogether_18 rfl ?_
      refine j_iand (n := 20) dX6_holdTogether_19 rfl ?_
      refine j_if_ne (n := 23) 25 dX6_holdTogether_20 (by decide) rfl (fun c2 => ?_) (fun c2 => ?_)
      · refine j_iinc (n := 28) (nI (i + 1)) dX6_holdTogether_25 rfl rfl (nI_inc i) (by decide) ?_
        refine j_goto 2 dX6_holdTogether_28 (by decide) ?_
        exact ih (i + 1) (by omega) (lt_s hj c2)
      · refine j_iconst (n := 24) (1) dX6_holdTogether_23 rfl (by decide) ?_
        exact j_iret dX6_holdTogether_24 rfl rfl (by omega) (by omega) (⟨by rw [heldB, any_t (show i < sz by omega) (decide_eq_true c2)]; rfl, rfl⟩)
theorem c_holdTogether {a0 a1 sz : Nat} {b : Nat → Int32} {s : Int32} (k0 : Nat) (h0 : ws[k0]? = some (a0, .inr (6, [.ref a1, .int (nI sz)]))) (k1 : Nat) (h1 : ws[k1]? = some (a1, .inl (gI G, 8, .inl b))) (hsz : sz ≤ 8) : JE G Y_X6_holdTogether 0 0 0 [.ref a0, .int s] ws (b01 (heldB sz b s)) ws := by
  refine JM.of [(0, .ref a0), (1, .int s)] rfl rfl (by simp) (Nat.le_of_ble_eq_true rfl) (by decide +kernel) ?_
  refine j_iconst (n := 1) (0) dX6_holdTogether_0 rfl (by decide) ?_
  refine j_istore_n (n := 2) dX6_holdTogether_1 rfl (by decide) ?_
  exact held_loop h0 h1 hsz sz 0 (by omega) lt_0
def addS (sz : Nat) (b : Nat → Int32) (s : Int32) : Int32 := if inB sz b s then nI sz else if 8 ≤ sz then -3 else nI (sz + 1)
theorem add_loop {a0 a1 sz : Nat} {b : Nat → Int32} {s : Int32} {k0 k1 : Nat} (h0 : ws[k0]? = some (a0, .inr (6, [.ref a1, .int (nI sz)]))) (h1 : ws[k1]? = some (a1, .inl (gI G, 8, .inl b))) (hne : k0 ≠ k1) (hsz : sz ≤ 8) : ∀ (n i : Nat), i + n = sz → (∀ j, j < i → ¬ b j = s) → JJ G Y_X6_add 0 0 0 (Qi (fun r w => r = addS sz b s ∧ w = if inB sz b s = true ∨ 8 ≤ sz then ws else (ws.set k1 (a1, .inl (gI G, 8, .inl (upd b sz s)))).set k0 (a0, .inr (6, [.ref a1, .int (nI (sz + 1))])))) 2 [(0, .ref a0), (1, .int s), (2, .int (nI i))] [] ws 0 0 := by
  intro n
  induction n with
  | zero =>
    intro i hi hj
    obtain rfl : i = sz := by omega
    have hin : inB i b s = false := any_f (fun j h => by simp [hj j h])
    refine j_iload_n (n := 3) dX6_add_2 rfl rfl ?_
    refine j_aload_n (n := 4) dX6_add_3 rfl rfl ?_
    refine j_get (n := 7) _ dX6_add_4 f_X6_15 rfl h0 rfl ?_
    refine j_icmp_ge (n := 10) 31 dX6_add_7 (by decide) rfl (fun c => ?_) (fun c => ?_)
    · refine j_aload_n (n := 32) dX6_add_31 rfl rfl ?_
      refine j_get (n := 35) _ dX6_add_32 f_X6_15 rfl h0 rfl ?_
      refine j_bipush (n := 37) (8) dX6_add_35 rfl (by decide) ?_
      refine j_icmp_lt (n := 40) 43 dX6_add_37 (by decide) rfl (fun c2 => ?_) (fun c2 => ?_)
      · have hlt : i < 8 := (nI_ltI (b := 8) (by omega) (by omega)).mp c2
        refine j_aload_n (n := 44) dX6_add_43 rfl rfl ?_
        refine j_get (n := 47) _ dX6_add_44 f_X6_9 rfl h0 rfl ?_
        refine j_aload_n (n := 48) dX6_add_47 rfl rfl ?_
        refine j_get (n := 51) _ dX6_add_48 f_X6_15 rfl h0 rfl ?_
        refine j_iload_n (n := 52) dX6_add_51 rfl rfl ?_
        refine j_iast (n := 53) _ i dX6_add_52 rfl h1 rfl (by omega) (by omega) ?_
        refine j_aload_n (n := 54) dX6_add_53 rfl rfl ?_
        refine j_dup (n := 55) dX6_add_54 rfl rfl ?_
        refine j_get (n := 58) _ dX6_add_55 f_X6_15 rfl (gs_ne (by omega) h0) rfl ?_
        refine j_iconst (n := 59) (1) dX6_add_58 rfl (by decide) ?_
        refine j_iadd (n := 60) dX6_add_59 rfl ?_
        refine j_top (nI (i + 1)) (nI_1 i) ?_
        refine j_put (n := 63) _ dX6_add_60 f_X6_15 rfl rfl (gs_ne (by omega) h0) (Nat.le_of_ble_eq_true rfl) rfl rfl ?_
        refine j_aload_n (n := 64) dX6_add_63 rfl rfl ?_
        refine j_get (n := 67) _ dX6_add_64 f_X6_15 rfl (gs_eq (gs_ne (by omega) h0)) rfl ?_
        exact j_iret dX6_add_67 rfl rfl (by omega) (by omega) (⟨by simp [addS, hin]; omega, (if_neg (by simp [hin]; omega)).symm⟩)
      · have hge : ¬ i < 8 := fun h => c2 (nI_lt (b := 8) h (by omega))
        refine j_bipush (n := 42) (-3) dX6_add_40 rfl (by decide) ?_
        exact j_iret dX6_add_42 rfl rfl (by omega) (by omega) (⟨by simp [addS, hin]; omega, (if_pos (Or.inr (by omega))).symm⟩)
    · exact absurd (nI_le (Nat.le_refl i) (by omega)) c
  | succ n ih =>
    intro i hi hj
    refine j_iload_n (n := 3) dX6_add_2 rfl rfl ?_
    refine j_aload_n (n := 4) dX6_add_3 rfl rfl ?_
    refine j_get (n := 7) _ dX6_add_4 f_X6_15 rfl h0 rfl ?_
    refine j_icmp_ge (n := 10) 31 dX6_add_7 (by decide) rfl (fun c => ?_) (fun c => ?_)
    · exact absurd c (nI_ge (show i < sz by omega) (by omega))
    · refine j_aload_n (n := 11) dX6_add_10 rfl rfl ?_
      refine j_get (n := 14) _ dX6_add_11 f_X6_9 rfl h0 rfl ?_
      refine j_iload_n (n := 15) dX6_add_14 rfl rfl ?_
      refine j_iald (n := 16) _ i dX6_add_15 rfl h1 rfl (by omega) (by omega) ?_
      refine j_iload_n (n := 17) dX6_add_16 rfl rfl ?_
      refine j_icmp_ne (n := 20) 25 dX6_add_17 (by decide) rfl (fun c2 => ?_) (fun c2 => ?_)
      · refine j_iinc (n := 28) (nI (i + 1)) dX6_add_25 rfl rfl (nI_inc i) (by decide) ?_
        refine j_goto 2 dX6_add_28 (by decide) ?_
        exact ih (i + 1) (by omega) (lt_s hj c2)
      · have hin : inB sz b s = true := any_t (show i < sz by omega) (by simp [c2])
        refine j_aload_n (n := 21) dX6_add_20 rfl rfl ?_
        refine j_get (n := 24) _ dX6_add_21 f_X6_15 rfl h0 rfl ?_
        exact j_iret dX6_add_24 rfl rfl (by omega) (by omega) (⟨by simp [addS, hin], (if_pos (Or.inl hin)).symm⟩)
theorem c_setAdd {a0 a1 sz : Nat} {b : Nat → Int32} {s : Int32} (k0 : Nat) (h0 : ws[k0]? = some (a0, .inr (6, [.ref a1, .int (nI sz)]))) (k1 : Nat) (h1 : ws[k1]? = some (a1, .inl (gI G, 8, .inl b))) (hne : k0 ≠ k1) (hsz : sz ≤ 8) : JE G Y_X6_add 0 0 0 [.ref a0, .int s] ws (addS sz b s) (if inB sz b s = true ∨ 8 ≤ sz then ws else (ws.set k1 (a1, .inl (gI G, 8, .inl (upd b sz s)))).set k0 (a0, .inr (6, [.ref a1, .int (nI (sz + 1))]))) := by
  refine JM.of [(0, .ref a0), (1, .int s)] rfl rfl (by simp) (Nat.le_of_ble_eq_true rfl) (by decide +kernel) ?_
  refine j_iconst (n := 1) (0) dX6_add_0 rfl (by decide) ?_
  refine j_istore_n (n := 2) dX6_add_1 rfl (by decide) ?_
  exact add_loop h0 h1 hne hsz sz 0 (by omega) lt_0
end SM

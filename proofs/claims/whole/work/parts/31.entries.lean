/-! entries: where they lie, registerAt, entryAt, standingAt, isMixed, strike, countStanding, far -/
/-- an entry: address, register, owner, its Text's address and place, stands -/
abbrev ER : Type := Nat × Int32 × Int32 × Nat × Nat × Int32
def eCell (x : ER) : Nat × va_E := (x.1, .inr (0, [.int x.2.1, .int x.2.2.1, .ref x.2.2.2.1, .int x.2.2.2.2.2]))
abbrev poolE (G : GT) (T : List TR) (E : List ER) (tail : va_W) : va_W := poolT G T (E.map eCell ++ tail)
theorem poolT_len (G : GT) (T : List TR) (tail : va_W) : ∀ n : Nat, (poolT G T tail)[5 * T.length + n]? = tail[n]? := by
  intro n
  induction T with
  | nil => unfold poolT; rw [show 5 * ([] : List TR).length + n = n by show 5 * 0 + n = n; omega]; rfl
  | cons a T ih =>
    rw [poolT_cons, List.length_cons, List.getElem?_append_right (by show 5 ≤ _; omega), show 5 * (T.length + 1) + n - (tC G a).length = 5 * T.length + n by show 5 * (T.length + 1) + n - 5 = _; omega]
    exact ih
theorem poolT_set (G : GT) (T : List TR) (tail : va_W) (x : Nat × va_E) : ∀ n : Nat, (poolT G T tail).set (5 * T.length + n) x = poolT G T (tail.set n x) := by
  intro n
  induction T with
  | nil => unfold poolT; rw [show 5 * ([] : List TR).length + n = n by show 5 * 0 + n = n; omega]; rfl
  | cons a T ih =>
    rw [poolT_cons, poolT_cons, List.length_cons, List.set_append_right _ _ (by show 5 ≤ _; omega), show 5 * (T.length + 1) + n - (tC G a).length = 5 * T.length + n by show 5 * (T.length + 1) + n - 5 = _; omega, ih]
theorem ep_get {G : GT} {T : List TR} {E : List ER} {tail : va_W} {e : Nat} {x : ER} (h : E[e]? = some x) : (poolE G T E tail)[5 * T.length + e]? = some (eCell x) := by
  rw [poolT_len, List.getElem?_append_left (by rw [List.length_map]; exact gs_lt h), List.getElem?_map, h]
  rfl
theorem ep_set {G : GT} {T : List TR} {E : List ER} {tail : va_W} {e : Nat} {x x' : ER} (h : E[e]? = some x) : (poolE G T E tail).set (5 * T.length + e) (eCell x') = poolE G T (E.set e x') tail := by
  rw [poolT_set, List.set_append_left _ _ (by rw [List.length_map]; exact gs_lt h), ← List.map_set]
/-- the entries as the document tells them: register, owner, stands, text -/
def ENT (E : List ER) (T : List TR) (en : Nat) (er eo es : Nat → Int32) (el : Nat → Nat) (et : Nat → Nat → Int32) : Prop := E.length = en ∧ en ≤ 200 ∧ ∀ e : Nat, e < en → ∃ (x : ER) (r : TR), E[e]? = some x ∧ T[x.2.2.2.2.1]? = some r ∧ r.1 0 = x.2.2.2.1 ∧ x.2.1 = er e ∧ x.2.2.1 = eo e ∧ x.2.2.2.2.2 = es e ∧ tLen r = el e ∧ tT r = et e ∧ (es e = 0 ∨ es e = 1)
def EFI (E : List ER) (Ef : Nat → Option Nat) : Prop := ∀ (e : Nat) (x : ER), E[e]? = some x → Ef e = some x.1
theorem ENT.eqt {E : List ER} {T T' : List TR} {en : Nat} {er eo es : Nat → Int32} {el : Nat → Nat} {et : Nat → Nat → Int32} (h : ENT E T en er eo es el et) (hT : EQT T T') : ENT E T' en er eo es el et := by
  refine ⟨h.1, h.2.1, fun e he => ?_⟩
  obtain ⟨x, r, h1, h2, h3, h4, h5, h6, h7, h8, h9⟩ := h.2.2 e he
  have hl := gs_lt h2
  obtain ⟨r', hr'⟩ : ∃ r', T'[x.2.2.2.2.1]? = some r' := ⟨T'[x.2.2.2.2.1]'(by rw [hT.1]; exact hl), List.getElem?_eq_getElem _⟩
  obtain ⟨r1, a1, a2, a3, a4⟩ := hT.2 _ r' hr'
  have : r1 = r := Option.some.inj (a1.symm.trans h2)
  subst this
  exact ⟨x, r', h1, hr', by rw [a2]; exact h3, h4, h5, h6, a3.trans h7, a4.trans h8, h9⟩
/-- the entry e stands -/
def stnd (en : Nat) (es : Nat → Int32) (e : Int32) : Bool := decide (¬ (e < 0 ∨ nI en ≤ e)) && decide (¬ es e.toNatClampNeg = 0)
section EN1
variable {G : GT} {Q N : Nat → Nat} {Z : Nat → Int32} {F : Nat → Nat → Int32} {nm : Option Nat} {Ef : Nat → Option Nat} {T : List TR} {E : List ER} {tail P : va_W} {er eo es : Nat → Int32} {el : Nat → Nat} {et : Nat → Nat → Int32}
def rgF (Q : Nat → Nat) (r : Int32) : Option Nat := if r < 0 ∨ 4 ≤ r then none else some (Q (16 + r.toNatClampNeg))
theorem c_registerAt {r : Int32} : JR G Y_X10_registerAt 0 0 0 [.ref (Q 8), .int r] (cW G Q N Z F nm Ef P) (rgF Q r) (cW G Q N Z F nm Ef P) := by
  refine JM.of [(0, .ref (Q 8)), (1, .int r)] rfl rfl (by simp) (Nat.le_of_ble_eq_true rfl) (by decide +kernel) ?_
  refine j_iload_n (n := 1) dX10_registerAt_0 rfl rfl ?_
  refine j_if_lt (n := 4) 18 dX10_registerAt_1 (by decide) rfl (fun c => ?_) (fun c => ?_)
  · refine j_null (n := 19) dX10_registerAt_18 rfl ?_
    refine j_aret none rfl dX10_registerAt_19 rfl (Or.inl ⟨_, rfl⟩) (by omega) (by omega) ⟨by unfold rgF; rw [if_pos (Or.inl c)], rfl⟩
  · refine j_iload_n (n := 5) dX10_registerAt_4 rfl rfl ?_
    refine j_iconst (n := 6) (4) dX10_registerAt_5 rfl (by decide) ?_
    refine j_icmp_ge (n := 9) 18 dX10_registerAt_6 (by decide) rfl (fun c2 => ?_) (fun c2 => ?_)
    · refine j_null (n := 19) dX10_registerAt_18 rfl ?_
      refine j_aret none rfl dX10_registerAt_19 rfl (Or.inl ⟨_, rfl⟩) (by omega) (by omega) ⟨by unfold rgF; rw [if_pos (Or.inr c2)], rfl⟩
    · have hn : ¬ (r < 0 ∨ 4 ≤ r) := fun q => q.elim c c2
      rcases ix3 r (n := 4) (by omega) with h | h | ⟨j, hj, rfl⟩
      · exact absurd h c
      · exact absurd h c2
      · refine j_aload_n (n := 10) dX10_registerAt_9 rfl rfl ?_
        refine j_get (n := 13) 8 dX10_registerAt_10 f_X10_50 rfl rfl rfl ?_
        refine j_iload_n (n := 14) dX10_registerAt_13 rfl rfl ?_
        refine j_aaldR (n := 15) 15 j dX10_registerAt_14 rfl rfl rfl hj (by omega) ?_
        refine j_goto 19 dX10_registerAt_15 (by decide) ?_
        refine j_aret (some (Q (16 + j))) rfl dX10_registerAt_19 rfl (Or.inl ⟨_, rfl⟩) (by omega) (by omega) ⟨by unfold rgF; rw [if_neg hn, nI_clamp (by omega)], rfl⟩
theorem rgF_none {r : Int32} (h : r < 0 ∨ 4 ≤ r) : rgF Q r = none := by unfold rgF; rw [if_pos h]
theorem rgF_some {j : Nat} (h : j < 4) : rgF Q (nI j) = some (Q (16 + j)) := by
  unfold rgF
  rw [if_neg (fun q => q.elim (nI_pos (by omega)) (nI_ge (b := 4) h (by omega))), nI_clamp (by omega)]
theorem rg_get {j : Nat} (h : j < 4) : (cW G Q N Z F nm Ef P)[16 + j]? = some (Q (16 + j), .inr (5, [.int (Z (10 + 3 * j)), .int (Z (11 + 3 * j)), .int (Z (12 + 3 * j))])) := by
  rcases (show j = 0 ∨ j = 1 ∨ j = 2 ∨ j = 3 by omega) with e | e | e | e <;> subst e <;> rfl
theorem rg_set {j : Nat} {a b c : Int32} (h : j < 4) : (cW G Q N Z F nm Ef P).set (16 + j) (Q (16 + j), .inr (5, [.int a, .int b, .int c])) = cW G Q N (va_up (va_up (va_up Z (10 + 3 * j) a) (11 + 3 * j) b) (12 + 3 * j) c) F nm Ef P := by
  rcases (show j = 0 ∨ j = 1 ∨ j = 2 ∨ j = 3 by omega) with e | e | e | e <;> subst e <;> rfl
theorem c_entryAt {e : Int32} (h7 : N 7 ≤ 200) : JR G Y_X10_entryAt 0 0 0 [.ref (Q 8), .int e] (cW G Q N Z F nm Ef P) (if e < 0 ∨ nI (N 7) ≤ e then none else Ef e.toNatClampNeg) (cW G Q N Z F nm Ef P) := by
  refine JM.of [(0, .ref (Q 8)), (1, .int e)] rfl rfl (by simp) (Nat.le_of_ble_eq_true rfl) (by decide +kernel) ?_
  refine j_iload_n (n := 1) dX10_entryAt_0 rfl rfl ?_
  refine j_if_lt (n := 4) 28 dX10_entryAt_1 (by decide) rfl (fun c => ?_) (fun c => ?_)
  · refine j_null (n := 29) dX10_entryAt_28 rfl ?_
    refine j_aret none rfl dX10_entryAt_29 rfl (Or.inl ⟨_, rfl⟩) (by omega) (by omega) ⟨by rw [if_pos (Or.inl c)], rfl⟩
  · refine j_iload_n (n := 5) dX10_entryAt_4 rfl rfl ?_
    refine j_aload_n (n := 6) dX10_entryAt_5 rfl rfl ?_
    refine j_get (n := 9) 8 dX10_entryAt_6 f_X10_61 rfl rfl rfl ?_
    refine j_icmp_ge (n := 12) 28 dX10_entryAt_9 (by decide) rfl (fun c2 => ?_) (fun c2 => ?_)
    · refine j_null (n := 29) dX10_entryAt_28 rfl ?_
      refine j_aret none rfl dX10_entryAt_29 rfl (Or.inl ⟨_, rfl⟩) (by omega) (by omega) ⟨by rw [if_pos (Or.inr c2)], rfl⟩
    · have hn : ¬ (e < 0 ∨ nI (N 7) ≤ e) := fun q => q.elim c c2
      rcases ix3 e (n := N 7) (by omega) with h | h | ⟨j, hj, rfl⟩
      · exact absurd h c
      · exact absurd h c2
      · refine j_iload_n (n := 13) dX10_entryAt_12 rfl rfl ?_
        refine j_sipush (n := 16) (200) dX10_entryAt_13 rfl (by decide) ?_
        refine j_icmp_ge (n := 19) 28 dX10_entryAt_16 (by decide) rfl (fun c3 => ?_) (fun c3 => ?_)
        · exact absurd c3 (nI_ge (b := 200) (show j < 200 by omega) (by omega))
        · refine j_aload_n (n := 20) dX10_entryAt_19 rfl rfl ?_
          refine j_get (n := 23) 8 dX10_entryAt_20 f_X10_57 rfl rfl rfl ?_
          refine j_iload_n (n := 24) dX10_entryAt_23 rfl rfl ?_
          refine j_aaldE (n := 25) 20 j dX10_entryAt_24 rfl rfl rfl (by omega) (by omega) ?_
          refine j_goto 29 dX10_entryAt_25 (by decide) ?_
          refine j_aret (Ef j) rfl dX10_entryAt_29 rfl (Or.inl ⟨_, rfl⟩) (by omega) (by omega) ⟨by rw [if_neg hn, nI_clamp (by omega)], rfl⟩
theorem c_standingAt {e : Int32} (hE : ENT E T (N 7) er eo es el et) (hf : EFI E Ef) : JM G Y_X10_standingAt 1 0 0 [.ref (Q 8), .int e] (cW G Q N Z F nm Ef (poolE G T E tail)) (Qr (fun o w => w = cW G Q N Z F nm Ef (poolE G T E tail) ∧ ((stnd (N 7) es e = false ∧ o = none) ∨ (stnd (N 7) es e = true ∧ ∃ (j : Nat) (x : ER), e = nI j ∧ j < N 7 ∧ E[j]? = some x ∧ o = some x.1)))) := by
  have h7 := hE.2.1
  refine JM.of [(0, .ref (Q 8)), (1, .int e)] rfl rfl (by simp) (Nat.le_of_ble_eq_true rfl) (by decide +kernel) ?_
  refine j_aload_n (n := 1) dX10_standingAt_0 rfl rfl ?_
  refine j_iload_n (n := 2) dX10_standingAt_1 rfl rfl ?_
  refine j_callVq (n := 5) (Y1 := Y_X10_entryAt) 8 dX10_standingAt_2 m_X10_248 cy_X10_entryAt ci_X10_entryAt (c_entryAt h7) rfl rfl rfl rfl rfl (by omega) (by omega) (by omega) (Nat.le_of_ble_eq_true rfl) ?_
  by_cases hr : e < 0 ∨ nI (N 7) ≤ e
  · have hs : stnd (N 7) es e = false := by unfold stnd; rw [decide_eq_false (fun q => q hr)]; rfl
    rw [if_pos hr]
    refine j_astore_nN (n := 6) dX10_standingAt_5 rfl (by decide) ?_
    refine j_aload_nN (n := 7) dX10_standingAt_6 rfl rfl ?_
    refine j_ifnullN 21 dX10_standingAt_7 (by decide) ?_
    refine j_null (n := 22) dX10_standingAt_21 rfl ?_
    exact j_aret none rfl dX10_standingAt_22 rfl (Or.inl ⟨_, rfl⟩) (by omega) (by omega) ⟨rfl, Or.inl ⟨hs, rfl⟩⟩
  · rw [if_neg hr]
    rcases ix3 e (n := N 7) (by omega) with h | h | ⟨j, hj, rfl⟩
    · exact absurd (Or.inl h) hr
    · exact absurd (Or.inr h) hr
    · obtain ⟨x, r, h1, h2, h3, h4, h5, h6, h8, h9, h10⟩ := hE.2.2 j hj
      rw [nI_clamp (by omega), hf j x h1]
      have hst : stnd (N 7) es (nI j) = decide (¬ es j = 0) := by
        unfold stnd; rw [decide_eq_true hr, nI_clamp (by omega)]; rfl
      refine j_astore_n (n := 6) dX10_standingAt_5 rfl (by decide) ?_
      refine j_aload_n (n := 7) dX10_standingAt_6 rfl rfl ?_
      refine j_ifnull (n := 10) dX10_standingAt_7 rfl ?_
      refine j_aload_n (n := 11) dX10_standingAt_10 rfl rfl ?_
      refine j_getN (n := 14) (5 * T.length + j + 24 + 8) dX10_standingAt_11 f_X10_245 rfl (ep_get (G := G) (T := T) (tail := tail) h1) rfl ?_
      rw [h6]
      refine j_if_eq (n := 17) 21 dX10_standingAt_14 (by decide) rfl (fun c => ?_) (fun c => ?_)
      · refine j_null (n := 22) dX10_standingAt_21 rfl ?_
        exact j_aret none rfl dX10_standingAt_22 rfl (Or.inl ⟨_, rfl⟩) (by omega) (by omega) ⟨rfl, Or.inl ⟨by rw [hst, decide_eq_false (fun q => q c)], rfl⟩⟩
      · refine j_aload_n (n := 18) dX10_standingAt_17 rfl rfl ?_
        refine j_goto 22 dX10_standingAt_18 (by decide) ?_
        exact j_aret (some x.1) rfl dX10_standingAt_22 rfl (Or.inl ⟨_, rfl⟩) (by omega) (by omega) ⟨rfl, Or.inr ⟨by rw [hst, decide_eq_true c], j, x, rfl, hj, h1, rfl⟩⟩
theorem c_strike {e : Int32} (hE : ENT E T (N 7) er eo es el et) (hf : EFI E Ef) : JM G Y_X10_strike 2 0 0 [.ref (Q 8), .int e] (cW G Q N Z F nm Ef (poolE G T E tail)) (Qi (fun r w => (stnd (N 7) es e = false ∧ r = -2 ∧ w = cW G Q N Z F nm Ef (poolE G T E tail)) ∨ (stnd (N 7) es e = true ∧ r = 1 ∧ ∃ E' : List ER, w = cW G Q N Z F nm Ef (poolE G T E' tail) ∧ ENT E' T (N 7) er eo (upd es e.toNatClampNeg 0) el et ∧ EFI E' Ef))) := by
  refine JM.of [(0, .ref (Q 8)), (1, .int e)] rfl rfl (by simp) (Nat.le_of_ble_eq_true rfl) (by decide +kernel) ?_
  refine j_aload_n (n := 1) dX10_strike_0 rfl rfl ?_
  refine j_iload_n (n := 2) dX10_strike_1 rfl rfl ?_
  refine j_callVr (n := 5) (Y1 := Y_X10_standingAt) 8 dX10_strike_2 m_X10_217 cy_X10_standingAt ci_X10_standingAt (c_standingAt hE hf) rfl rfl rfl rfl rfl (by omega) (by omega) (by omega) (Nat.le_of_ble_eq_true rfl) (fun o w h => ?_)
  obtain ⟨rfl, h⟩ := h
  rcases h with ⟨hs, rfl⟩ | ⟨hs, j, x, rfl, hj, hx, rfl⟩
  · refine j_astore_nN (n := 6) dX10_strike_5 rfl (by decide) ?_
    refine j_aload_nN (n := 7) dX10_strike_6 rfl rfl ?_
    refine j_ifnonnullN (n := 10) dX10_strike_7 rfl ?_
    refine j_bipush (n := 12) (-2) dX10_strike_10 rfl (by decide) ?_
    exact j_iret dX10_strike_12 rfl rfl (by omega) (by omega) (Or.inl ⟨hs, rfl, rfl⟩)
  · refine j_astore_n (n := 6) dX10_strike_5 rfl (by decide) ?_
    refine j_aload_n (n := 7) dX10_strike_6 rfl rfl ?_
    refine j_ifnonnull 13 dX10_strike_7 (by decide) ?_
    refine j_aload_n (n := 14) dX10_strike_13 rfl rfl ?_
    refine j_iconst (n := 15) (0) dX10_strike_14 rfl (by decide) ?_
    refine j_putN (n := 18) (5 * T.length + j + 24 + 8) dX10_strike_15 f_X10_245 rfl rfl (ep_get (G := G) (T := T) (tail := tail) hx) (Nat.le_of_ble_eq_true rfl) rfl rfl ?_
    refine j_iconst (n := 19) (1) dX10_strike_18 rfl (by decide) ?_
    have e1 := ep_set (G := G) (T := T) (tail := tail) (x' := (x.1, x.2.1, x.2.2.1, x.2.2.2.1, x.2.2.2.2.1, (0 : Int32))) hx
    have h7 := hE.2.1
    refine j_iret dX10_strike_19 rfl rfl (by omega) (by omega) (Or.inr ⟨hs, rfl, E.set j (x.1, x.2.1, x.2.2.1, x.2.2.2.1, x.2.2.2.2.1, 0), ?_, ⟨by rw [List.length_set]; exact hE.1, h7, fun i hi => ?_⟩, fun i y hy => ?_⟩)
    · rw [← e1]; rfl
    · rw [nI_clamp (by omega)]
      obtain ⟨y, r, g1, g2, g3, g4, g5, g6, g7, g8, g9⟩ := hE.2.2 i hi
      by_cases ei : i = j
      · subst ei
        have : y = x := Option.some.inj (g1.symm.trans hx)
        subst this
        exact ⟨_, r, gs_eq hx, g2, g3, g4, g5, by rw [pk_us], g7, g8, Or.inl (by rw [pk_us])⟩
      · exact ⟨y, r, gs_ne (Ne.symm ei) g1, g2, g3, g4, g5, by rw [pk_un ei]; exact g6, g7, g8, by rw [pk_un ei]; exact g9⟩
    · rcases set_cases hy with ⟨a, b⟩ | ⟨-, b⟩
      · subst a; subst b; exact hf i x hx
      · exact hf i y b
def cntS (es : Nat → Int32) : Nat → Nat
  | 0 => 0
  | n + 1 => cntS es n + if es n = 0 then 0 else 1
theorem cntS_le (es : Nat → Int32) (n : Nat) : cntS es n ≤ n := by
  induction n with
  | zero => exact Nat.le_refl _
  | succ n ih => unfold cntS; split <;> omega
theorem cs_loop (hE : ENT E T (N 7) er eo es el et) (hf : EFI E Ef) : ∀ (k i : Nat), i + k = N 7 → JJ G Y_X10_countStanding 2 0 0 (Qi (fun r w => r = nI (cntS es (N 7)) ∧ w = cW G Q N Z F nm Ef (poolE G T E tail))) 4 [(0, .ref (Q 8)), (1, .int (nI (cntS es i))), (2, .int (nI i))] [] (cW G Q N Z F nm Ef (poolE G T E tail)) 0 0 := by
  have h7 := hE.2.1
  intro k
  induction k with
  | zero =>
    intro i hi
    refine j_iload_n (n := 5) dX10_countStanding_4 rfl rfl ?_
    refine j_aload_n (n := 6) dX10_countStanding_5 rfl rfl ?_
    refine j_get (n := 9) 8 dX10_countStanding_6 f_X10_61 rfl rfl rfl ?_
    refine j_icmp_ge (n := 12) 34 dX10_countStanding_9 (by decide) rfl (fun c => ?_) (fun c => ?_)
    · refine j_iload_n (n := 35) dX10_countStanding_34 rfl rfl ?_
      obtain e : i = N 7 := by omega
      subst e
      exact j_iret dX10_countStanding_35 rfl rfl (by omega) (by omega) (⟨rfl, rfl⟩)
    · exact absurd (nI_le (show N 7 ≤ i by omega) (by omega)) c
  | succ k ih =>
    intro i hi
    have hst : stnd (N 7) es (nI i) = decide (¬ es i = 0) := by
      unfold stnd; rw [decide_eq_true (p := ¬ (nI i < 0 ∨ nI (N 7) ≤ nI i)) (fun q => q.elim (nI_pos (by omega)) (nI_ge (show i < N 7 by omega) (by omega))), nI_clamp (by omega)]; rfl
    refine j_iload_n (n := 5) dX10_countStanding_4 rfl rfl ?_
    refine j_aload_n (n := 6) dX10_countStanding_5 rfl rfl ?_
    refine j_get (n := 9) 8 dX10_countStanding_6 f_X10_61 rfl rfl rfl ?_
    refine j_icmp_ge (n := 12) 34 dX10_countStanding_9 (by decide) rfl (fun c => ?_) (fun c => ?_)
    · exact absurd c (nI_ge (show i < N 7 by omega) (by omega))
    · refine j_iload_n (n := 13) dX10_countStanding_12 rfl rfl ?_
      refine j_aload_n (n := 14) dX10_countStanding_13 rfl rfl ?_
      refine j_iload_n (n := 15) dX10_countStanding_14 rfl rfl ?_
      refine j_callVr (n := 18) (Y1 := Y_X10_standingAt) 8 dX10_countStanding_15 m_X10_217 cy_X10_standingAt ci_X10_standingAt (c_standingAt hE hf) rfl rfl rfl rfl rfl (by omega) (by omega) (by omega) (Nat.le_of_ble_eq_true rfl) (fun o w h => ?_)
      obtain ⟨rfl, h⟩ := h
      rcases h with ⟨hs, rfl⟩ | ⟨hs, j, x, hj, hj2, hx, rfl⟩
      · have hz : es i = 0 := by
          rw [hst] at hs; simpa using hs
        refine j_ifnullN 25 dX10_countStanding_18 (by decide) ?_
        refine j_iconst (n := 26) (0) dX10_countStanding_25 rfl (by decide) ?_
        refine j_iadd (n := 27) dX10_countStanding_26 rfl ?_
        refine j_top (nI (cntS es (i + 1))) (by show nI (cntS es i) + 0 = nI (cntS es i + if es i = 0 then 0 else 1); rw [if_pos hz]; exact Int32.add_zero _) ?_
        refine j_istore_n (n := 28) dX10_countStanding_27 rfl (by decide) ?_
        refine j_iinc (n := 31) (nI (i + 1)) dX10_countStanding_28 rfl rfl (nI_inc i) (by decide) ?_
        refine j_goto 4 dX10_countStanding_31 (by decide) ?_
        exact ih (i + 1) (by omega)
      · have hz : ¬ es i = 0 := by
          rw [hst] at hs; simpa using hs
        refine j_ifnull (n := 21) dX10_countStanding_18 rfl ?_
        refine j_iconst (n := 22) (1) dX10_countStanding_21 rfl (by decide) ?_
        refine j_goto 26 dX10_countStanding_22 (by decide) ?_
        refine j_iadd (n := 27) dX10_countStanding_26 rfl ?_
        refine j_top (nI (cntS es (i + 1))) (by show nI (cntS es i) + 1 = nI (cntS es i + if es i = 0 then 0 else 1); rw [if_neg hz]; exact nI_1 _) ?_
        refine j_istore_n (n := 28) dX10_countStanding_27 rfl (by decide) ?_
        refine j_iinc (n := 31) (nI (i + 1)) dX10_countStanding_28 rfl rfl (nI_inc i) (by decide) ?_
        refine j_goto 4 dX10_countStanding_31 (by decide) ?_
        exact ih (i + 1) (by omega)
theorem c_countStanding (hE : ENT E T (N 7) er eo es el et) (hf : EFI E Ef) : JE G Y_X10_countStanding 2 0 0 [.ref (Q 8)] (cW G Q N Z F nm Ef (poolE G T E tail)) (nI (cntS es (N 7))) (cW G Q N Z F nm Ef (poolE G T E tail)) := by
  refine JM.of [(0, .ref (Q 8))] rfl rfl (by simp) (Nat.le_of_ble_eq_true rfl) (by decide +kernel) ?_
  refine j_iconst (n := 1) (0) dX10_countStanding_0 rfl (by decide) ?_
  refine j_istore_n (n := 2) dX10_countStanding_1 rfl (by decide) ?_
  refine j_iconst (n := 3) (0) dX10_countStanding_2 rfl (by decide) ?_
  refine j_istore_n (n := 4) dX10_countStanding_3 rfl (by decide) ?_
  exact cs_loop hE hf (N 7) 0 (by omega)
end EN1

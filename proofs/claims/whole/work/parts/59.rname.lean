/-! the reference: texts, has, scripts -/
theorem seeS_congr {hw t t' s : Nat → Int32} : ∀ k : Nat, (∀ i, i < k → t i = t' i) → seeS hw t s k = seeS hw t' s k := by
  intro k
  induction k with
  | zero => intro _; rfl
  | succ k ih => intro h; unfold seeS; rw [h k (by omega), ih (fun i hi => h i (by omega))]
theorem seeN_congr {hw t t' : Nat → Int32} {k : Nat} (h : ∀ i, i < k → t i = t' i) : seeN hw t k = seeN hw t' k := by unfold seeN; rw [seeS_congr k h]
/-- the reference's text k is t, of that length -/
def RTX (R : Nat → Nat → Int32) (k len : Nat) (t : Nat → Int32) : Prop := R 12 k = nI len ∧ len ≤ 40 ∧ 1 ≤ len ∧ (∀ i, i < len → tx R k i = t i) ∧ SGT t len
theorem SGT.sg {t : Nat → Int32} {len i : Nat} (h : SGT t len) (hi : i < len) : sgB (t i) = true := by
  obtain ⟨n, e, h1, h2⟩ := h i hi
  rw [e]; exact sg_of h1 h2
section RA
variable {G : GT} {A M : Nat → Nat} {Z : Nat → Int32} {R : Nat → Nat → Int32} {P ws : va_W}
theorem r_seeX {k len : Nat} {t : Nat → Int32} (hk : k ≤ 200) (h : RTX R k len t) : JM G Y_X11_see 1 0 0 [.ref (A 0), .int (nI k), .ref (A 13)] (rW G A M Z R P) (Qi (fun r w => r = nI (seeN (R 2) t len) ∧ ∃ f : Nat → Int32, w = rW G A M Z (va_up R 13 f) P ∧ ∀ i, i < seeN (R 2) t len → f i = seeF (R 2) t len i)) := by
  obtain ⟨h1, h2, h3, h4, h5⟩ := h
  refine (r_see13 hk h2 h1 (fun i hi => by rw [h4 i hi]; exact h5.sg hi)).imp (fun r w hw => ?_)
  obtain ⟨v, hv, e1, e2⟩ := hw
  refine ⟨v, hv, by rw [e1, seeN_congr h4], _, e2, fun i hi => ?_⟩
  rw [seeS_congr len h4]
  exact see_F (R 2) t (R 13) len i hi
theorem r_seeY {k len : Nat} {t : Nat → Int32} (hk : k ≤ 200) (h : RTX R k len t) : JM G Y_X11_see 1 0 0 [.ref (A 0), .int (nI k), .ref (A 14)] (rW G A M Z R P) (Qi (fun r w => r = nI (seeN (R 2) t len) ∧ ∃ f : Nat → Int32, w = rW G A M Z (va_up R 14 f) P ∧ ∀ i, i < seeN (R 2) t len → f i = seeF (R 2) t len i)) := by
  obtain ⟨h1, h2, h3, h4, h5⟩ := h
  refine (r_see14 hk h2 h1 (fun i hi => by rw [h4 i hi]; exact h5.sg hi)).imp (fun r w hw => ?_)
  obtain ⟨v, hv, e1, e2⟩ := hw
  refine ⟨v, hv, by rw [e1, seeN_congr h4], _, e2, fun i hi => ?_⟩
  rw [seeS_congr len h4]
  exact see_F (R 2) t (R 14) len i hi
theorem r8k (i : Nat) : (8000 : Int32) + nI i = nI (40 * 200 + i) := by rw [show (8000 : Int32) = nI (40 * 200) from rfl, nI_add]
theorem rhas_loop {len : Nat} {t : Nat → Int32} {w : Int32} (h : RTX R 200 len t) : ∀ (n i : Nat), i + n = len → (∀ j, j < i → ¬ howF (R 2) (t j) = w) → JJ G Y_X11_has 0 0 0 (Qi (fun r u => r = b01 (hasB (R 2) t len w) ∧ u = rW G A M Z R P)) 2 [(0, .ref (A 0)), (1, .int w), (2, .int (nI i))] [] (rW G A M Z R P) 0 0 := by
  obtain ⟨h1, h2, h3, h4, h5⟩ := h
  intro n
  induction n with
  | zero =>
    intro i hi hno
    obtain rfl : i = len := by omega
    have hb : hasB (R 2) t i w = false := by unfold hasB; exact any_f (fun j hj => decide_eq_false (hno j hj))
    rw [hb]
    refine j_iload_n (n := 3) dX11_has_2 rfl rfl ?_
    refine j_aload_n (n := 4) dX11_has_3 rfl rfl ?_
    refine j_get (n := 7) 0 dX11_has_4 f_X11_44 rfl rfl rfl ?_
    refine j_sipush (n := 10) (200) dX11_has_7 rfl (by decide) ?_
    refine j_iald (n := 11) 12 200 dX11_has_10 rfl rfl rfl (by omega) (by omega) ?_
    refine j_top (nI i) h1 ?_
    refine j_icmp_ge (n := 14) 41 dX11_has_11 (by decide) rfl (fun c => ?_) (fun c => ?_)
    · refine j_iconst (n := 42) (0) dX11_has_41 rfl (by decide) ?_
      exact j_iret dX11_has_42 rfl (b01_nar false) (by omega) (by omega) (⟨rfl, rfl⟩)
    · exact absurd (nI_le (Nat.le_refl i) (by omega)) c
  | succ n ih =>
    intro i hi hno
    obtain ⟨m, hm, m1, m2⟩ := h5 i (by omega)
    have hm' : R 11 (40 * 200 + i) = nI m := (h4 i (by omega)).trans hm
    refine j_iload_n (n := 3) dX11_has_2 rfl rfl ?_
    refine j_aload_n (n := 4) dX11_has_3 rfl rfl ?_
    refine j_get (n := 7) 0 dX11_has_4 f_X11_44 rfl rfl rfl ?_
    refine j_sipush (n := 10) (200) dX11_has_7 rfl (by decide) ?_
    refine j_iald (n := 11) 12 200 dX11_has_10 rfl rfl rfl (by omega) (by omega) ?_
    refine j_top (nI len) h1 ?_
    refine j_icmp_ge (n := 14) 41 dX11_has_11 (by decide) rfl (fun c => ?_) (fun c => ?_)
    · exact absurd c (nI_ge (show i < len by omega) (by omega))
    · refine j_aload_n (n := 15) dX11_has_14 rfl rfl ?_
      refine j_get (n := 18) 0 dX11_has_15 f_X11_13 rfl rfl rfl ?_
      refine j_aload_n (n := 19) dX11_has_18 rfl rfl ?_
      refine j_get (n := 22) 0 dX11_has_19 f_X11_41 rfl rfl rfl ?_
      refine j_sipush (n := 25) (8000) dX11_has_22 rfl (by decide) ?_
      refine j_iload_n (n := 26) dX11_has_25 rfl rfl ?_
      refine j_iadd (n := 27) dX11_has_26 rfl ?_
      refine j_bald (n := 28) 11 (40 * 200 + i) dX11_has_27 rfl rfl (r8k i) (by omega) (by omega) ?_
      refine j_top (nI m) hm' ?_
      refine j_iald (n := 29) 2 m dX11_has_28 rfl rfl rfl (by omega) (by omega) ?_
      refine j_iload_n (n := 30) dX11_has_29 rfl rfl ?_
      refine j_icmp_ne (n := 33) 35 dX11_has_30 (by decide) rfl (fun c2 => ?_) (fun c2 => ?_)
      · refine j_iinc (n := 38) (nI (i + 1)) dX11_has_35 rfl rfl (nI_inc i) (by decide) ?_
        refine j_goto 2 dX11_has_38 (by decide) ?_
        refine ih (i + 1) (by omega) (fun j hj => ?_)
        by_cases e : j = i
        · subst e; rw [hm, how_in m1 m2]; exact c2
        · exact hno j (by omega)
      · have hb : hasB (R 2) t len w = true := by
          unfold hasB
          exact any_t (show i < len by omega) (decide_eq_true (by rw [hm, how_in m1 m2]; exact c2))
        rw [hb]
        refine j_iconst (n := 34) (1) dX11_has_33 rfl (by decide) ?_
        exact j_iret dX11_has_34 rfl (b01_nar true) (by omega) (by omega) (⟨rfl, rfl⟩)
theorem r_has {len : Nat} {t : Nat → Int32} {w : Int32} (h : RTX R 200 len t) : JE G Y_X11_has 0 0 0 [.ref (A 0), .int w] (rW G A M Z R P) (b01 (hasB (R 2) t len w)) (rW G A M Z R P) := by
  refine JM.of [(0, .ref (A 0)), (1, .int w)] rfl rfl (by simp) (Nat.le_of_ble_eq_true rfl) (by decide +kernel) ?_
  refine j_iconst (n := 1) (0) dX11_has_0 rfl (by decide) ?_
  refine j_istore_n (n := 2) dX11_has_1 rfl (by decide) ?_
  exact rhas_loop h len 0 (by omega) (fun j hj => by omega)
theorem rsc_loop {n : Nat} {s : Nat → Int32} (hn : n ≤ 40) (hs : SGS s n) {f : Nat → Int32} (hf : ∀ i, i < n → f i = s i) : ∀ (k i : Nat), i + k = n → JJ G Y_X11_scripts 2 0 0 (Qi (fun r u => r = bitsF (R 1) s n &&& 254 ∧ ∃ f' : Nat → Int32, u = rW G A M Z (va_up R 13 f') P)) 16 [(0, .ref (A 0)), (1, .int (bitsF (R 1) s i)), (2, .int (nI n)), (3, .int (nI i))] [] (rW G A M Z (va_up R 13 f) P) 0 0 := by
  intro k
  induction k with
  | zero =>
    intro i hi
    obtain rfl : i = n := by omega
    refine j_iload_n (n := 17) dX11_scripts_16 rfl rfl ?_
    refine j_iload_n (n := 18) dX11_scripts_17 rfl rfl ?_
    refine j_icmp_ge (n := 21) 43 dX11_scripts_18 (by decide) rfl (fun c => ?_) (fun c => ?_)
    · refine j_iload_n (n := 44) dX11_scripts_43 rfl rfl ?_
      refine j_sipush (n := 47) (254) dX11_scripts_44 rfl (by decide) ?_
      refine j_iand (n := 48) dX11_scripts_47 rfl ?_
      exact j_iret dX11_scripts_48 rfl rfl (by omega) (by omega) (⟨rfl, f, rfl⟩)
    · exact absurd (nI_le (Nat.le_refl i) (by omega)) c
  | succ k ih =>
    intro i hi
    obtain ⟨m, hm, m1, m2⟩ := hs i (by omega)
    have hm' : f i = nI m := (hf i (by omega)).trans hm
    have hun : bitsF (R 1) s (i + 1) = bitsF (R 1) s i ||| ((1 : Int32) <<< (R 1 m &&& 31)) := by
      show bitsF (R 1) s i ||| ((1 : Int32) <<< (scrF (R 1) (s i) &&& 31)) = _
      rw [hm]; unfold scrF; rw [if_pos (sg_of m1 m2), nI_clamp (by omega)]
    have ih := ih (i + 1) (by omega)
    rw [hun] at ih
    refine j_iload_n (n := 17) dX11_scripts_16 rfl rfl ?_
    refine j_iload_n (n := 18) dX11_scripts_17 rfl rfl ?_
    refine j_icmp_ge (n := 21) 43 dX11_scripts_18 (by decide) rfl (fun c => ?_) (fun c => ?_)
    · exact absurd c (nI_ge (show i < n by omega) (by omega))
    · refine j_iload_n (n := 22) dX11_scripts_21 rfl rfl ?_
      refine j_iconst (n := 23) (1) dX11_scripts_22 rfl (by decide) ?_
      refine j_aload_n (n := 24) dX11_scripts_23 rfl rfl ?_
      refine j_get (n := 27) 0 dX11_scripts_24 f_X11_7 rfl rfl rfl ?_
      refine j_aload_n (n := 28) dX11_scripts_27 rfl rfl ?_
      refine j_get (n := 31) 0 dX11_scripts_28 f_X11_51 rfl rfl rfl ?_
      refine j_iload_n (n := 32) dX11_scripts_31 rfl rfl ?_
      refine j_iald (n := 33) 13 i dX11_scripts_32 rfl rfl rfl (by omega) (by omega) ?_
      refine j_top (nI m) hm' ?_
      refine j_iald (n := 34) 1 m dX11_scripts_33 rfl rfl rfl (by omega) (by omega) ?_
      refine j_ishl (n := 35) dX11_scripts_34 rfl ?_
      refine j_ior (n := 36) dX11_scripts_35 rfl ?_
      refine j_istore_n (n := 37) dX11_scripts_36 rfl (by decide) ?_
      refine j_iinc (n := 40) (nI (i + 1)) dX11_scripts_37 rfl rfl (nI_inc i) (by decide) ?_
      refine j_goto 16 dX11_scripts_40 (by decide) ?_
      exact ih
theorem r_scripts {len : Nat} {t : Nat → Int32} (h : RTX R 200 len t) : JM G Y_X11_scripts 2 0 0 [.ref (A 0)] (rW G A M Z R P) (Qi (fun r u => r = bitsS (R 1) (R 2) len t ∧ ∃ f : Nat → Int32, u = rW G A M Z (va_up R 13 f) P)) := by
  refine JM.of [(0, .ref (A 0))] rfl rfl (by simp) (Nat.le_of_ble_eq_true rfl) (by decide +kernel) ?_
  refine j_iconst (n := 1) (0) dX11_scripts_0 rfl (by decide) ?_
  refine j_istore_n (n := 2) dX11_scripts_1 rfl (by decide) ?_
  refine j_aload_n (n := 3) dX11_scripts_2 rfl rfl ?_
  refine j_sipush (n := 6) (200) dX11_scripts_3 rfl (by decide) ?_
  refine j_aload_n (n := 7) dX11_scripts_6 rfl rfl ?_
  refine j_get (n := 10) 0 dX11_scripts_7 f_X11_51 rfl rfl rfl ?_
  refine j_callVi (n := 13) (Y1 := Y_X11_see) 0 dX11_scripts_10 m_X11_162 cy_X11_see ci_X11_see (r_seeX (k := 200) (by omega) h) rfl rfl rfl rfl rfl (by omega) (by omega) (by omega) (Nat.le_of_ble_eq_true rfl) (fun z w hh => ?_)
  obtain ⟨rfl, f, rfl, hf⟩ := hh
  refine j_istore_n (n := 14) dX11_scripts_13 rfl (by decide) ?_
  refine j_iconst (n := 15) (0) dX11_scripts_14 rfl (by decide) ?_
  refine j_istore_n (n := 16) dX11_scripts_15 rfl (by decide) ?_
  have hle := seeN_le (R 2) t len
  have h2 := h.2.1
  exact rsc_loop (R := R) (by omega) (seeF_sg h.2.2.2.2) hf (seeN (R 2) t len) 0 (by omega)
theorem bc_2 : ∀ j : Fin 256, (decide (bcF (nI j.val) < 2)) = decide (nI j.val &&& (nI j.val - 1) = 0) := by decide +kernel
theorem bits_j (x : Int32) : ∃ j : Nat, j < 256 ∧ (x &&& 254) = nI j := by
  obtain ⟨j, hj, e⟩ := pk_andE (x &&& 254) (m := 255) 8 (by decide)
  refine ⟨j, by omega, ?_⟩
  rw [← e, Int32.and_assoc]
  rfl
theorem rmix_loop {b : Int32} {f : Nat → Int32} (h12 : M 12 ≤ 8) : ∀ (n i : Nat), i + n = M 12 → (∀ j, j < i → ¬ b &&& (R 10 j ^^^ (-1)) = 0) → JJ G Y_X11_isMixed 3 0 0 (Qi (fun r u => r = b01 (!(heldB (M 12) (R 10) b)) ∧ ∃ f' : Nat → Int32, u = rW G A M Z (va_up R 13 f') P)) 17 [(0, .ref (A 0)), (1, .int b), (2, .int (nI i))] [] (rW G A M Z (va_up R 13 f) P) 0 0 := by
  intro n
  induction n with
  | zero =>
    intro i hi hno
    obtain rfl : i = M 12 := by omega
    have hb : heldB (M 12) (R 10) b = false := by unfold heldB; exact any_f (fun j hj => decide_eq_false (hno j hj))
    rw [hb]
    refine j_iload_n (n := 18) dX11_isMixed_17 rfl rfl ?_
    refine j_aload_n (n := 19) dX11_isMixed_18 rfl rfl ?_
    refine j_get (n := 22) 0 dX11_isMixed_19 f_X11_141 rfl rfl rfl ?_
    refine j_icmp_ge (n := 25) 46 dX11_isMixed_22 (by decide) rfl (fun c => ?_) (fun c => ?_)
    · refine j_iconst (n := 47) (1) dX11_isMixed_46 rfl (by decide) ?_
      exact j_iret dX11_isMixed_47 rfl (b01_nar true) (by omega) (by omega) (⟨rfl, f, rfl⟩)
    · exact absurd (nI_le (Nat.le_refl _) (by omega)) c
  | succ n ih =>
    intro i hi hno
    refine j_iload_n (n := 18) dX11_isMixed_17 rfl rfl ?_
    refine j_aload_n (n := 19) dX11_isMixed_18 rfl rfl ?_
    refine j_get (n := 22) 0 dX11_isMixed_19 f_X11_141 rfl rfl rfl ?_
    refine j_icmp_ge (n := 25) 46 dX11_isMixed_22 (by decide) rfl (fun c => ?_) (fun c => ?_)
    · exact absurd c (nI_ge (show i < M 12 by omega) (by omega))
    · refine j_iload_n (n := 26) dX11_isMixed_25 rfl rfl ?_
      refine j_aload_n (n := 27) dX11_isMixed_26 rfl rfl ?_
      refine j_get (n := 30) 0 dX11_isMixed_27 f_X11_38 rfl rfl rfl ?_
      refine j_iload_n (n := 31) dX11_isMixed_30 rfl rfl ?_
      refine j_iald (n := 32) 10 i dX11_isMixed_31 rfl rfl rfl (by omega) (by omega) ?_
      refine j_iconst (n := 33) (-1) dX11_isMixed_32 rfl (by decide) ?_
      refine j_ixor (n := 34) dX11_isMixed_33 rfl ?_
      refine j_iand (n := 35) dX11_isMixed_34 rfl ?_
      refine j_if_ne (n := 38) 40 dX11_isMixed_35 (by decide) rfl (fun c2 => ?_) (fun c2 => ?_)
      · refine j_iinc (n := 43) (nI (i + 1)) dX11_isMixed_40 rfl rfl (nI_inc i) (by decide) ?_
        refine j_goto 17 dX11_isMixed_43 (by decide) ?_
        refine ih (i + 1) (by omega) (fun j hj => ?_)
        by_cases e : j = i
        · subst e; exact c2
        · exact hno j (by omega)
      · have hb : heldB (M 12) (R 10) b = true := by unfold heldB; exact any_t (show i < M 12 by omega) (decide_eq_true c2)
        rw [hb]
        refine j_iconst (n := 39) (0) dX11_isMixed_38 rfl (by decide) ?_
        exact j_iret dX11_isMixed_39 rfl (b01_nar false) (by omega) (by omega) (⟨rfl, f, rfl⟩)
theorem r_isMixed {len : Nat} {t : Nat → Int32} (h : RTX R 200 len t) (h12 : M 12 ≤ 8) : JM G Y_X11_isMixed 3 0 0 [.ref (A 0)] (rW G A M Z R P) (Qi (fun r u => r = b01 (mixB (bitsS (R 1) (R 2) len t) (M 12) (R 10)) ∧ ∃ f : Nat → Int32, u = rW G A M Z (va_up R 13 f) P)) := by
  refine JM.of [(0, .ref (A 0))] rfl rfl (by simp) (Nat.le_of_ble_eq_true rfl) (by decide +kernel) ?_
  refine j_aload_n (n := 1) dX11_isMixed_0 rfl rfl ?_
  refine j_callVi (n := 4) (Y1 := Y_X11_scripts) 0 dX11_isMixed_1 m_X11_166 cy_X11_scripts ci_X11_scripts (r_scripts h) rfl rfl rfl rfl rfl (by omega) (by omega) (by omega) (Nat.le_of_ble_eq_true rfl) (fun z w hh => ?_)
  obtain ⟨rfl, f, rfl⟩ := hh
  obtain ⟨j, hj, ej⟩ := bits_j (bitsF (R 1) (seeF (R 2) t len) (seeN (R 2) t len))
  have ej : bitsS (R 1) (R 2) len t = nI j := ej
  have hbc := bc_2 ⟨j, hj⟩
  dsimp only at hbc
  rw [ej]
  unfold mixB
  refine j_istore_n (n := 5) dX11_isMixed_4 rfl (by decide) ?_
  refine j_iload_n (n := 6) dX11_isMixed_5 rfl rfl ?_
  refine j_iload_n (n := 7) dX11_isMixed_6 rfl rfl ?_
  refine j_iconst (n := 8) (1) dX11_isMixed_7 rfl (by decide) ?_
  refine j_isub (n := 9) dX11_isMixed_8 rfl ?_
  refine j_iand (n := 10) dX11_isMixed_9 rfl ?_
  refine j_if_ne (n := 13) 15 dX11_isMixed_10 (by decide) rfl (fun c => ?_) (fun c => ?_)
  · have h1 : ¬ bcF (nI j) < 2 := by
      intro q
      rw [decide_eq_true q, decide_eq_false c] at hbc
      cases hbc
    rw [decide_eq_true h1]
    refine j_iconst (n := 16) (0) dX11_isMixed_15 rfl (by decide) ?_
    refine j_istore_n (n := 17) dX11_isMixed_16 rfl (by decide) ?_
    exact rmix_loop h12 (M 12) 0 (by omega) (fun j hj => by omega)
  · have h1 : bcF (nI j) < 2 := by
      rw [decide_eq_true c] at hbc
      exact of_decide_eq_true hbc
    rw [decide_eq_false (p := ¬ bcF (nI j) < 2) (fun q => q h1)]
    refine j_iconst (n := 14) (0) dX11_isMixed_13 rfl (by decide) ?_
    exact j_iret dX11_isMixed_14 rfl (b01_nar false) (by omega) (by omega) (⟨rfl, f, rfl⟩)
end RA

/-! the reference: find, nodeOf, node -/
abbrev rCT (M : Nat → Nat) (R : Nat → Nat → Int32) : CT := (M 4, R 4, R 5, R 6)
def pcN (n : Nat) : Prop := (33 ≤ n ∧ n ≤ 126) ∨ ∃ a b : Nat, 33 ≤ a ∧ a ≤ 126 ∧ 33 ≤ b ∧ b ≤ 126 ∧ n = 256 * a + b
theorem pcN_of {x : Int32} (h : pcB x = true) : ∃ n : Nat, x = nI n ∧ pcN n := by
  rw [pc_ref0] at h
  rw [Bool.or_eq_true, Bool.and_eq_true] at h
  rcases h with h | ⟨h1, h2⟩
  · obtain ⟨j, rfl, j1, j2⟩ := sg_nat h
    exact ⟨j, rfl, Or.inl ⟨j1, j2⟩⟩
  · obtain ⟨a, ha, a1, a2⟩ := sg_nat h1
    obtain ⟨b, hb, b1, b2⟩ := sg_nat h2
    refine ⟨256 * a + b, ?_, Or.inr ⟨a, b, a1, a2, b1, b2, rfl⟩⟩
    rw [ha, pk_mul] at hb
    have e : x = nI b + nI (a * 256) := by rw [← hb]; simp
    rw [e, nI_add]; congr 1; omega
theorem pcN_lt {n : Nat} (h : pcN n) : n < 2 ^ 31 ∧ 33 ≤ n := by
  rcases h with h | ⟨a, b, h1, h2, h3, h4, rfl⟩ <;> omega
def slt (n : Nat) : Nat := 94 * (n / 256 - 33) + n % 256 - 33
theorem pcN_c {n : Nat} (h : pcN n) : (n < 256 ∧ n - 33 < 94 ∧ 33 ≤ n) ∨ (256 ≤ n ∧ slt n < 8836 ∧ 33 ≤ n / 256 ∧ n / 256 ≤ 126 ∧ 33 ≤ n % 256 ∧ n % 256 ≤ 126) := by
  rcases h with h | ⟨a, b, h1, h2, h3, h4, rfl⟩
  · left; omega
  · right
    have e1 : (256 * a + b) / 256 = a := by omega
    have e2 : (256 * a + b) % 256 = b := by omega
    unfold slt
    rw [e1, e2]
    omega
theorem slt_inj {n m : Nat} (h1 : 33 ≤ n / 256) (h2 : 33 ≤ n % 256) (h3 : n % 256 ≤ 126) (k1 : 33 ≤ m / 256) (k2 : 33 ≤ m % 256) (k3 : m % 256 ≤ 126) (h : slt n = slt m) : n = m := by
  unfold slt at h
  omega
def ndk (o t : Nat → Int32) (n : Nat) : Int32 := if n < 256 then o (n - 33) else t (slt n)
theorem sltI {n : Nat} (h : n < 2 ^ 31) (h1 : 33 ≤ n / 256) (h2 : 33 ≤ n % 256) : (94 : Int32) * (nI n / 256 - 33) + (nI n - nI n / 256 * 256) - 33 = nI (slt n) := by
  have e1 : nI n / nI 256 = nI (n / 256) := pr_3 h
  have e2 : nI n - nI n / nI 256 * nI 256 = nI (n % 256) := pr_4 h
  have e3 : nI 94 * (nI n / nI 256 - nI 33) + (nI n - nI n / nI 256 * nI 256) - nI 33 = nI (slt n) := by
    rw [e2, e1, pk_sub h1, pk_mul, nI_add, pk_sub (by omega)]
    rfl
  exact e3
section R5
variable {G : GT} {A M : Nat → Nat} {Z : Nat → Int32} {R : Nat → Nat → Int32} {P ws : va_W}
theorem rfind_loop {x y : Int32} (h4 : M 4 ≤ 60) : ∀ (k i : Nat), i + k = M 4 → JJ G Y_X11_find 0 0 0 (Qi (fun r w => r = oI (fndA (rCT M R) x y k i) ∧ w = rW G A M Z R P)) 2 [(0, .ref (A 0)), (1, .int x), (2, .int y), (3, .int (nI i))] [] (rW G A M Z R P) 0 0 := by
  intro k
  induction k with
  | zero =>
    intro i hi
    refine j_iload_n (n := 3) dX11_find_2 rfl rfl ?_
    refine j_aload_n (n := 4) dX11_find_3 rfl rfl ?_
    refine j_get (n := 7) 0 dX11_find_4 f_X11_117 rfl rfl rfl ?_
    refine j_icmp_ge (n := 10) 58 dX11_find_7 (by decide) rfl (fun c => ?_) (fun c => ?_)
    · refine j_iconst (n := 59) (-1) dX11_find_58 rfl (by decide) ?_
      exact j_iret dX11_find_59 rfl rfl (by omega) (by omega) (⟨rfl, rfl⟩)
    · exact absurd (nI_le (show M 4 ≤ i by omega) (by omega)) c
  | succ k ih =>
    intro i hi
    have ih := ih (i + 1) (by omega)
    have hskip : mtB (rCT M R) x y i = false → JJ G Y_X11_find 0 0 0 (Qi (fun r w => r = oI (fndA (rCT M R) x y (k + 1) i) ∧ w = rW G A M Z R P)) 52 [(0, .ref (A 0)), (1, .int x), (2, .int y), (3, .int (nI i))] [] (rW G A M Z R P) 0 0 := by
      intro hm
      have e : fndA (rCT M R) x y (k + 1) i = fndA (rCT M R) x y k (i + 1) := if_neg (by rw [hm]; exact Bool.noConfusion)
      rw [e]
      refine j_iinc (n := 55) (nI (i + 1)) dX11_find_52 rfl rfl (nI_inc i) (by decide) ?_
      refine j_goto 2 dX11_find_55 (by decide) ?_
      exact ih
    have htake : mtB (rCT M R) x y i = true → JJ G Y_X11_find 0 0 0 (Qi (fun r w => r = oI (fndA (rCT M R) x y (k + 1) i) ∧ w = rW G A M Z R P)) 50 [(0, .ref (A 0)), (1, .int x), (2, .int y), (3, .int (nI i))] [] (rW G A M Z R P) 0 0 := by
      intro hm
      have e : fndA (rCT M R) x y (k + 1) i = some i := if_pos hm
      rw [e]
      refine j_iload_n (n := 51) dX11_find_50 rfl rfl ?_
      exact j_iret dX11_find_51 rfl rfl (by omega) (by omega) (⟨rfl, rfl⟩)
    have h30 : ¬ (R 4 i = x ∧ R 5 i = y) → JJ G Y_X11_find 0 0 0 (Qi (fun r w => r = oI (fndA (rCT M R) x y (k + 1) i) ∧ w = rW G A M Z R P)) 30 [(0, .ref (A 0)), (1, .int x), (2, .int y), (3, .int (nI i))] [] (rW G A M Z R P) 0 0 := by
      intro hn
      have hn' : (decide (R 4 i = x) && decide (R 5 i = y)) = false := by rw [← Bool.decide_and]; exact decide_eq_false hn
      refine j_aload_n (n := 31) dX11_find_30 rfl rfl ?_
      refine j_get (n := 34) 0 dX11_find_31 f_X11_20 rfl rfl rfl ?_
      refine j_iload_n (n := 35) dX11_find_34 rfl rfl ?_
      refine j_iald (n := 36) 4 i dX11_find_35 rfl rfl rfl (by omega) (by omega) ?_
      refine j_iload_n (n := 37) dX11_find_36 rfl rfl ?_
      refine j_icmp_ne (n := 40) 52 dX11_find_37 (by decide) rfl (fun c => ?_) (fun c => ?_)
      · exact hskip (by unfold mtB; rw [hn', decide_eq_false c]; rfl)
      · refine j_aload_n (n := 41) dX11_find_40 rfl rfl ?_
        refine j_get (n := 44) 0 dX11_find_41 f_X11_23 rfl rfl rfl ?_
        refine j_iload_n (n := 45) dX11_find_44 rfl rfl ?_
        refine j_iald (n := 46) 5 i dX11_find_45 rfl rfl rfl (by omega) (by omega) ?_
        refine j_iload_n (n := 47) dX11_find_46 rfl rfl ?_
        refine j_icmp_ne (n := 50) 52 dX11_find_47 (by decide) rfl (fun c2 => ?_) (fun c2 => ?_)
        · exact hskip (by unfold mtB; rw [hn', decide_eq_true c, decide_eq_false c2]; rfl)
        · exact htake (by unfold mtB; rw [decide_eq_true (p := R 4 i = y) c, decide_eq_true (p := R 5 i = x) c2]; simp)
    refine j_iload_n (n := 3) dX11_find_2 rfl rfl ?_
    refine j_aload_n (n := 4) dX11_find_3 rfl rfl ?_
    refine j_get (n := 7) 0 dX11_find_4 f_X11_117 rfl rfl rfl ?_
    refine j_icmp_ge (n := 10) 58 dX11_find_7 (by decide) rfl (fun c => ?_) (fun c => ?_)
    · exact absurd c (nI_ge (show i < M 4 by omega) (by omega))
    · refine j_aload_n (n := 11) dX11_find_10 rfl rfl ?_
      refine j_get (n := 14) 0 dX11_find_11 f_X11_20 rfl rfl rfl ?_
      refine j_iload_n (n := 15) dX11_find_14 rfl rfl ?_
      refine j_iald (n := 16) 4 i dX11_find_15 rfl rfl rfl (by omega) (by omega) ?_
      refine j_iload_n (n := 17) dX11_find_16 rfl rfl ?_
      refine j_icmp_ne (n := 20) 30 dX11_find_17 (by decide) rfl (fun c2 => ?_) (fun c2 => ?_)
      · exact h30 (fun q => c2 q.1)
      · refine j_aload_n (n := 21) dX11_find_20 rfl rfl ?_
        refine j_get (n := 24) 0 dX11_find_21 f_X11_23 rfl rfl rfl ?_
        refine j_iload_n (n := 25) dX11_find_24 rfl rfl ?_
        refine j_iald (n := 26) 5 i dX11_find_25 rfl rfl rfl (by omega) (by omega) ?_
        refine j_iload_n (n := 27) dX11_find_26 rfl rfl ?_
        refine j_icmp_eq (n := 30) 50 dX11_find_27 (by decide) rfl (fun c3 => ?_) (fun c3 => ?_)
        · exact htake (by unfold mtB; rw [decide_eq_true (p := R 4 i = x) c2, decide_eq_true (p := R 5 i = y) c3]; rfl)
        · exact h30 (fun q => c3 q.2)
theorem r_find {x y : Int32} (h4 : M 4 ≤ 60) : JE G Y_X11_find 0 0 0 [.ref (A 0), .int x, .int y] (rW G A M Z R P) (oI (fnd (rCT M R) x y)) (rW G A M Z R P) := by
  refine JM.of [(0, .ref (A 0)), (1, .int x), (2, .int y)] rfl rfl (by simp) (Nat.le_of_ble_eq_true rfl) (by decide +kernel) ?_
  refine j_iconst (n := 1) (0) dX11_find_0 rfl (by decide) ?_
  refine j_istore_n (n := 2) dX11_find_1 rfl (by decide) ?_
  exact rfind_loop h4 (M 4) 0 (by omega)
theorem r_nodeOf {n : Nat} (hn : pcN n) : JE G Y_X11_nodeOf 0 0 0 [.ref (A 0), .int (nI n)] (rW G A M Z R P) (ndk (R 7) (R 8) n) (rW G A M Z R P) := by
  have hl := (pcN_lt hn).1
  unfold ndk
  refine JM.of [(0, .ref (A 0)), (1, .int (nI n))] rfl rfl (by simp) (Nat.le_of_ble_eq_true rfl) (by decide +kernel) ?_
  refine j_iload_n (n := 1) dX11_nodeOf_0 rfl rfl ?_
  refine j_sipush (n := 4) (256) dX11_nodeOf_1 rfl (by decide) ?_
  rcases pcN_c hn with ⟨h1, h2, h3⟩ | ⟨h1, h2, h3, h4, h5, h6⟩
  · rw [if_pos h1]
    refine j_icmp_ge (n := 7) 19 dX11_nodeOf_4 (by decide) rfl (fun c => ?_) (fun c => ?_)
    · exact absurd c (nI_ge (b := 256) h1 (by omega))
    · refine j_aload_n (n := 8) dX11_nodeOf_7 rfl rfl ?_
      refine j_get (n := 11) 0 dX11_nodeOf_8 f_X11_29 rfl rfl rfl ?_
      refine j_iload_n (n := 12) dX11_nodeOf_11 rfl rfl ?_
      refine j_bipush (n := 14) (33) dX11_nodeOf_12 rfl (by decide) ?_
      refine j_isub (n := 15) dX11_nodeOf_14 rfl ?_
      refine j_iald (n := 16) 7 (n - 33) dX11_nodeOf_15 rfl rfl (pk_sub (b := 33) h3) h2 (by omega) ?_
      refine j_goto 44 dX11_nodeOf_16 (by decide) ?_
      exact j_iret dX11_nodeOf_44 rfl rfl (by omega) (by omega) (⟨rfl, rfl⟩)
  · rw [if_neg (by omega)]
    refine j_icmp_ge (n := 7) 19 dX11_nodeOf_4 (by decide) rfl (fun c => ?_) (fun c => ?_)
    · refine j_aload_n (n := 20) dX11_nodeOf_19 rfl rfl ?_
      refine j_get (n := 23) 0 dX11_nodeOf_20 f_X11_32 rfl rfl rfl ?_
      refine j_bipush (n := 25) (94) dX11_nodeOf_23 rfl (by decide) ?_
      refine j_iload_n (n := 26) dX11_nodeOf_25 rfl rfl ?_
      refine j_sipush (n := 29) (256) dX11_nodeOf_26 rfl (by decide) ?_
      refine j_idiv (n := 30) dX11_nodeOf_29 rfl (by decide) ?_
      refine j_bipush (n := 32) (33) dX11_nodeOf_30 rfl (by decide) ?_
      refine j_isub (n := 33) dX11_nodeOf_32 rfl ?_
      refine j_imul (n := 34) dX11_nodeOf_33 rfl ?_
      refine j_iload_n (n := 35) dX11_nodeOf_34 rfl rfl ?_
      refine j_sipush (n := 38) (256) dX11_nodeOf_35 rfl (by decide) ?_
      refine j_irem (n := 39) dX11_nodeOf_38 rfl (by decide) ?_
      refine j_iadd (n := 40) dX11_nodeOf_39 rfl ?_
      refine j_bipush (n := 42) (33) dX11_nodeOf_40 rfl (by decide) ?_
      refine j_isub (n := 43) dX11_nodeOf_42 rfl ?_
      refine j_iald (n := 44) 8 (slt n) dX11_nodeOf_43 rfl rfl (sltI hl h3 h5) h2 (by omega) ?_
      exact j_iret dX11_nodeOf_44 rfl rfl (by omega) (by omega) (⟨rfl, rfl⟩)
    · exact absurd (nI_le (a := 256) h1 hl) c
end R5

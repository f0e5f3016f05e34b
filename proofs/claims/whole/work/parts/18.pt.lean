/-! PieceTable: its eight cells come first in the world. placeOf, tell, forget, leadingSign, indexOf, addPiece -/
abbrev ptO (A : Nat → Nat) (n : Nat) (stamp closed : Int32) (m : Nat) : va_E := .inr (4, [.ref (A 1), .ref (A 2), .ref (A 3), .int (nI n), .int stamp, .int closed, .ref (A 4), .int (nI m), .ref (A 5), .ref (A 6), .ref (A 7)])
/-- confusions: how many, one, other, cost -/
abbrev CT : Type := Nat × (Nat → Int32) × (Nat → Int32) × (Nat → Int32)
def ptL (G : GT) (A : Nat → Nat) (C : CT) (stamp closed : Int32) (m : Nat) (cs la be : Nat → Int32) (Ln : Nat) (ll : Nat → Int32) : va_W :=
  [(A 0, ptO A C.1 stamp closed m), (A 1, arI G 60 C.2.1), (A 2, arI G 60 C.2.2.1), (A 3, arI G 60 C.2.2.2), (A 4, arI G 120 cs), (A 5, arI G 127 la), (A 6, arI G 120 be), (A 7, arI G Ln ll)]
def mtB (C : CT) (x y : Int32) (i : Nat) : Bool := (decide (C.2.1 i = x) && decide (C.2.2.1 i = y)) || (decide (C.2.1 i = y) && decide (C.2.2.1 i = x))
/-- the first place of the pair, from i on, k places -/
def fndA (C : CT) (x y : Int32) : Nat → Nat → Option Nat
  | 0, _ => none
  | k + 1, i => if mtB C x y i = true then some i else fndA C x y k (i + 1)
def fnd (C : CT) (x y : Int32) : Option Nat := fndA C x y C.1 0
def oI (o : Option Nat) : Int32 := match o with
  | none => -1
  | some i => nI i
theorem fndA_lt {C : CT} {x y : Int32} : ∀ (k i j : Nat), fndA C x y k i = some j → i ≤ j ∧ j < i + k := by
  intro k
  induction k with
  | zero => intro i j h; cases h
  | succ k ih =>
    intro i j h
    unfold fndA at h
    split at h
    · cases h; omega
    · have := ih (i + 1) j h; omega
def tellS (C : CT) (x y cost : Int32) : Int32 × CT × Bool := match fnd C x y with
  | some i => (C.2.2.2 i, (C.1, C.2.1, C.2.2.1, upd C.2.2.2 i cost), true)
  | none => if 60 ≤ C.1 then (-3, C, false) else (-1, (C.1 + 1, upd C.2.1 C.1 x, upd C.2.2.1 C.1 y, upd C.2.2.2 C.1 cost), true)
def forgetS (C : CT) (x y : Int32) : Int32 × CT × Bool := match fnd C x y with
  | none => (-1, C, false)
  | some i => (C.2.2.2 i, (C.1 - 1, upd C.2.1 i (C.2.1 (C.1 - 1)), upd C.2.2.1 i (C.2.2.1 (C.1 - 1)), upd C.2.2.2 i (C.2.2.2 (C.1 - 1))), true)
def ldF (x : Int32) : Int32 := if 255 < x then x >>> ((8 : Int32) &&& 31) else x
/-- the latest code below i that begins with the sign s -/
def prvF (cs : Nat → Int32) (s : Int32) : Nat → Int32
  | 0 => -1
  | i + 1 => if ldF (cs i) = s then nI i else prvF cs s i
def idxF (cs : Nat → Int32) (x : Int32) : Nat → Int32
  | 0 => -1
  | i + 1 => if cs i = x then nI i else idxF cs x i
/-- the chains of codes by their first signs -/
def CHI (cs la be : Nat → Int32) (m : Nat) : Prop := (∀ i, i < m → sgB (ldF (cs i)) = true) ∧ (∀ j, 33 ≤ j → j ≤ 126 → la j = prvF cs (nI j) m) ∧ ∀ i, i < m → be i = prvF cs (ldF (cs i)) i
theorem prvF_cases (cs : Nat → Int32) (s : Int32) : ∀ b : Nat, (prvF cs s b = -1 ∧ ∀ i, i < b → ¬ ldF (cs i) = s) ∨ ∃ j, j < b ∧ prvF cs s b = nI j ∧ ldF (cs j) = s ∧ ∀ i, j < i → i < b → ¬ ldF (cs i) = s := by
  intro b
  induction b with
  | zero => exact Or.inl ⟨rfl, fun i h => by omega⟩
  | succ b ih =>
    unfold prvF
    by_cases h : ldF (cs b) = s
    · rw [if_pos h]
      exact Or.inr ⟨b, by omega, rfl, h, fun i h1 h2 => by omega⟩
    · rw [if_neg h]
      rcases ih with ⟨h1, h2⟩ | ⟨j, h1, h2, h3, h4⟩
      · exact Or.inl ⟨h1, fun i hi => by rcases Nat.lt_or_ge i b with q | q; exact h2 i q; rw [show i = b by omega]; exact h⟩
      · exact Or.inr ⟨j, by omega, h2, h3, fun i a1 a2 => by rcases Nat.lt_or_ge i b with q | q; exact h4 i a1 q; rw [show i = b by omega]; exact h⟩
theorem prvF_upd (cs : Nat → Int32) (s x : Int32) (m : Nat) : ∀ b : Nat, b ≤ m → prvF (upd cs m x) s b = prvF cs s b := by
  intro b
  induction b with
  | zero => intro _; rfl
  | succ b ih =>
    intro h
    unfold prvF
    rw [ih (by omega), pk_un (show b ≠ m by omega)]
theorem idxF_none {cs : Nat → Int32} {x : Int32} : ∀ b : Nat, (∀ i, i < b → ¬ cs i = x) → idxF cs x b = -1 := by
  intro b
  induction b with
  | zero => intro _; rfl
  | succ b ih => intro h; unfold idxF; rw [if_neg (h b (by omega))]; exact ih (fun i hi => h i (by omega))
theorem idxF_down {cs : Nat → Int32} {x : Int32} {b : Nat} : ∀ m : Nat, b ≤ m → (∀ i, b ≤ i → i < m → ¬ cs i = x) → idxF cs x m = idxF cs x b := by
  intro m
  induction m with
  | zero => intro h _; rw [show b = 0 by omega]
  | succ m ih =>
    intro h hn
    rcases Nat.lt_or_ge b (m + 1) with q | q
    · show (if cs m = x then nI m else idxF cs x m) = _
      rw [if_neg (hn m (by omega) (by omega))]
      exact ih (by omega) (fun i a1 a2 => hn i a1 (by omega))
    · rw [show b = m + 1 by omega]
theorem idxF_cases (cs : Nat → Int32) (x : Int32) (m : Nat) : (idxF cs x m = -1 ∧ ∀ i, i < m → ¬ cs i = x) ∨ ∃ j, j < m ∧ idxF cs x m = nI j ∧ cs j = x := by
  induction m with
  | zero => exact Or.inl ⟨rfl, fun i h => by omega⟩
  | succ b ih =>
    unfold idxF
    by_cases h : cs b = x
    · rw [if_pos h]; exact Or.inr ⟨b, by omega, rfl, h⟩
    · rw [if_neg h]
      rcases ih with ⟨h1, h2⟩ | ⟨j, h1, h2, h3⟩
      · exact Or.inl ⟨h1, fun i hi => by rcases Nat.lt_or_ge i b with q | q; exact h2 i q; rw [show i = b by omega]; exact h⟩
      · exact Or.inr ⟨j, by omega, h2, h3⟩
theorem nI_nm1 {j : Nat} (h : j < 2147483648) : ¬ nI j = -1 := by
  intro q
  have e1 : (nI j).toInt = (j : Int) := nI_toInt h
  have e2 : (-1 : Int32).toInt = -1 := rfl
  rw [q, e2] at e1
  omega
section PT1
variable {G : GT} {rest : va_W} {A : Nat → Nat} {C : CT} {stamp closed : Int32} {m Ln : Nat} {cs la be ll : Nat → Int32}
theorem place_loop {x y : Int32} (hn : C.1 ≤ 60) : ∀ (k i : Nat), i + k = C.1 → JJ G Y_X4_placeOf 0 0 0 (Qi (fun r w => r = oI (fndA C x y k i) ∧ w = ptL G A C stamp closed m cs la be Ln ll ++ rest)) 2 [(0, .ref (A 0)), (1, .int x), (2, .int y), (3, .int (nI i))] [] (ptL G A C stamp closed m cs la be Ln ll ++ rest) 0 0 := by
  intro k
  induction k with
  | zero =>
    intro i hi
    refine j_iload_n (n := 3) dX4_placeOf_2 rfl rfl ?_
    refine j_aload_n (n := 4) dX4_placeOf_3 rfl rfl ?_
    refine j_get (n := 7) 0 dX4_placeOf_4 f_X4_21 rfl rfl rfl ?_
    refine j_icmp_ge (n := 10) 58 dX4_placeOf_7 (by decide) rfl (fun c => ?_) (fun c => ?_)
    · refine j_iconst (n := 59) (-1) dX4_placeOf_58 rfl (by decide) ?_
      exact j_iret dX4_placeOf_59 rfl rfl (by omega) (by omega) (⟨rfl, rfl⟩)
    · exact absurd (nI_le (show C.1 ≤ i by omega) (by omega)) c
  | succ k ih =>
    intro i hi
    have ih := ih (i + 1) (by omega)
    refine j_iload_n (n := 3) dX4_placeOf_2 rfl rfl ?_
    refine j_aload_n (n := 4) dX4_placeOf_3 rfl rfl ?_
    refine j_get (n := 7) 0 dX4_placeOf_4 f_X4_21 rfl rfl rfl ?_
    refine j_icmp_ge (n := 10) 58 dX4_placeOf_7 (by decide) rfl (fun c => ?_) (fun c => ?_)
    · exact absurd c (nI_ge (show i < C.1 by omega) (by omega))
    · refine j_aload_n (n := 11) dX4_placeOf_10 rfl rfl ?_
      refine j_get (n := 14) 0 dX4_placeOf_11 f_X4_9 rfl rfl rfl ?_
      refine j_iload_n (n := 15) dX4_placeOf_14 rfl rfl ?_
      refine j_iald (n := 16) 1 i dX4_placeOf_15 rfl rfl rfl (by omega) (by omega) ?_
      refine j_iload_n (n := 17) dX4_placeOf_16 rfl rfl ?_
      refine j_icmp_ne (n := 20) 30 dX4_placeOf_17 (by decide) rfl (fun c2 => ?_) (fun c2 => ?_)
      · refine j_aload_n (n := 31) dX4_placeOf_30 rfl rfl ?_
        refine j_get (n := 34) 0 dX4_placeOf_31 f_X4_9 rfl rfl rfl ?_
        refine j_iload_n (n := 35) dX4_placeOf_34 rfl rfl ?_
        refine j_iald (n := 36) 1 i dX4_placeOf_35 rfl rfl rfl (by omega) (by omega) ?_
        refine j_iload_n (n := 37) dX4_placeOf_36 rfl rfl ?_
        refine j_icmp_ne (n := 40) 52 dX4_placeOf_37 (by decide) rfl (fun c3 => ?_) (fun c3 => ?_)
        · have e : fndA C x y (k + 1) i = fndA C x y k (i + 1) := if_neg (by simp [mtB, c2, c3])
          rw [e]
          refine j_iinc (n := 55) (nI (i + 1)) dX4_placeOf_52 rfl rfl (nI_inc i) (by decide) ?_
          refine j_goto 2 dX4_placeOf_55 (by decide) ?_
          exact ih
        · refine j_aload_n (n := 41) dX4_placeOf_40 rfl rfl ?_
          refine j_get (n := 44) 0 dX4_placeOf_41 f_X4_15 rfl rfl rfl ?_
          refine j_iload_n (n := 45) dX4_placeOf_44 rfl rfl ?_
          refine j_iald (n := 46) 2 i dX4_placeOf_45 rfl rfl rfl (by omega) (by omega) ?_
          refine j_iload_n (n := 47) dX4_placeOf_46 rfl rfl ?_
          refine j_icmp_ne (n := 50) 52 dX4_placeOf_47 (by decide) rfl (fun c4 => ?_) (fun c4 => ?_)
          · have e : fndA C x y (k + 1) i = fndA C x y k (i + 1) := if_neg (by simp [mtB, c2, c4])
            rw [e]
            refine j_iinc (n := 55) (nI (i + 1)) dX4_placeOf_52 rfl rfl (nI_inc i) (by decide) ?_
            refine j_goto 2 dX4_placeOf_55 (by decide) ?_
            exact ih
          · have e : fndA C x y (k + 1) i = some i := if_pos (by simp [mtB, c3, c4])
            rw [e]
            refine j_iload_n (n := 51) dX4_placeOf_50 rfl rfl ?_
            exact j_iret dX4_placeOf_51 rfl rfl (by omega) (by omega) (⟨rfl, rfl⟩)
      · refine j_aload_n (n := 21) dX4_placeOf_20 rfl rfl ?_
        refine j_get (n := 24) 0 dX4_placeOf_21 f_X4_15 rfl rfl rfl ?_
        refine j_iload_n (n := 25) dX4_placeOf_24 rfl rfl ?_
        refine j_iald (n := 26) 2 i dX4_placeOf_25 rfl rfl rfl (by omega) (by omega) ?_
        refine j_iload_n (n := 27) dX4_placeOf_26 rfl rfl ?_
        refine j_icmp_eq (n := 30) 50 dX4_placeOf_27 (by decide) rfl (fun c3 => ?_) (fun c3 => ?_)
        · have e : fndA C x y (k + 1) i = some i := if_pos (by simp [mtB, c2, c3])
          rw [e]
          refine j_iload_n (n := 51) dX4_placeOf_50 rfl rfl ?_
          exact j_iret dX4_placeOf_51 rfl rfl (by omega) (by omega) (⟨rfl, rfl⟩)
        · refine j_aload_n (n := 31) dX4_placeOf_30 rfl rfl ?_
          refine j_get (n := 34) 0 dX4_placeOf_31 f_X4_9 rfl rfl rfl ?_
          refine j_iload_n (n := 35) dX4_placeOf_34 rfl rfl ?_
          refine j_iald (n := 36) 1 i dX4_placeOf_35 rfl rfl rfl (by omega) (by omega) ?_
          refine j_iload_n (n := 37) dX4_placeOf_36 rfl rfl ?_
          refine j_icmp_ne (n := 40) 52 dX4_placeOf_37 (by decide) rfl (fun c4 => ?_) (fun c4 => ?_)
          · have e : fndA C x y (k + 1) i = fndA C x y k (i + 1) := if_neg (by simp [mtB, c3, c4])
            rw [e]
            refine j_iinc (n := 55) (nI (i + 1)) dX4_placeOf_52 rfl rfl (nI_inc i) (by decide) ?_
            refine j_goto 2 dX4_placeOf_55 (by decide) ?_
            exact ih
          · refine j_aload_n (n := 41) dX4_placeOf_40 rfl rfl ?_
            refine j_get (n := 44) 0 dX4_placeOf_41 f_X4_15 rfl rfl rfl ?_
            refine j_iload_n (n := 45) dX4_placeOf_44 rfl rfl ?_
            refine j_iald (n := 46) 2 i dX4_placeOf_45 rfl rfl rfl (by omega) (by omega) ?_
            refine j_iload_n (n := 47) dX4_placeOf_46 rfl rfl ?_
            refine j_icmp_ne (n := 50) 52 dX4_placeOf_47 (by decide) rfl (fun c5 => ?_) (fun c5 => ?_)
            · have e : fndA C x y (k + 1) i = fndA C x y k (i + 1) := if_neg (by simp [mtB, c3, c5])
              rw [e]
              refine j_iinc (n := 55) (nI (i + 1)) dX4_placeOf_52 rfl rfl (nI_inc i) (by decide) ?_
              refine j_goto 2 dX4_placeOf_55 (by decide) ?_
              exact ih
            · have e : fndA C x y (k + 1) i = some i := if_pos (by simp [mtB, c4, c5])
              rw [e]
              refine j_iload_n (n := 51) dX4_placeOf_50 rfl rfl ?_
              exact j_iret dX4_placeOf_51 rfl rfl (by omega) (by omega) (⟨rfl, rfl⟩)
theorem c_placeOf {x y : Int32} (hn : C.1 ≤ 60) : JE G Y_X4_placeOf 0 0 0 [.ref (A 0), .int x, .int y] (ptL G A C stamp closed m cs la be Ln ll ++ rest) (oI (fnd C x y)) (ptL G A C stamp closed m cs la be Ln ll ++ rest) := by
  refine JM.of [(0, .ref (A 0)), (1, .int x), (2, .int y)] rfl rfl (by simp) (Nat.le_of_ble_eq_true rfl) (by decide +kernel) ?_
  refine j_iconst (n := 1) (0) dX4_placeOf_0 rfl (by decide) ?_
  refine j_istore_n (n := 2) dX4_placeOf_1 rfl (by decide) ?_
  exact place_loop hn C.1 0 (by omega)
theorem c_ptTell {x y cost : Int32} {s : Nat} (hn : C.1 ≤ 60) : JE G Y_X4_tell 1 0 0 [.ref (A 0), .int x, .int y, .int cost] (ptL G A C (nI s) closed m cs la be Ln ll ++ rest) (tellS C x y cost).1 (ptL G A (tellS C x y cost).2.1 (nI (if (tellS C x y cost).2.2 = true then s + 1 else s)) closed m cs la be Ln ll ++ rest) := by
  refine JM.of [(0, .ref (A 0)), (1, .int x), (2, .int y), (3, .int cost)] rfl rfl (by simp) (Nat.le_of_ble_eq_true rfl) (by decide +kernel) ?_
  refine j_aload_n (n := 1) dX4_tell_0 rfl rfl ?_
  refine j_iload_n (n := 2) dX4_tell_1 rfl rfl ?_
  refine j_iload_n (n := 3) dX4_tell_2 rfl rfl ?_
  refine j_callVe (n := 6) (Y1 := Y_X4_placeOf) 0 dX4_tell_3 m_X4_46 cy_X4_placeOf ci_X4_placeOf (c_placeOf hn) rfl rfl rfl rfl rfl (by omega) (by omega) (by omega) (Nat.le_of_ble_eq_true rfl) ?_
  refine j_istore (n := 8) dX4_tell_6 rfl (by decide) ?_
  refine j_iload (n := 10) dX4_tell_8 rfl rfl ?_
  refine j_iconst (n := 11) (-1) dX4_tell_10 rfl (by decide) ?_
  unfold tellS
  cases hf : fnd C x y with
  | none =>
    dsimp only [oI]
    refine j_icmp_eq (n := 14) 44 dX4_tell_11 (by decide) rfl (fun c => ?_) (fun c => absurd rfl c)
    refine j_aload_n (n := 45) dX4_tell_44 rfl rfl ?_
    refine j_get (n := 48) 0 dX4_tell_45 f_X4_21 rfl rfl rfl ?_
    refine j_bipush (n := 50) (60) dX4_tell_48 rfl (by decide) ?_
    refine j_icmp_lt (n := 53) 56 dX4_tell_50 (by decide) rfl (fun c2 => ?_) (fun c2 => ?_)
    · have hlt : C.1 < 60 := (nI_ltI (b := 60) (by omega) (by omega)).mp c2
      rw [if_neg (by omega)]
      refine j_aload_n (n := 57) dX4_tell_56 rfl rfl ?_
      refine j_get (n := 60) 0 dX4_tell_57 f_X4_9 rfl rfl rfl ?_
      refine j_aload_n (n := 61) dX4_tell_60 rfl rfl ?_
      refine j_get (n := 64) 0 dX4_tell_61 f_X4_21 rfl rfl rfl ?_
      refine j_iload_n (n := 65) dX4_tell_64 rfl rfl ?_
      refine j_iast (n := 66) 1 C.1 dX4_tell_65 rfl rfl rfl (by omega) (by omega) ?_
      refine j_aload_n (n := 67) dX4_tell_66 rfl rfl ?_
      refine j_get (n := 70) 0 dX4_tell_67 f_X4_15 rfl rfl rfl ?_
      refine j_aload_n (n := 71) dX4_tell_70 rfl rfl ?_
      refine j_get (n := 74) 0 dX4_tell_71 f_X4_21 rfl rfl rfl ?_
      refine j_iload_n (n := 75) dX4_tell_74 rfl rfl ?_
      refine j_iast (n := 76) 2 C.1 dX4_tell_75 rfl rfl rfl (by omega) (by omega) ?_
      refine j_aload_n (n := 77) dX4_tell_76 rfl rfl ?_
      refine j_get (n := 80) 0 dX4_tell_77 f_X4_18 rfl rfl rfl ?_
      refine j_aload_n (n := 81) dX4_tell_80 rfl rfl ?_
      refine j_get (n := 84) 0 dX4_tell_81 f_X4_21 rfl rfl rfl ?_
      refine j_iload_n (n := 85) dX4_tell_84 rfl rfl ?_
      refine j_iast (n := 86) 3 C.1 dX4_tell_85 rfl rfl rfl (by omega) (by omega) ?_
      refine j_aload_n (n := 87) dX4_tell_86 rfl rfl ?_
      refine j_dup (n := 88) dX4_tell_87 rfl rfl ?_
      refine j_get (n := 91) 0 dX4_tell_88 f_X4_21 rfl rfl rfl ?_
      refine j_iconst (n := 92) (1) dX4_tell_91 rfl (by decide) ?_
      refine j_iadd (n := 93) dX4_tell_92 rfl ?_
      refine j_top (nI (C.1 + 1)) (nI_1 C.1) ?_
      refine j_put (n := 96) 0 dX4_tell_93 f_X4_21 rfl rfl rfl (Nat.le_of_ble_eq_true rfl) rfl rfl ?_
      refine j_aload_n (n := 97) dX4_tell_96 rfl rfl ?_
      refine j_dup (n := 98) dX4_tell_97 rfl rfl ?_
      refine j_get (n := 101) 0 dX4_tell_98 f_X4_25 rfl rfl rfl ?_
      refine j_iconst (n := 102) (1) dX4_tell_101 rfl (by decide) ?_
      refine j_iadd (n := 103) dX4_tell_102 rfl ?_
      refine j_top (nI (s + 1)) (nI_1 s) ?_
      refine j_put (n := 106) 0 dX4_tell_103 f_X4_25 rfl rfl rfl (Nat.le_of_ble_eq_true rfl) rfl rfl ?_
      refine j_iconst (n := 107) (-1) dX4_tell_106 rfl (by decide) ?_
      exact j_iret dX4_tell_107 rfl rfl (by omega) (by omega) (⟨rfl, rfl⟩)
    · have hge : ¬ C.1 < 60 := fun h => c2 (nI_lt (b := 60) h (by omega))
      rw [if_pos (by omega)]
      refine j_bipush (n := 55) (-3) dX4_tell_53 rfl (by decide) ?_
      exact j_iret dX4_tell_55 rfl rfl (by omega) (by omega) (⟨rfl, rfl⟩)
  | some i =>
    have hi := fndA_lt _ _ _ hf
    dsimp only [oI]
    refine j_icmp_eq (n := 14) 44 dX4_tell_11 (by decide) rfl (fun c => absurd c (nI_nm1 (by omega))) (fun c => ?_)
    refine j_aload_n (n := 15) dX4_tell_14 rfl rfl ?_
    refine j_get (n := 18) 0 dX4_tell_15 f_X4_18 rfl rfl rfl ?_
    refine j_iload (n := 20) dX4_tell_18 rfl rfl ?_
    refine j_iald (n := 21) 3 i dX4_tell_20 rfl rfl rfl (by omega) (by omega) ?_
    refine j_istore (n := 23) dX4_tell_21 rfl (by decide) ?_
    refine j_aload_n (n := 24) dX4_tell_23 rfl rfl ?_
    refine j_get (n := 27) 0 dX4_tell_24 f_X4_18 rfl rfl rfl ?_
    refine j_iload (n := 29) dX4_tell_27 rfl rfl ?_
    refine j_iload_n (n := 30) dX4_tell_29 rfl rfl ?_
    refine j_iast (n := 31) 3 i dX4_tell_30 rfl rfl rfl (by omega) (by omega) ?_
    refine j_aload_n (n := 32) dX4_tell_31 rfl rfl ?_
    refine j_dup (n := 33) dX4_tell_32 rfl rfl ?_
    refine j_get (n := 36) 0 dX4_tell_33 f_X4_25 rfl rfl rfl ?_
    refine j_iconst (n := 37) (1) dX4_tell_36 rfl (by decide) ?_
    refine j_iadd (n := 38) dX4_tell_37 rfl ?_
    refine j_top (nI (s + 1)) (nI_1 s) ?_
    refine j_put (n := 41) 0 dX4_tell_38 f_X4_25 rfl rfl rfl (Nat.le_of_ble_eq_true rfl) rfl rfl ?_
    refine j_iload (n := 43) dX4_tell_41 rfl rfl ?_
    exact j_iret dX4_tell_43 rfl rfl (by omega) (by omega) (⟨rfl, rfl⟩)
theorem c_ptForget {x y : Int32} {s : Nat} (hn : C.1 ≤ 60) : JE G Y_X4_forget 1 0 0 [.ref (A 0), .int x, .int y] (ptL G A C (nI s) closed m cs la be Ln ll ++ rest) (forgetS C x y).1 (ptL G A (forgetS C x y).2.1 (nI (if (forgetS C x y).2.2 = true then s + 1 else s)) closed m cs la be Ln ll ++ rest) := by
  refine JM.of [(0, .ref (A 0)), (1, .int x), (2, .int y)] rfl rfl (by simp) (Nat.le_of_ble_eq_true rfl) (by decide +kernel) ?_
  refine j_aload_n (n := 1) dX4_forget_0 rfl rfl ?_
  refine j_iload_n (n := 2) dX4_forget_1 rfl rfl ?_
  refine j_iload_n (n := 3) dX4_forget_2 rfl rfl ?_
  refine j_callVe (n := 6) (Y1 := Y_X4_placeOf) 0 dX4_forget_3 m_X4_46 cy_X4_placeOf ci_X4_placeOf (c_placeOf hn) rfl rfl rfl rfl rfl (by omega) (by omega) (by omega) (Nat.le_of_ble_eq_true rfl) ?_
  refine j_istore_n (n := 7) dX4_forget_6 rfl (by decide) ?_
  refine j_iload_n (n := 8) dX4_forget_7 rfl rfl ?_
  refine j_iconst (n := 9) (-1) dX4_forget_8 rfl (by decide) ?_
  unfold forgetS
  cases hf : fnd C x y with
  | none =>
    dsimp only [oI]
    refine j_icmp_ne (n := 12) 14 dX4_forget_9 (by decide) rfl (fun c => absurd rfl c) (fun c => ?_)
    refine j_iconst (n := 13) (-1) dX4_forget_12 rfl (by decide) ?_
    exact j_iret dX4_forget_13 rfl rfl (by omega) (by omega) (⟨rfl, rfl⟩)
  | some i =>
    have hi := fndA_lt _ _ _ hf
    have hs : nI C.1 - 1 = nI (C.1 - 1) := by
      have := nI_sub1 (C.1 - 1); rwa [show C.1 - 1 + 1 = C.1 by omega] at this
    dsimp only [oI]
    refine j_icmp_ne (n := 12) 14 dX4_forget_9 (by decide) rfl (fun c => ?_) (fun c => absurd c (nI_nm1 (by omega)))
    refine j_aload_n (n := 15) dX4_forget_14 rfl rfl ?_
    refine j_get (n := 18) 0 dX4_forget_15 f_X4_18 rfl rfl rfl ?_
    refine j_iload_n (n := 19) dX4_forget_18 rfl rfl ?_
    refine j_iald (n := 20) 3 i dX4_forget_19 rfl rfl rfl (by omega) (by omega) ?_
    refine j_istore (n := 22) dX4_forget_20 rfl (by decide) ?_
    refine j_aload_n (n := 23) dX4_forget_22 rfl rfl ?_
    refine j_dup (n := 24) dX4_forget_23 rfl rfl ?_
    refine j_get (n := 27) 0 dX4_forget_24 f_X4_21 rfl rfl rfl ?_
    refine j_iconst (n := 28) (1) dX4_forget_27 rfl (by decide) ?_
    refine j_isub (n := 29) dX4_forget_28 rfl ?_
    refine j_top (nI (C.1 - 1)) hs ?_
    refine j_put (n := 32) 0 dX4_forget_29 f_X4_21 rfl rfl rfl (Nat.le_of_ble_eq_true rfl) rfl rfl ?_
    refine j_aload_n (n := 33) dX4_forget_32 rfl rfl ?_
    refine j_get (n := 36) 0 dX4_forget_33 f_X4_9 rfl rfl rfl ?_
    refine j_iload_n (n := 37) dX4_forget_36 rfl rfl ?_
    refine j_aload_n (n := 38) dX4_forget_37 rfl rfl ?_
    refine j_get (n := 41) 0 dX4_forget_38 f_X4_9 rfl rfl rfl ?_
    refine j_aload_n (n := 42) dX4_forget_41 rfl rfl ?_
    refine j_get (n := 45) 0 dX4_forget_42 f_X4_21 rfl rfl rfl ?_
    refine j_iald (n := 46) 1 (C.1 - 1) dX4_forget_45 rfl rfl rfl (by omega) (by omega) ?_
    refine j_iast (n := 47) 1 i dX4_forget_46 rfl rfl rfl (by omega) (by omega) ?_
    refine j_aload_n (n := 48) dX4_forget_47 rfl rfl ?_
    refine j_get (n := 51) 0 dX4_forget_48 f_X4_15 rfl rfl rfl ?_
    refine j_iload_n (n := 52) dX4_forget_51 rfl rfl ?_
    refine j_aload_n (n := 53) dX4_forget_52 rfl rfl ?_
    refine j_get (n := 56) 0 dX4_forget_53 f_X4_15 rfl rfl rfl ?_
    refine j_aload_n (n := 57) dX4_forget_56 rfl rfl ?_
    refine j_get (n := 60) 0 dX4_forget_57 f_X4_21 rfl rfl rfl ?_
    refine j_iald (n := 61) 2 (C.1 - 1) dX4_forget_60 rfl rfl rfl (by omega) (by omega) ?_
    refine j_iast (n := 62) 2 i dX4_forget_61 rfl rfl rfl (by omega) (by omega) ?_
    refine j_aload_n (n := 63) dX4_forget_62 rfl rfl ?_
    refine j_get (n := 66) 0 dX4_forget_63 f_X4_18 rfl rfl rfl ?_
    refine j_iload_n (n := 67) dX4_forget_66 rfl rfl ?_
    refine j_aload_n (n := 68) dX4_forget_67 rfl rfl ?_
    refine j_get (n := 71) 0 dX4_forget_68 f_X4_18 rfl rfl rfl ?_
    refine j_aload_n (n := 72) dX4_forget_71 rfl rfl ?_
    refine j_get (n := 75) 0 dX4_forget_72 f_X4_21 rfl rfl rfl ?_
    refine j_iald (n := 76) 3 (C.1 - 1) dX4_forget_75 rfl rfl rfl (by omega) (by omega) ?_
    refine j_iast (n := 77) 3 i dX4_forget_76 rfl rfl rfl (by omega) (by omega) ?_
    refine j_aload_n (n := 78) dX4_forget_77 rfl rfl ?_
    refine j_dup (n := 79) dX4_forget_78 rfl rfl ?_
    refine j_get (n := 82) 0 dX4_forget_79 f_X4_25 rfl rfl rfl ?_
    refine j_iconst (n := 83) (1) dX4_forget_82 rfl (by decide) ?_
    refine j_iadd (n := 84) dX4_forget_83 rfl ?_
    refine j_top (nI (s + 1)) (nI_1 s) ?_
    refine j_put (n := 87) 0 dX4_forget_84 f_X4_25 rfl rfl rfl (Nat.le_of_ble_eq_true rfl) rfl rfl ?_
    refine j_iload (n := 89) dX4_forget_87 rfl rfl ?_
    exact j_iret dX4_forget_89 rfl rfl (by omega) (by omega) (⟨rfl, rfl⟩)
theorem c_leadingSign {ws : va_W} {x : Int32} : JE G Y_X4_leadingSign 0 0 0 [.int x] ws (ldF x) ws := by
  refine JM.of [(0, .int x)] rfl rfl (by simp) (Nat.le_of_ble_eq_true rfl) (by decide +kernel) ?_
  refine j_iload_n (n := 1) dX4_leadingSign_0 rfl rfl ?_
  refine j_sipush (n := 4) (255) dX4_leadingSign_1 rfl (by decide) ?_
  refine j_icmp_le (n := 7) 14 dX4_leadingSign_4 (by decide) rfl (fun c => ?_) (fun c => ?_)
  · refine j_iload_n (n := 15) dX4_leadingSign_14 rfl rfl ?_
    exact j_iret dX4_leadingSign_15 rfl rfl (by omega) (by omega) (⟨by unfold ldF; rw [if_neg (Int32.not_lt.mpr c)], rfl⟩)
  · refine j_iload_n (n := 8) dX4_leadingSign_7 rfl rfl ?_
    refine j_bipush (n := 10) (8) dX4_leadingSign_8 rfl (by decide) ?_
    refine j_ishr (n := 11) dX4_leadingSign_10 rfl ?_
    refine j_goto 15 dX4_leadingSign_11 (by decide) ?_
    exact j_iret dX4_leadingSign_15 rfl rfl (by omega) (by omega) (⟨by unfold ldF; rw [if_pos (Int32.not_le.mp c)], rfl⟩)
theorem index_loop {x : Int32} (hC : CHI cs la be m) (hm : m ≤ 120) : ∀ (k b : Nat), b ≤ k → k ≤ m → (∀ i, b ≤ i → i < m → ¬ cs i = x) → JJ G Y_X4_indexOf 1 0 0 (Qi (fun r w => r = idxF cs x m ∧ w = ptL G A C stamp closed m cs la be Ln ll ++ rest)) 26 [(0, .ref (A 0)), (1, .int x), (3, .int (prvF cs (ldF x) b)), (4, .int (nI (m - k)))] [] (ptL G A C stamp closed m cs la be Ln ll ++ rest) 0 0 := by
  intro k
  induction k with
  | zero =>
    intro b hb hk hn
    obtain rfl : b = 0 := by omega
    refine j_iload (n := 28) dX4_indexOf_26 rfl rfl ?_
    refine j_aload_n (n := 29) dX4_indexOf_28 rfl rfl ?_
    refine j_get (n := 32) 0 dX4_indexOf_29 f_X4_34 rfl rfl rfl ?_
    refine j_icmp_ge (n := 35) 72 dX4_indexOf_32 (by decide) rfl (fun c => ?_) (fun c => ?_)
    · refine j_iconst (n := 73) (-1) dX4_indexOf_72 rfl (by decide) ?_
      exact j_iret dX4_indexOf_73 rfl rfl (by omega) (by omega) (⟨by rw [idxF_down m (Nat.zero_le _) hn]; rfl, rfl⟩)
    · exact absurd (nI_le (show m ≤ m - 0 by omega) (by omega)) c
  | succ k ih =>
    intro b hb hk hn
    rcases prvF_cases cs (ldF x) b with ⟨e, h2⟩ | ⟨j, h1, e, h3, h4⟩
    · rw [e]
      have hres : idxF cs x m = -1 := idxF_none m (fun i hi q => by
        rcases Nat.lt_or_ge i b with z | z
        · exact h2 i z (by rw [q])
        · exact hn i z hi q)
      rw [hres]
      refine j_iload (n := 28) dX4_indexOf_26 rfl rfl ?_
      refine j_aload_n (n := 29) dX4_indexOf_28 rfl rfl ?_
      refine j_get (n := 32) 0 dX4_indexOf_29 f_X4_34 rfl rfl rfl ?_
      refine j_icmp_ge (n := 35) 72 dX4_indexOf_32 (by decide) rfl (fun c => ?_) (fun c => ?_)
      · refine j_iconst (n := 73) (-1) dX4_indexOf_72 rfl (by decide) ?_
        exact j_iret dX4_indexOf_73 rfl rfl (by omega) (by omega) (⟨rfl, rfl⟩)
      · refine j_iload_n (n := 36) dX4_indexOf_35 rfl rfl ?_
        refine j_if_lt (n := 39) 72 dX4_indexOf_36 (by decide) rfl (fun c2 => ?_) (fun c2 => ?_)
        · refine j_iconst (n := 73) (-1) dX4_indexOf_72 rfl (by decide) ?_
          exact j_iret dX4_indexOf_73 rfl rfl (by omega) (by omega) (⟨rfl, rfl⟩)
        · exact absurd (by decide) c2
    · rw [e]
      have hjm : j < m := by
        rcases Nat.lt_or_ge j m with z | z
        · exact z
        · omega
      refine j_iload (n := 28) dX4_indexOf_26 rfl rfl ?_
      refine j_aload_n (n := 29) dX4_indexOf_28 rfl rfl ?_
      refine j_get (n := 32) 0 dX4_indexOf_29 f_X4_34 rfl rfl rfl ?_
      refine j_icmp_ge (n := 35) 72 dX4_indexOf_32 (by decide) rfl (fun c => ?_) (fun c => ?_)
      · exact absurd c (nI_ge (show m - (k + 1) < m by omega) (by omega))
      · refine j_iload_n (n := 36) dX4_indexOf_35 rfl rfl ?_
        refine j_if_lt (n := 39) 72 dX4_indexOf_36 (by decide) rfl (fun c2 => ?_) (fun c2 => ?_)
        · exact absurd c2 (nI_pos (by omega))
        · refine j_iload_n (n := 40) dX4_indexOf_39 rfl rfl ?_
          refine j_aload_n (n := 41) dX4_indexOf_40 rfl rfl ?_
          refine j_get (n := 44) 0 dX4_indexOf_41 f_X4_34 rfl rfl rfl ?_
          refine j_icmp_ge (n := 47) 72 dX4_indexOf_44 (by decide) rfl (fun c3 => ?_) (fun c3 => ?_)
          · exact absurd c3 (nI_ge hjm (by omega))
          · refine j_aload_n (n := 48) dX4_indexOf_47 rfl rfl ?_
            refine j_get (n := 51) 0 dX4_indexOf_48 f_X4_31 rfl rfl rfl ?_
            refine j_iload_n (n := 52) dX4_indexOf_51 rfl rfl ?_
            refine j_iald (n := 53) 4 j dX4_indexOf_52 rfl rfl rfl (by omega) (by omega) ?_
            refine j_iload_n (n := 54) dX4_indexOf_53 rfl rfl ?_
            refine j_icmp_ne (n := 57) 59 dX4_indexOf_54 (by decide) rfl (fun c4 => ?_) (fun c4 => ?_)
            · refine j_aload_n (n := 60) dX4_indexOf_59 rfl rfl ?_
              refine j_get (n := 63) 0 dX4_indexOf_60 f_X4_40 rfl rfl rfl ?_
              refine j_iload_n (n := 64) dX4_indexOf_63 rfl rfl ?_
              refine j_iald (n := 65) 6 j dX4_indexOf_64 rfl rfl rfl (by omega) (by omega) ?_
              rw [hC.2.2 j hjm, h3]
              refine j_istore_n (n := 66) dX4_indexOf_65 rfl (by decide) ?_
              refine j_iinc (n := 69) (nI ((m - (k + 1)) + 1)) dX4_indexOf_66 rfl rfl (nI_inc (m - (k + 1))) (by decide) ?_
              refine j_goto 26 dX4_indexOf_69 (by decide) ?_
              rw [show m - (k + 1) + 1 = m - k by omega]
              refine ih j (by omega) (by omega) (fun i a1 a2 q => ?_)
              rcases Nat.lt_or_ge i b with z | z
              · rcases Nat.eq_or_lt_of_le a1 with w | w
                · subst w; exact c4 q
                · exact h4 i w z (by rw [q])
              · exact hn i z a2 q
            · have hres : idxF cs x m = nI j := by
                rw [idxF_down (b := j + 1) m (by omega) (fun i a1 a2 q => ?_)]
                · unfold idxF; rw [if_pos c4]
                · rcases Nat.lt_or_ge i b with z | z
                  · exact h4 i (by omega) z (by rw [q])
                  · exact hn i z a2 q
              refine j_iload_n (n := 58) dX4_indexOf_57 rfl rfl ?_
              exact j_iret dX4_indexOf_58 rfl rfl (by omega) (by omega) (⟨hres.symm, rfl⟩)
theorem c_indexOf {x : Int32} (hC : CHI cs la be m) (hm : m ≤ 120) : JE G Y_X4_indexOf 1 0 0 [.ref (A 0), .int x] (ptL G A C stamp closed m cs la be Ln ll ++ rest) (idxF cs x m) (ptL G A C stamp closed m cs la be Ln ll ++ rest) := by
  refine JM.of [(0, .ref (A 0)), (1, .int x)] rfl rfl (by simp) (Nat.le_of_ble_eq_true rfl) (by decide +kernel) ?_
  refine j_iload_n (n := 1) dX4_indexOf_0 rfl rfl ?_
  refine j_callSe (n := 4) (Y1 := Y_X4_leadingSign) dX4_indexOf_1 m_X4_69 cy_X4_leadingSign cs_X4_leadingSign (c_leadingSign) rfl rfl rfl (by omega) (by omega) (by omega) (Nat.le_of_ble_eq_true rfl) ?_
  refine j_istore_n (n := 5) dX4_indexOf_4 rfl (by decide) ?_
  refine j_iload_n (n := 6) dX4_indexOf_5 rfl rfl ?_
  refine j_callSNe (n := 9) (Y1 := Y_X10_isSign) dX4_indexOf_6 m_X4_73 cy_X10_isSign cs_X10_isSign (c_isSign) rfl rfl rfl (by omega) (by omega) (by omega) (Nat.le_of_ble_eq_true rfl) ?_
  refine j_if_eq (n := 12) 21 dX4_indexOf_9 (by decide) rfl (fun c => ?_) (fun c => ?_)
  · have hs := b01_0 c
    refine j_iconst (n := 22) (-1) dX4_indexOf_21 rfl (by decide) ?_
    refine j_istore_n (n := 23) dX4_indexOf_22 rfl (by decide) ?_
    refine j_iconst (n := 24) (0) dX4_indexOf_23 rfl (by decide) ?_
    refine j_istore (n := 26) dX4_indexOf_24 rfl (by decide) ?_
    refine j_keep [0, 1, 3, 4] rfl ?_
    have e : idxF cs x m = -1 := idxF_none m (fun i hi q => by
      have := hC.1 i hi
      rw [q, hs] at this
      cases this)
    have e2 : prvF cs (ldF x) m = -1 := by
      rcases prvF_cases cs (ldF x) m with ⟨e, -⟩ | ⟨j, h1, -, h3, -⟩
      · exact e
      · have := hC.1 j h1
        rw [h3, hs] at this
        cases this
    have := index_loop (G := G) (rest := rest) (A := A) (C := C) (stamp := stamp) (closed := closed) (Ln := Ln) (ll := ll) (x := x) hC hm m m (Nat.le_refl _) (Nat.le_refl _) (fun i a1 a2 => by omega)
    rw [e2, Nat.sub_self] at this
    exact this
  · have hs := b01_n0 c
    obtain ⟨j, hj, hj1, hj2⟩ := sg_nat hs
    refine j_aload_n (n := 13) dX4_indexOf_12 rfl rfl ?_
    refine j_get (n := 16) 0 dX4_indexOf_13 f_X4_37 rfl rfl rfl ?_
    refine j_iload_n (n := 17) dX4_indexOf_16 rfl rfl ?_
    refine j_iald (n := 18) 5 j dX4_indexOf_17 rfl rfl hj (by omega) (by omega) ?_
    rw [hC.2.1 j hj1 hj2, ← hj]
    refine j_goto 22 dX4_indexOf_18 (by decide) ?_
    refine j_istore_n (n := 23) dX4_indexOf_22 rfl (by decide) ?_
    refine j_iconst (n := 24) (0) dX4_indexOf_23 rfl (by decide) ?_
    refine j_istore (n := 26) dX4_indexOf_24 rfl (by decide) ?_
    refine j_keep [0, 1, 3, 4] rfl ?_
    have := index_loop (G := G) (rest := rest) (A := A) (C := C) (stamp := stamp) (closed := closed) (Ln := Ln) (ll := ll) (x := x) hC hm m m (Nat.le_refl _) (Nat.le_refl _) (fun i a1 a2 => by omega)
    rw [Nat.sub_self] at this
    exact this
end PT1

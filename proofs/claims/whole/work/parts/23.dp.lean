/-! how far: the table of two texts, as numbers -/
def tbc (C : CT) (p q : Int32) : Option Nat := if idxF (nd C).1 p (nd C).2 = -1 ∨ idxF (nd C).1 q (nd C).2 = -1 then none else DD C (iN (nd C) p) (iN (nd C) q)
def chn (C : CT) (p q : Int32) : Option Nat := if p = q then some 0 else tbc C p q
def p2 (X : Nat → Int32) (i : Nat) : Int32 := 256 * X i + X (i + 1)
abbrev RT : Type := Nat → Option Nat
def rowZ (yc : Nat) : RT := fun j => if j = yc then some 0 else none
/-- the four steps: their signs of x and of y -/
def shX (sh : Nat) : Nat := if sh < 2 then 1 else 2
def shY (sh : Nat) : Nat := if sh % 2 = 0 then 1 else 2
def pcX (X : Nat → Int32) (i a : Nat) : Int32 := if a = 1 then X i else p2 X i
/-- what a step costs with what lies behind it -/
def stp (C : CT) (X Y : Nat → Int32) (i j : Nat) (r1 r2 : RT) (sh : Nat) : Option Nat := oAdd (chn C (pcX X i (shX sh)) (pcX Y j (shY sh))) ((if shX sh = 1 then r1 else r2) (j + shY sh))
def rowN (C : CT) (X Y : Nat → Int32) (i : Nat) (r1 r2 : RT) : RT := fun j => oMin (oMin (oMin (stp C X Y i j r1 r2 0) (stp C X Y i j r1 r2 1)) (stp C X Y i j r1 r2 2)) (stp C X Y i j r1 r2 3)
def tbP (C : CT) (X Y : Nat → Int32) (xc yc : Nat) : Nat → RT × RT
  | 0 => (rowZ yc, fun _ => none)
  | n + 1 => (rowN C X Y (xc - (n + 1)) (tbP C X Y xc yc n).1 (tbP C X Y xc yc n).2, (tbP C X Y xc yc n).1)
def TT (C : CT) (X Y : Nat → Int32) (xc yc i : Nat) : RT := if i ≤ xc then (tbP C X Y xc yc (xc - i)).1 else fun _ => none
section DPP
variable {C : CT} {X Y : Nat → Int32} {xc yc : Nat}
theorem tbP_2 (n : Nat) (hn : n ≤ xc) : (tbP C X Y xc yc n).2 = TT C X Y xc yc (xc - n + 1) := by
  unfold TT
  cases n with
  | zero => rw [if_neg (by omega)]; rfl
  | succ n => rw [if_pos (by omega), show xc - (xc - (n + 1) + 1) = n by omega]; rfl
theorem TT_end : TT C X Y xc yc xc = rowZ yc := by unfold TT; rw [if_pos (Nat.le_refl _), Nat.sub_self]; rfl
theorem TT_out {i : Nat} (h : xc < i) (j : Nat) : TT C X Y xc yc i j = none := by unfold TT; rw [if_neg (by omega)]
theorem TT_step {i : Nat} (h : i < xc) : TT C X Y xc yc i = rowN C X Y i (TT C X Y xc yc (i + 1)) (TT C X Y xc yc (i + 2)) := by
  have e : TT C X Y xc yc i = (tbP C X Y xc yc (xc - (i + 1) + 1)).1 := by
    unfold TT; rw [if_pos (by omega), show xc - i = xc - (i + 1) + 1 by omega]
  have e1 : TT C X Y xc yc (i + 1) = (tbP C X Y xc yc (xc - (i + 1))).1 := by unfold TT; rw [if_pos (by omega)]
  have e2 : TT C X Y xc yc (i + 2) = (tbP C X Y xc yc (xc - (i + 1))).2 := by
    rw [tbP_2 _ (by omega), show xc - (xc - (i + 1)) + 1 = i + 2 by omega]
  rw [e, e1, e2]
  show rowN C X Y (xc - (xc - (i + 1) + 1)) _ _ = _
  rw [show xc - (xc - (i + 1) + 1) = i by omega]
theorem oMin_some {x y : Option Nat} {v : Nat} (h : oMin x y = some v) : x = some v ∨ y = some v := by
  cases x with
  | none => exact Or.inr h
  | some a =>
    cases y with
    | none => exact Or.inl h
    | some b =>
      have : min a b = v := Option.some.inj h
      rcases (show min a b = a ∨ min a b = b by omega) with e | e
      · exact Or.inl (by rw [← this, e])
      · exact Or.inr (by rw [← this, e])
theorem oAdd_some {x y : Option Nat} {v : Nat} (h : oAdd x y = some v) : ∃ a b, x = some a ∧ y = some b ∧ v = a + b := by
  cases x with
  | none => cases h
  | some a =>
    cases y with
    | none => cases h
    | some b => exact ⟨a, b, rfl, rfl, (Option.some.inj h).symm⟩
theorem rowN_some {i j v : Nat} {r1 r2 : RT} (h : rowN C X Y i r1 r2 j = some v) : ∃ sh, sh < 4 ∧ stp C X Y i j r1 r2 sh = some v := by
  rcases oMin_some h with h | h
  · rcases oMin_some h with h | h
    · rcases oMin_some h with h | h
      · exact ⟨0, by omega, h⟩
      · exact ⟨1, by omega, h⟩
    · exact ⟨2, by omega, h⟩
  · exact ⟨3, by omega, h⟩
theorem sh_ab (sh : Nat) : (shX sh = 1 ∨ shX sh = 2) ∧ (shY sh = 1 ∨ shY sh = 2) := by
  unfold shX shY; constructor <;> split <;> simp
theorem stp_eq {i j sh : Nat} : stp C X Y i j (TT C X Y xc yc (i + 1)) (TT C X Y xc yc (i + 2)) sh = oAdd (chn C (pcX X i (shX sh)) (pcX Y j (shY sh))) (TT C X Y xc yc (i + shX sh) (j + shY sh)) := by
  unfold stp
  rcases (sh_ab sh).1 with e | e
  · rw [e, if_pos rfl]
  · rw [e, if_neg (by decide)]
theorem TT_some {i j v : Nat} (hi : i < xc) (h : TT C X Y xc yc i j = some v) : ∃ sh a w, sh < 4 ∧ chn C (pcX X i (shX sh)) (pcX Y j (shY sh)) = some a ∧ TT C X Y xc yc (i + shX sh) (j + shY sh) = some w ∧ v = a + w := by
  rw [TT_step hi] at h
  obtain ⟨sh, hsh, e⟩ := rowN_some h
  rw [stp_eq] at e
  obtain ⟨a, w, e1, e2, e3⟩ := oAdd_some e
  exact ⟨sh, a, w, hsh, e1, e2, e3⟩
/-- a place has a way to the ends only where steps can lead there -/
theorem TT_in : ∀ (n i j v : Nat), i + n = xc → TT C X Y xc yc i j = some v → j + n ≤ 2 * yc - j + n ∧ yc ≤ j + 2 * n ∧ n ≤ 2 * (yc - j) ∧ j ≤ yc := by
  intro n
  induction n using Nat.strongRecOn with
  | ind n ih =>
    intro i j v hi h
    rcases Nat.eq_zero_or_pos n with e | e
    · subst e
      obtain rfl : i = xc := by omega
      rw [TT_end] at h
      unfold rowZ at h
      split at h
      · omega
      · cases h
    · obtain ⟨sh, a, w, hsh, -, h2, -⟩ := TT_some (by omega) h
      obtain ⟨q1, q2⟩ := sh_ab sh
      have hle : i + shX sh ≤ xc := by
        rcases Nat.lt_or_ge xc (i + shX sh) with z | z
        · rw [TT_out z] at h2; cases h2
        · exact z
      have := ih (n - shX sh) (by omega) (i + shX sh) (j + shY sh) w (by omega) h2
      omega
theorem chn_le {p q : Int32} {v : Nat} (hok : CTok C) (h : chn C p q = some v) : v ≤ 2420 := by
  unfold chn tbc at h
  split at h
  · cases h; omega
  · split at h
    · cases h
    · exact (fw_ok hok (Nat.le_refl _)).2 _ _ _ h
theorem TT_le (hok : CTok C) : ∀ (n i j v : Nat), i + n = xc → TT C X Y xc yc i j = some v → v ≤ 2420 * n := by
  intro n
  induction n using Nat.strongRecOn with
  | ind n ih =>
    intro i j v hi h
    rcases Nat.eq_zero_or_pos n with e | e
    · subst e
      obtain rfl : i = xc := by omega
      rw [TT_end] at h
      unfold rowZ at h
      split at h
      · cases h; omega
      · cases h
    · obtain ⟨sh, a, w, hsh, h1, h2, h3⟩ := TT_some (by omega) h
      obtain ⟨q1, q2⟩ := sh_ab sh
      have hle : i + shX sh ≤ xc := by
        rcases Nat.lt_or_ge xc (i + shX sh) with z | z
        · rw [TT_out z] at h2; cases h2
        · exact z
      have a1 := ih (n - shX sh) (by omega) (i + shX sh) (j + shY sh) w (by omega) h2
      have a2 := chn_le hok h1
      omega
theorem TT_lt (hok : CTok C) (hx : xc ≤ 40) {i j v : Nat} (hi : i ≤ xc) (h : TT C X Y xc yc i j = some v) : v ≤ 96800 := by
  have := TT_le hok (xc - i) i j v (by omega) h
  omega
/-- forward: the places that steps from the beginnings can lead to -/
def FR (i j : Nat) : Prop := i ≤ 2 * j ∧ j ≤ 2 * i
theorem FR_0 : FR 0 0 := ⟨Nat.le_refl _, Nat.le_refl _⟩
theorem FR_s {i j : Nat} (sh : Nat) (h : FR i j) : FR (i + shX sh) (j + shY sh) := by
  obtain ⟨q1, q2⟩ := sh_ab sh
  unfold FR at *
  omega
/-- where two rows that follow one another lie beyond a bound, all ways do -/
theorem TT_beyond {lim i : Nat} (h1 : ∀ j v, FR i j → TT C X Y xc yc i j = some v → lim < v) (h2 : ∀ j v, FR (i + 1) j → TT C X Y xc yc (i + 1) j = some v → lim < v) (hi : i < xc) : ∀ (k i' j v : Nat), i' + k = i → FR i' j → TT C X Y xc yc i' j = some v → lim < v := by
  intro k
  induction k using Nat.strongRecOn with
  | ind k ih =>
    intro i' j v hk hF h
    rcases Nat.eq_zero_or_pos k with e | e
    · subst e
      obtain rfl : i' = i := by omega
      exact h1 j v hF h
    · obtain ⟨sh, a, w, hsh, -, g2, g3⟩ := TT_some (by omega) h
      have hF2 := FR_s sh hF
      obtain ⟨q1, q2⟩ := sh_ab sh
      rcases Nat.lt_or_ge i (i' + shX sh) with z | z
      · rw [show i' + shX sh = i + 1 by omega] at hF2 g2
        have := h2 _ w hF2 g2
        omega
      · have := ih (k - shX sh) (by omega) (i' + shX sh) (j + shY sh) w (by omega) hF2 g2
        omega
theorem oLe_min {x y z : Option Nat} (h : oMin x y = x) : oMin (oMin x z) y = oMin x z := by
  cases x <;> cases y <;> cases z <;> simp_all [oMin] <;> omega
end DPP
/-- two pieces of two signs are the same only sign by sign -/
theorem p2_inj {a b c d : Nat} (hb : b ≤ 126) (hd : d ≤ 126) (ha : a ≤ 126) (hc : c ≤ 126) (h : 256 * nI a + nI b = 256 * nI c + nI d) : a = c ∧ b = d := by
  have e1 : (256 : Int32) * nI a + nI b = nI (256 * a + b) := by rw [show (256 : Int32) = nI 256 from rfl, pk_mul, nI_add]
  have e2 : (256 : Int32) * nI c + nI d = nI (256 * c + d) := by rw [show (256 : Int32) = nI 256 from rfl, pk_mul, nI_add]
  rw [e1, e2, nI_eq (by omega) (by omega)] at h
  omega
theorem p2_ne {a b c : Nat} (hb : b ≤ 126) (ha1 : 33 ≤ a) (ha : a ≤ 126) (hc : c ≤ 126) : ¬ 256 * nI a + nI b = nI c := by
  intro h
  have e1 : (256 : Int32) * nI a + nI b = nI (256 * a + b) := by rw [show (256 : Int32) = nI 256 from rfl, pk_mul, nI_add]
  rw [e1, nI_eq (by omega) (by omega)] at h
  omega

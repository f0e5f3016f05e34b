/-! chains, as numbers: the matrix of least costs, closed step by step; no cost that is there passes 20 * (nodes + 1) -/
abbrev OM : Type := Nat → Nat → Option Nat
def oAdd (x y : Option Nat) : Option Nat := match x, y with
  | some a, some b => some (a + b)
  | _, _ => none
def oMin (x y : Option Nat) : Option Nat := match x, y with
  | none, y => y
  | some a, none => some a
  | some a, some b => some (min a b)
def fwS (D : OM) (m : Nat) : OM := fun a b => oMin (D a b) (oAdd (D a m) (D m b))
def fwN (D : OM) : Nat → OM
  | 0 => D
  | k + 1 => fwS (fwN D k) k
def up2 (D : OM) (a b : Nat) (v : Option Nat) : OM := fun i j => if i = a ∧ j = b then v else D i j
theorem oMin_self0 (x : Option Nat) : oMin x (oAdd (some 0) x) = x := by
  cases x with
  | none => rfl
  | some v => simp [oAdd, oMin]
theorem oMin_self1 (x : Option Nat) : oMin x (oAdd x (some 0)) = x := by
  cases x with
  | none => rfl
  | some v => simp [oAdd, oMin]
theorem oMin_none (x : Option Nat) : oMin x none = x := by cases x <;> rfl
theorem fwS_row {D : OM} {m j : Nat} (h : D m m = some 0) : fwS D m m j = D m j := by unfold fwS; rw [h, oMin_self0]
theorem fwS_col {D : OM} {m i : Nat} (h : D m m = some 0) : fwS D m i m = D i m := by unfold fwS; rw [h, oMin_self1]
theorem fwS_skip {D : OM} {m i j : Nat} (h : D i m = none) : fwS D m i j = D i j := by
  unfold fwS; rw [h]
  show oMin (D i j) (oAdd none (D m j)) = _
  exact oMin_none _
theorem fwS_diag {D : OM} {m i : Nat} (h : D i i = some 0) : fwS D m i i = some 0 := by
  unfold fwS; rw [h]
  cases oAdd (D i m) (D m i) with
  | none => rfl
  | some v => simp [oMin]
theorem fwN_diag {D : OM} {i : Nat} (h : D i i = some 0) : ∀ k, fwN D k i i = some 0 := by
  intro k
  induction k with
  | zero => exact h
  | succ k ih => exact fwS_diag ih
/-- a walk from a to b over the nodes of l -/
def wk (D : OM) : Nat → List Nat → Nat → Prop
  | a, [], b => D a b ≠ none
  | a, x :: l, b => D a x ≠ none ∧ wk D x l b
theorem wk_app {D : OM} {v b : Nat} : ∀ (p s : List Nat) (a : Nat), wk D a (p ++ v :: s) b ↔ wk D a p v ∧ wk D v s b := by
  intro p
  induction p with
  | nil => intro s a; exact Iff.rfl
  | cons x p ih =>
    intro s a
    show (D a x ≠ none ∧ wk D x (p ++ v :: s) b) ↔ (D a x ≠ none ∧ wk D x p v) ∧ wk D v s b
    rw [ih s x]
    exact ⟨fun h => ⟨⟨h.1, h.2.1⟩, h.2.2⟩, fun h => ⟨h.1.1, h.1.2, h.2⟩⟩
theorem oMin_ne {x y : Option Nat} (h : x ≠ none ∨ y ≠ none) : oMin x y ≠ none := by
  cases x <;> cases y <;> simp_all [oMin]
theorem fw_reach {D : OM} (hd : ∀ i, D i i = some 0) : ∀ (k n : Nat) (l : List Nat) (a b : Nat), l.length ≤ n → (∀ x ∈ l, x < k) → wk D a l b → fwN D k a b ≠ none := by
  intro k
  induction k with
  | zero =>
    intro n l a b _ hl hw
    cases l with
    | nil => exact hw
    | cons x l => exact absurd (hl x List.mem_cons_self) (by omega)
  | succ k ihk =>
    intro n
    induction n with
    | zero =>
      intro l a b hn hl hw
      have : l = [] := List.length_eq_zero_iff.mp (by omega)
      subst this
      have h0 : fwN D k a b ≠ none := ihk 0 [] a b (Nat.le_refl _) (fun x h => by cases h) hw
      exact oMin_ne (Or.inl h0)
    | succ n ihn =>
      intro l a b hn hl hw
      by_cases hk : k ∈ l
      · obtain ⟨p, s, rfl, hp⟩ := List.mem_iff_append.mp hk |>.elim (fun p h => h.elim (fun s h => (List.eq_append_cons_of_mem hk)))
        obtain ⟨w1, w2⟩ := (wk_app p s a).mp hw
        have h1 : fwN D k a k ≠ none := ihk p.length p a k (Nat.le_refl _) (fun x hx => by
          have := hl x (List.mem_append_left _ hx)
          have hne : x ≠ k := fun e => hp (e ▸ hx)
          omega) w1
        have h2 : fwN D (k + 1) k b ≠ none := ihn s k b (by simp at hn; omega) (fun x hx => hl x (List.mem_append_right _ (List.mem_cons_of_mem _ hx))) w2
        have h3 : fwN D k k b ≠ none := by
          intro e
          apply h2
          show fwS (fwN D k) k k b = none
          rw [fwS_row (fwN_diag (hd k) k), e]
        refine oMin_ne (Or.inr ?_)
        cases e1 : fwN D k a k with
        | none => exact absurd e1 h1
        | some u =>
          cases e2 : fwN D k k b with
          | none => exact absurd e2 h3
          | some w => simp [oAdd]
      · have h0 : fwN D k a b ≠ none := ihk l.length l a b (Nat.le_refl _) (fun x hx => by
          have := hl x hx
          have hne : x ≠ k := fun e => hk (e ▸ hx)
          omega) hw
        exact oMin_ne (Or.inl h0)
theorem nodup_len : ∀ (k : Nat) (l : List Nat), l.Nodup → (∀ x ∈ l, x < k) → l.length ≤ k := by
  intro k
  induction k with
  | zero =>
    intro l _ h
    cases l with
    | nil => exact Nat.le_refl _
    | cons x l => exact absurd (h x List.mem_cons_self) (by omega)
  | succ k ih =>
    intro l hn h
    have h1 : (l.erase k).length ≤ k := ih (l.erase k) (hn.erase k) (fun x hx => by
      have h2 := h x (List.mem_of_mem_erase hx)
      have h3 : x ≠ k := fun e => by subst e; exact (List.Nodup.not_mem_erase hn) hx
      omega)
    by_cases hk : k ∈ l
    · have := List.length_erase_of_mem hk
      omega
    · rw [List.erase_of_not_mem hk] at h1
      omega
theorem fw_bound {D : OM} (hd : ∀ i, D i i = some 0) {B : Nat} (hB : ∀ i j v, D i j = some v → v ≤ B) : ∀ (k a b v : Nat), fwN D k a b = some v → ∃ l : List Nat, l.Nodup ∧ (∀ x ∈ l, x < k) ∧ wk D a l b ∧ v ≤ B * (l.length + 1) := by
  intro k
  induction k with
  | zero =>
    intro a b v h
    exact ⟨[], List.nodup_nil, fun x hx => (by cases hx), (by show D a b ≠ none; rw [show D a b = some v from h]; exact fun e => (by cases e)), by simpa using hB a b v h⟩
  | succ k ih =>
    intro a b v h
    have hs : oMin (fwN D k a b) (oAdd (fwN D k a k) (fwN D k k b)) = some v := h
    cases e0 : fwN D k a b with
    | some u =>
      obtain ⟨l, h1, h2, h3, h4⟩ := ih a b u e0
      refine ⟨l, h1, fun x hx => by have := h2 x hx; omega, h3, ?_⟩
      rw [e0] at hs
      have : v ≤ u := by
        cases e1 : oAdd (fwN D k a k) (fwN D k k b) with
        | none => rw [e1] at hs; cases hs; exact Nat.le_refl _
        | some w => rw [e1] at hs; cases hs; exact Nat.min_le_left _ _
      omega
    | none =>
      rw [e0] at hs
      cases e1 : fwN D k a k with
      | none => rw [e1] at hs; cases hs
      | some u =>
        cases e2 : fwN D k k b with
        | none => rw [e1, e2] at hs; cases hs
        | some w =>
          rw [e1, e2] at hs
          have hv : v = u + w := by cases hs; rfl
          obtain ⟨l1, p1, p2, p3, p4⟩ := ih a k u e1
          obtain ⟨l2, q1, q2, q3, q4⟩ := ih k b w e2
          have hdis : ∀ x ∈ l1, x ∉ l2 := by
            intro x hx1 hx2
            obtain ⟨s1, t1, rfl⟩ := List.append_of_mem hx1
            obtain ⟨s2, t2, rfl⟩ := List.append_of_mem hx2
            have w1 := ((wk_app s1 t1 a).mp p3).1
            have w2 := ((wk_app s2 t2 k).mp q3).2
            have w3 : wk D a (s1 ++ x :: t2) b := (wk_app s1 t2 a).mpr ⟨w1, w2⟩
            refine fw_reach hd k _ (s1 ++ x :: t2) a b (Nat.le_refl _) (fun y hy => ?_) w3 e0
            rcases List.mem_append.mp hy with hy | hy
            · exact p2 y (List.mem_append_left _ hy)
            · exact q2 y (List.mem_append_right _ hy)
          refine ⟨l1 ++ k :: l2, ?_, ?_, (wk_app l1 l2 a).mpr ⟨p3, q3⟩, ?_⟩
          · refine List.nodup_append.mpr ⟨p1, List.nodup_cons.mpr ⟨fun hk => by have := q2 k hk; omega, q1⟩, fun x hx y hy e => ?_⟩
            subst e
            rcases List.mem_cons.mp hy with e | hy
            · subst e; have := p2 _ hx; omega
            · exact hdis x hx hy
          · intro x hx
            rcases List.mem_append.mp hx with hx | hx
            · have := p2 x hx; omega
            · rcases List.mem_cons.mp hx with e | hx
              · omega
              · have := q2 x hx; omega
          · rw [hv, List.length_append, List.length_cons]
            have : B * (l1.length + (l2.length + 1) + 1) = B * (l1.length + 1) + B * (l2.length + 1) := by
              rw [← Nat.mul_add]; congr 1; omega
            omega
theorem fw_le {D : OM} (hd : ∀ i, D i i = some 0) (hB : ∀ i j v, D i j = some v → v ≤ 20) {k a b v : Nat} (hk : k ≤ 120) (h : fwN D k a b = some v) : v ≤ 2420 := by
  obtain ⟨l, h1, h2, -, h4⟩ := fw_bound hd hB k a b v h
  have h5 := nodup_len k l h1 h2
  omega
/-- a matrix in a row of ints: F stands for 'no chain' -/
def ec (F : Nat) (o : Option Nat) : Int32 := match o with
  | none => nI F
  | some v => nI v
def MX (F S m : Nat) (ll : Nat → Int32) (M : OM) : Prop := ∀ i j, i < m → j < m → ll (S * i + j) = ec F (M i j)
theorem mx_inj {S i j a b : Nat} (h1 : j < S) (h2 : b < S) (h : S * i + j = S * a + b) : i = a ∧ j = b := by
  have hS : 0 < S := by omega
  have e1 : (S * i + j) / S = i := by rw [Nat.mul_add_div hS, Nat.div_eq_of_lt h1, Nat.add_zero]
  have e2 : (S * a + b) / S = a := by rw [Nat.mul_add_div hS, Nat.div_eq_of_lt h2, Nat.add_zero]
  have e3 : i = a := by rw [← e1, ← e2, h]
  subst e3
  exact ⟨rfl, by omega⟩
theorem MX.put {F S m a b : Nat} {ll : Nat → Int32} {M : OM} {x : Int32} {v : Option Nat} (h : MX F S m ll M) (hS : m ≤ S) (hb : b < m) (hv : x = ec F v) : MX F S m (upd ll (S * a + b) x) (up2 M a b v) := by
  intro i j hi hj
  unfold up2
  by_cases e : i = a ∧ j = b
  · rw [if_pos e, e.1, e.2, pk_us, hv]
  · rw [if_neg e, pk_un (fun q => e (mx_inj (by omega) (by omega) q)), h i j hi hj]
theorem MX.congr {F S m : Nat} {ll : Nat → Int32} {M M' : OM} (h : MX F S m ll M) (he : ∀ i j, i < m → j < m → M i j = M' i j) : MX F S m ll M' := fun i j hi hj => by rw [h i j hi hj, he i j hi hj]
/-- rows below f, and of row f the places below t, are done -/
def mixM (D : OM) (o f t : Nat) : OM := fun i j => if i < f ∨ (i = f ∧ j < t) then fwS D o i j else D i j
theorem mixM_0 (D : OM) (o : Nat) : mixM D o 0 0 = D := by
  funext i j; unfold mixM; rw [if_neg (by omega)]
theorem mixM_row {D : OM} {o f t j : Nat} (h : D o o = some 0) : mixM D o f t o j = D o j := by
  unfold mixM; split
  · exact fwS_row h
  · rfl
theorem mixM_col {D : OM} {o f t i : Nat} (h : D o o = some 0) : mixM D o f t i o = D i o := by
  unfold mixM; split
  · exact fwS_col h
  · rfl
theorem mixM_at {D : OM} {o f t : Nat} : mixM D o f t f t = D f t := by
  unfold mixM; rw [if_neg (by omega)]
theorem mixM_s {D : OM} {o f t i j : Nat} : mixM D o f (t + 1) i j = up2 (mixM D o f t) f t (fwS D o f t) i j := by
  unfold up2
  by_cases e : i = f ∧ j = t
  · rw [if_pos e, e.1, e.2]; unfold mixM; rw [if_pos (by omega)]
  · rw [if_neg e]; unfold mixM
    by_cases h : i < f ∨ (i = f ∧ j < t)
    · rw [if_pos h, if_pos (by omega)]
    · rw [if_neg h, if_neg (by omega)]
theorem mixM_same {D : OM} {o f t i j : Nat} (h : fwS D o f t = D f t) : mixM D o f (t + 1) i j = mixM D o f t i j := by
  rw [mixM_s]; unfold up2
  by_cases e : i = f ∧ j = t
  · rw [if_pos e, e.1, e.2, h, mixM_at]
  · rw [if_neg e]
theorem mixM_next {D : OM} {o f m i j : Nat} (hj : j < m) : mixM D o f m i j = mixM D o (f + 1) 0 i j := by
  unfold mixM
  by_cases h : i < f ∨ (i = f ∧ j < m)
  · rw [if_pos h, if_pos (by omega)]
  · rw [if_neg h, if_neg (by omega)]
theorem mixM_skip {D : OM} {o f i j : Nat} (h : ∀ t, fwS D o f t = D f t) : mixM D o f 0 i j = mixM D o (f + 1) 0 i j := by
  unfold mixM
  by_cases e : i = f
  · subst e; rw [if_neg (by omega), if_pos (by omega), h]
  · by_cases h2 : i < f
    · rw [if_pos (Or.inl h2), if_pos (by omega)]
    · rw [if_neg (by omega), if_neg (by omega)]
theorem mixM_end {D : OM} {o m i j : Nat} (hi : i < m) : mixM D o m 0 i j = fwS D o i j := by
  unfold mixM; rw [if_pos (by omega)]

/-! nodes and first matrix of the confusions; PieceTable: writeSteps, closeChains, countPieces, the constructor -/
abbrev NQ : Type := (Nat → Int32) × Nat
def ndAdd (x : Int32) (q : NQ) : NQ := if idxF q.1 x q.2 = -1 then (upd q.1 q.2 x, q.2 + 1) else q
def ndS (C : CT) : Nat → NQ
  | 0 => (fun _ => 0, 0)
  | k + 1 => ndAdd (C.2.2.1 k) (ndAdd (C.2.1 k) (ndS C k))
def nd (C : CT) : NQ := ndS C C.1
def iN (q : NQ) (x : Int32) : Nat := (idxF q.1 x q.2).toNatClampNeg
def d0 : OM := fun i j => if i = j then some 0 else none
def dS (C : CT) (q : NQ) : Nat → OM
  | 0 => d0
  | k + 1 => up2 (up2 (dS C q k) (iN q (C.2.1 k)) (iN q (C.2.2.1 k)) (some (C.2.2.2 k).toNatClampNeg)) (iN q (C.2.2.1 k)) (iN q (C.2.1 k)) (some (C.2.2.2 k).toNatClampNeg)
def DD (C : CT) : OM := fwN (dS C (nd C) C.1) (nd C).2
def CTok (C : CT) : Prop := C.1 ≤ 60 ∧ ∀ k, k < C.1 → pcB (C.2.1 k) = true ∧ pcB (C.2.2.1 k) = true ∧ ¬ C.2.1 k = C.2.2.1 k ∧ ∃ c : Nat, c ≤ 20 ∧ C.2.2.2 k = nI c
theorem idxF_congr {cs cs' : Nat → Int32} {x : Int32} : ∀ m : Nat, (∀ i, i < m → cs i = cs' i) → idxF cs x m = idxF cs' x m := by
  intro m
  induction m with
  | zero => intro _; rfl
  | succ m ih =>
    intro h
    unfold idxF
    rw [h m (by omega), ih (fun i hi => h i (by omega))]
def ndIn (x : Int32) (q : NQ) : Prop := ∃ i, i < q.2 ∧ q.1 i = x
theorem ndIn_idx {x : Int32} {q : NQ} (h : ndIn x q) : ∃ j, j < q.2 ∧ idxF q.1 x q.2 = nI j ∧ q.1 j = x := by
  rcases idxF_cases q.1 x q.2 with ⟨-, h2⟩ | h2
  · obtain ⟨i, hi, e⟩ := h; exact absurd e (h2 i hi)
  · exact h2
theorem ndAdd_in (x : Int32) (q : NQ) (hq : q.2 < 2147483648) : ndIn x (ndAdd x q) := by
  unfold ndAdd
  split
  · exact ⟨q.2, by dsimp only; omega, pk_us⟩
  · next h =>
    rcases idxF_cases q.1 x q.2 with ⟨h1, -⟩ | ⟨j, hj, -, e⟩
    · exact absurd h1 h
    · exact ⟨j, hj, e⟩
theorem ndAdd_keep {x y : Int32} {q : NQ} (h : ndIn y q) : ndIn y (ndAdd x q) := by
  unfold ndAdd
  split
  · obtain ⟨i, hi, e⟩ := h
    exact ⟨i, by dsimp only; omega, by dsimp only; rw [pk_un (by omega)]; exact e⟩
  · exact h
theorem ndAdd_le (x : Int32) (q : NQ) : q.2 ≤ (ndAdd x q).2 ∧ (ndAdd x q).2 ≤ q.2 + 1 := by
  unfold ndAdd; split
  · exact ⟨by dsimp only; omega, by dsimp only; omega⟩
  · omega
theorem ndS_le (C : CT) (k : Nat) : (ndS C k).2 ≤ 2 * k := by
  induction k with
  | zero => exact Nat.le_refl _
  | succ k ih =>
    have h1 := ndAdd_le (C.2.1 k) (ndS C k)
    have h2 := ndAdd_le (C.2.2.1 k) (ndAdd (C.2.1 k) (ndS C k))
    show (ndAdd (C.2.2.1 k) (ndAdd (C.2.1 k) (ndS C k))).2 ≤ _
    omega
theorem ndS_in (C : CT) (k : Nat) (hk : k ≤ 60) : ∀ j, j < k → ndIn (C.2.1 j) (ndS C k) ∧ ndIn (C.2.2.1 j) (ndS C k) := by
  induction k with
  | zero => intro j h; omega
  | succ k ih =>
    intro j hj
    have hl := ndS_le C k
    have h1 := ndAdd_le (C.2.1 k) (ndS C k)
    show ndIn _ (ndAdd (C.2.2.1 k) (ndAdd (C.2.1 k) (ndS C k))) ∧ ndIn _ (ndAdd (C.2.2.1 k) (ndAdd (C.2.1 k) (ndS C k)))
    rcases Nat.lt_or_ge j k with q | q
    · have := ih (by omega) j q
      exact ⟨ndAdd_keep (ndAdd_keep this.1), ndAdd_keep (ndAdd_keep this.2)⟩
    · obtain rfl : j = k := by omega
      exact ⟨ndAdd_keep (ndAdd_in _ _ (by omega)), ndAdd_in _ _ (by omega)⟩
theorem nd_le {C : CT} (h : CTok C) : (nd C).2 ≤ 120 := by
  have := ndS_le C C.1
  have h1 := h.1
  unfold nd
  omega
theorem iN_lt {q : NQ} {x : Int32} (hq : q.2 ≤ 120) (h : ndIn x q) : iN q x < q.2 ∧ q.1 (iN q x) = x ∧ idxF q.1 x q.2 = nI (iN q x) := by
  obtain ⟨j, hj, e, e2⟩ := ndIn_idx h
  have : iN q x = j := by unfold iN; rw [e, nI_clamp (by omega)]
  rw [this]
  exact ⟨hj, e2, e⟩
theorem dS_diag {C : CT} (h : CTok C) : ∀ k, k ≤ C.1 → ∀ i, dS C (nd C) k i i = some 0 := by
  intro k
  induction k with
  | zero => intro _ i; show (if i = i then some 0 else none) = _; rw [if_pos rfl]
  | succ k ih =>
    intro hk i
    have h0 := h.1
    have hl := nd_le h
    obtain ⟨g1, g2⟩ := ndS_in C C.1 h.1 k (by omega)
    have i1 := (iN_lt (q := nd C) hl g1).2.1
    have i2 := (iN_lt (q := nd C) hl g2).2.1
    have hne : ¬ iN (nd C) (C.2.1 k) = iN (nd C) (C.2.2.1 k) := by
      intro e
      rw [e, i2] at i1
      exact (h.2 k (by omega)).2.2.1 i1.symm
    show up2 (up2 (dS C (nd C) k) _ _ _) _ _ _ i i = _
    unfold up2
    rw [if_neg (by intro q; exact hne (q.2.symm.trans q.1)), if_neg (by intro q; exact hne (q.1.symm.trans q.2))]
    exact ih (by omega) i
theorem dS_le {C : CT} (h : CTok C) : ∀ k, k ≤ C.1 → ∀ i j v, dS C (nd C) k i j = some v → v ≤ 20 := by
  intro k
  induction k with
  | zero =>
    intro _ i j v e
    have e : (if i = j then some 0 else none) = some v := e
    split at e
    · cases e; omega
    · cases e
  | succ k ih =>
    intro hk i j v e
    obtain ⟨-, -, -, c, hc, ec⟩ := h.2 k (by omega)
    have hcc : (C.2.2.2 k).toNatClampNeg = c := by rw [ec, nI_clamp (by omega)]
    have e : up2 (up2 (dS C (nd C) k) _ _ (some (C.2.2.2 k).toNatClampNeg)) _ _ (some (C.2.2.2 k).toNatClampNeg) i j = some v := e
    unfold up2 at e
    rw [hcc] at e
    split at e
    · cases e; exact hc
    · split at e
      · cases e; exact hc
      · exact ih (by omega) i j v e
theorem fw_ok {C : CT} (h : CTok C) {k : Nat} (hk : k ≤ (nd C).2) : (∀ i, fwN (dS C (nd C) C.1) k i i = some 0) ∧ ∀ i j v, fwN (dS C (nd C) C.1) k i j = some v → v ≤ 2420 :=
  ⟨fun i => fwN_diag (dS_diag h C.1 (Nat.le_refl _) i) k, fun _ _ _ e => fw_le (dS_diag h C.1 (Nat.le_refl _)) (dS_le h C.1 (Nat.le_refl _)) (Nat.le_trans hk (nd_le h)) e⟩
def newLn (m Ln : Nat) : Nat := if Ln < m * m then max (m * m) (min (2 * Ln) 14400) else Ln
/-- what is true of a closed table -/
def CLO (C : CT) (m : Nat) (cs la be : Nat → Int32) (Ln : Nat) (ll : Nat → Int32) : Prop := m = (nd C).2 ∧ (∀ i, i < m → cs i = (nd C).1 i) ∧ CHI cs la be m ∧ m * m ≤ Ln ∧ MX 536870912 m m ll (DD C)
theorem pc_lead {x : Int32} (h : pcB x = true) : ∃ s : Nat, ldF x = nI s ∧ 33 ≤ s ∧ s ≤ 126 := by
  unfold pcB at h
  unfold ldF
  by_cases hx : 255 < x
  · rw [if_pos hx]
    have h1 : sgB x = false := sgB_f2 (Int32.lt_trans (by decide) hx)
    rw [h1] at h
    simp at h
    obtain ⟨j, e, a, b⟩ := sg_nat h.1
    exact ⟨j, e, a, b⟩
  · rw [if_neg hx]
    by_cases hs : sgB x = true
    · exact sg_nat hs
    · have hs' : sgB x = false := by simpa using hs
      rw [hs'] at h
      simp at h
      obtain ⟨j, e, a, b⟩ := sg_nat h.1
      exfalso
      apply hx
      have e1 : (x >>> ((8 : Int32) &&& 31)).toInt = x.toInt >>> 8 := pk_shr x (8 &&& 31) 8 (by decide)
      have e0 : x >>> (8 : Int32) = x >>> ((8 : Int32) &&& 31) := by rfl
      rw [show x >>> ((8 : Int32) &&& 31) = nI j from e, nI_toInt (by omega)] at e1
      have e2 : x.toInt >>> 8 = x.toInt / 256 := by rw [Int.shiftRight_eq_div_pow]; rfl
      rw [e2] at e1
      apply Int32.lt_iff_toInt_lt.mpr
      show (255 : Int) < x.toInt
      omega
theorem jw_move {G : GT} {ws : va_W} {H : Heap} {y : Nat × va_E} (k : Nat) (h : JW G (ws ++ [y]) H) : JW G (ws.set k y) H := by
  have key : ∀ (i : Nat) (q : Nat × va_E), (ws.set k y)[i]? = some q → (i ≠ k ∧ ws[i]? = some q ∧ (ws ++ [y])[i]? = some q) ∨ (i = k ∧ q = y ∧ (ws ++ [y])[ws.length]? = some q ∧ i < ws.length) := by
    intro i q hq
    by_cases e : i = k
    · subst e
      have hl : i < ws.length := by
        have := (List.getElem?_eq_some_iff.mp hq).1
        simpa using this
      rw [List.getElem?_set_self hl] at hq
      cases hq
      exact Or.inr ⟨rfl, rfl, gs_last, hl⟩
    · rw [List.getElem?_set_ne (Ne.symm e)] at hq
      exact Or.inl ⟨e, hq, gs_app hq⟩
  refine ⟨fun i q hq => ?_, fun i j p q hp hq e => ?_, fun i q hq => ?_⟩
  · rcases key i q hq with ⟨-, -, h2⟩ | ⟨-, -, h2, -⟩
    · exact h.1 i q h2
    · exact h.1 _ q h2
  · rcases key i p hp with ⟨a1, a2, a3⟩ | ⟨a1, a2, a3, a4⟩ <;> rcases key j q hq with ⟨b1, b2, b3⟩ | ⟨b1, b2, b3, b4⟩
    · exact h.2.1 i j p q a3 b3 e
    · have := h.2.1 i ws.length p q a3 b3 e
      have := gs_lt a2
      omega
    · have := h.2.1 ws.length j p q a3 b3 e
      have := gs_lt b2
      omega
    · omega
  · rcases key i q hq with ⟨-, -, h2⟩ | ⟨-, -, h2, -⟩
    · exact h.2.2 i q h2
    · exact h.2.2 _ q h2
section PT3
variable {G : GT} {rest : va_W} {A : Nat → Nat} {C : CT} {stamp closed : Int32} {m Ln : Nat} {cs la be ll : Nat → Int32}
theorem ws_loop2 {A' : Nat → Nat} {Ln' : Nat} (hok : CTok C) (hm : m = (nd C).2) (hcs : ∀ i, i < m → cs i = (nd C).1 i) (hC : CHI cs la be m) (hLn : m * m ≤ Ln') (hL : Ln' ≤ 14400) {mc ms kc ks : Nat} {post : OT} (hkc : kc ≤ mc) (hks : ks ≤ ms) (hp : ∀ ll' : Nat → Int32, MX 536870912 m m ll' (dS C (nd C) C.1) → post none (ptL G A' C stamp closed m cs la be Ln' ll' ++ rest)) :
    ∀ (k i : Nat), i + k = C.1 → ∀ ll : Nat → Int32, MX 536870912 m m ll (dS C (nd C) i) → JJ G Y_X4_writeSteps 2 mc ms post 80 [(0, .ref (A' 0)), (1, .int (nI m)), (2, .int (nI i))] [] (ptL G A' C stamp closed m cs la be Ln' ll ++ rest) kc ks := by
  have hm120 : m ≤ 120 := by rw [hm]; exact nd_le hok
  have hn60 := hok.1
  intro k
  induction k with
  | zero =>
    intro i hi ll hX
    obtain rfl : i = C.1 := by omega
    refine j_iload_n (n := 81) dX4_writeSteps_80 rfl rfl ?_
    refine j_aload_n (n := 82) dX4_writeSteps_81 rfl rfl ?_
    refine j_get (n := 85) 0 dX4_writeSteps_82 f_X4_21 rfl rfl rfl ?_
    refine j_icmp_ge (n := 88) 162 dX4_writeSteps_85 (by decide) rfl (fun c => ?_) (fun c => ?_)
    · intro p e s m1 args below meth c1 H locs ls CC hS hW hl
      refine W.widen hkc hks ?_
      exact W.vret (hlocks := CC.2.2.2.2.1) CC.1 CC.2.1 (CC.2.2.2.1.trans rfl) (fun t ht hw => ⟨⟨_, _, rfl, hp ll hX, by rw [ht]; exact hW⟩, hS.F ht⟩) hS.2.2 dX4_writeSteps_162
    · exact absurd (nI_le (Nat.le_refl C.1) (by omega)) c
  | succ k ih =>
    intro i hi ll hX
    obtain ⟨-, -, hne, c0, hc0, ec0⟩ := hok.2 i (by omega)
    obtain ⟨g1, g2⟩ := ndS_in C C.1 hok.1 i (by omega)
    obtain ⟨p1, p2, p3⟩ := iN_lt (q := nd C) (nd_le hok) g1
    obtain ⟨q1, q2, q3⟩ := iN_lt (q := nd C) (nd_le hok) g2
    have ex : idxF cs (C.2.1 i) m = nI (iN (nd C) (C.2.1 i)) := by rw [idxF_congr m hcs, hm]; exact p3
    have ey : idxF cs (C.2.2.1 i) m = nI (iN (nd C) (C.2.2.1 i)) := by rw [idxF_congr m hcs, hm]; exact q3
    have hst : dS C (nd C) (i + 1) = up2 (up2 (dS C (nd C) i) (iN (nd C) (C.2.1 i)) (iN (nd C) (C.2.2.1 i)) (some (C.2.2.2 i).toNatClampNeg)) (iN (nd C) (C.2.2.1 i)) (iN (nd C) (C.2.1 i)) (some (C.2.2.2 i).toNatClampNeg) := rfl
    have ih := ih (i + 1) (by omega)
    rw [hst] at ih
    generalize iN (nd C) (C.2.1 i) = a at p1 p2 p3 ex ih
    generalize iN (nd C) (C.2.2.1 i) = b at q1 q2 q3 ey ih
    rw [← hm] at p1 q1
    have lab := mx_lt p1 q1
    have lba := mx_lt q1 p1
    have hcv : C.2.2.2 i = ec 536870912 (some (C.2.2.2 i).toNatClampNeg) := by
      rw [ec0, nI_clamp (by omega)]; rfl
    refine j_iload_n (n := 81) dX4_writeSteps_80 rfl rfl ?_
    refine j_aload_n (n := 82) dX4_writeSteps_81 rfl rfl ?_
    refine j_get (n := 85) 0 dX4_writeSteps_82 f_X4_21 rfl rfl rfl ?_
    refine j_icmp_ge (n := 88) 162 dX4_writeSteps_85 (by decide) rfl (fun c => ?_) (fun c => ?_)
    · exact absurd c (nI_ge (show i < C.1 by omega) (by omega))
    · refine j_aload_n (n := 89) dX4_writeSteps_88 rfl rfl ?_
      refine j_aload_n (n := 90) dX4_writeSteps_89 rfl rfl ?_
      refine j_get (n := 93) 0 dX4_writeSteps_90 f_X4_9 rfl rfl rfl ?_
      refine j_iload_n (n := 94) dX4_writeSteps_93 rfl rfl ?_
      refine j_iald (n := 95) 1 i dX4_writeSteps_94 rfl rfl rfl (by omega) (by omega) ?_
      refine j_callVe (n := 98) (Y1 := Y_X4_indexOf) 0 dX4_writeSteps_95 m_X4_77 cy_X4_indexOf ci_X4_indexOf (c_indexOf hC hm120) rfl rfl rfl rfl rfl (by omega) (by omega) (by omega) (Nat.le_of_ble_eq_true rfl) ?_
      rw [ex]
      refine j_istore_n (n := 99) dX4_writeSteps_98 rfl (by decide) ?_
      refine j_aload_n (n := 100) dX4_writeSteps_99 rfl rfl ?_
      refine j_aload_n (n := 101) dX4_writeSteps_100 rfl rfl ?_
      refine j_get (n := 104) 0 dX4_writeSteps_101 f_X4_15 rfl rfl rfl ?_
      refine j_iload_n (n := 105) dX4_writeSteps_104 rfl rfl ?_
      refine j_iald (n := 106) 2 i dX4_writeSteps_105 rfl rfl rfl (by omega) (by omega) ?_
      refine j_callVe (n := 109) (Y1 := Y_X4_indexOf) 0 dX4_writeSteps_106 m_X4_77 cy_X4_indexOf ci_X4_indexOf (c_indexOf hC hm120) rfl rfl rfl rfl rfl (by omega) (by omega) (by omega) (Nat.le_of_ble_eq_true rfl) ?_
      rw [ey]
      refine j_istore (n := 111) dX4_writeSteps_109 rfl (by decide) ?_
      refine j_iload_n (n := 112) dX4_writeSteps_111 rfl rfl ?_
      refine j_iconst (n := 113) (-1) dX4_writeSteps_112 rfl (by decide) ?_
      refine j_icmp_eq (n := 116) 156 dX4_writeSteps_113 (by decide) rfl (fun c2 => ?_) (fun c2 => ?_)
      · exact absurd c2 (nI_nm1 (by omega))
      · refine j_iload (n := 118) dX4_writeSteps_116 rfl rfl ?_
        refine j_iconst (n := 119) (-1) dX4_writeSteps_118 rfl (by decide) ?_
        refine j_icmp_eq (n := 122) 156 dX4_writeSteps_119 (by decide) rfl (fun c3 => ?_) (fun c3 => ?_)
        · exact absurd c3 (nI_nm1 (by omega))
        · refine j_aload_n (n := 123) dX4_writeSteps_122 rfl rfl ?_
          refine j_get (n := 126) 0 dX4_writeSteps_123 f_X4_43 rfl rfl rfl ?_
          refine j_iload_n (n := 127) dX4_writeSteps_126 rfl rfl ?_
          refine j_iload_n (n := 128) dX4_writeSteps_127 rfl rfl ?_
          refine j_imul (n := 129) dX4_writeSteps_128 rfl ?_
          refine j_iload (n := 131) dX4_writeSteps_129 rfl rfl ?_
          refine j_iadd (n := 132) dX4_writeSteps_131 rfl ?_
          refine j_aload_n (n := 133) dX4_writeSteps_132 rfl rfl ?_
          refine j_get (n := 136) 0 dX4_writeSteps_133 f_X4_18 rfl rfl rfl ?_
          refine j_iload_n (n := 137) dX4_writeSteps_136 rfl rfl ?_
          refine j_iald (n := 138) 3 i dX4_writeSteps_137 rfl rfl rfl (by omega) (by omega) ?_
          refine j_iast (n := 139) 7 (m * a + b) dX4_writeSteps_138 rfl rfl (ixm a m b) (by omega) (by omega) ?_
          refine j_aload_n (n := 140) dX4_writeSteps_139 rfl rfl ?_
          refine j_get (n := 143) 0 dX4_writeSteps_140 f_X4_43 rfl rfl rfl ?_
          refine j_iload (n := 145) dX4_writeSteps_143 rfl rfl ?_
          refine j_iload_n (n := 146) dX4_writeSteps_145 rfl rfl ?_
          refine j_imul (n := 147) dX4_writeSteps_146 rfl ?_
          refine j_iload_n (n := 148) dX4_writeSteps_147 rfl rfl ?_
          refine j_iadd (n := 149) dX4_writeSteps_148 rfl ?_
          refine j_aload_n (n := 150) dX4_writeSteps_149 rfl rfl ?_
          refine j_get (n := 153) 0 dX4_writeSteps_150 f_X4_18 rfl rfl rfl ?_
          refine j_iload_n (n := 154) dX4_writeSteps_153 rfl rfl ?_
          refine j_iald (n := 155) 3 i dX4_writeSteps_154 rfl rfl rfl (by omega) (by omega) ?_
          refine j_iast (n := 156) 7 (m * b + a) dX4_writeSteps_155 rfl rfl (ixm b m a) (by omega) (by omega) ?_
          refine j_iinc (n := 159) (nI (i + 1)) dX4_writeSteps_156 rfl rfl (nI_inc i) (by decide) ?_
          refine j_goto 80 dX4_writeSteps_159 (by decide) ?_
          refine j_keep [0, 1, 2] rfl ?_
          refine j_ws (ws' := ptL G A' C stamp closed m cs la be Ln' (upd (upd ll (m * a + b) (C.2.2.2 i)) (m * b + a) (C.2.2.2 i)) ++ rest) rfl ?_
          exact ih _ ((hX.put (Nat.le_refl _) q1 hcv).put (Nat.le_refl _) p1 hcv)
def dgM (i : Nat) : OM := fun a b => if a = b ∧ a < i then some 0 else none
theorem ws_loop1 {A' : Nat → Nat} {Ln' : Nat} (hok : CTok C) (hm : m = (nd C).2) (hcs : ∀ i, i < m → cs i = (nd C).1 i) (hC : CHI cs la be m) (hLn : m * m ≤ Ln') (hL : Ln' ≤ 14400) {mc ms kc ks : Nat} {post : OT} (hkc : kc ≤ mc) (hks : ks ≤ ms) (hp : ∀ ll' : Nat → Int32, MX 536870912 m m ll' (dS C (nd C) C.1) → post none (ptL G A' C stamp closed m cs la be Ln' ll' ++ rest)) :
    ∀ (k i : Nat), i + k = m → ∀ ll : Nat → Int32, MX 536870912 m m ll (dgM i) → JJ G Y_X4_writeSteps 2 mc ms post 56 [(0, .ref (A' 0)), (1, .int (nI m)), (2, .int (nI i))] [] (ptL G A' C stamp closed m cs la be Ln' ll ++ rest) kc ks := by
  have hm120 : m ≤ 120 := by rw [hm]; exact nd_le hok
  intro k
  induction k with
  | zero =>
    intro i hi ll hX
    obtain rfl : i = m := by omega
    refine j_iload_n (n := 57) dX4_writeSteps_56 rfl rfl ?_
    refine j_iload_n (n := 58) dX4_writeSteps_57 rfl rfl ?_
    refine j_icmp_ge (n := 61) 78 dX4_writeSteps_58 (by decide) rfl (fun c => ?_) (fun c => ?_)
    · refine j_iconst (n := 79) (0) dX4_writeSteps_78 rfl (by decide) ?_
      refine j_istore_n (n := 80) dX4_writeSteps_79 rfl (by decide) ?_
      refine ws_loop2 hok hm hcs hC hLn hL hkc hks hp C.1 0 (by omega) ll (hX.congr (fun a b ha hb => ?_))
      show (if a = b ∧ a < i then some 0 else none) = if a = b then some 0 else none
      by_cases e : a = b
      · rw [if_pos ⟨e, ha⟩, if_pos e]
      · rw [if_neg (fun q => e q.1), if_neg e]
    · exact absurd (nI_le (Nat.le_refl i) (by omega)) c
  | succ k ih =>
    intro i hi ll hX
    have hl := mx_lt (show i < m by omega) (show i < m by omega)
    refine j_iload_n (n := 57) dX4_writeSteps_56 rfl rfl ?_
    refine j_iload_n (n := 58) dX4_writeSteps_57 rfl rfl ?_
    refine j_icmp_ge (n := 61) 78 dX4_writeSteps_58 (by decide) rfl (fun c => ?_) (fun c => ?_)
    · exact absurd c (nI_ge (show i < m by omega) (by omega))
    · refine j_aload_n (n := 62) dX4_writeSteps_61 rfl rfl ?_
      refine j_get (n := 65) 0 dX4_writeSteps_62 f_X4_43 rfl rfl rfl ?_
      refine j_iload_n (n := 66) dX4_writeSteps_65 rfl rfl ?_
      refine j_iload_n (n := 67) dX4_writeSteps_66 rfl rfl ?_
      refine j_imul (n := 68) dX4_writeSteps_67 rfl ?_
      refine j_iload_n (n := 69) dX4_writeSteps_68 rfl rfl ?_
      refine j_iadd (n := 70) dX4_writeSteps_69 rfl ?_
      refine j_iconst (n := 71) (0) dX4_writeSteps_70 rfl (by decide) ?_
      refine j_iast (n := 72) 7 (m * i + i) dX4_writeSteps_71 rfl rfl (ixm i m i) (by omega) (by omega) ?_
      refine j_iinc (n := 75) (nI (i + 1)) dX4_writeSteps_72 rfl rfl (nI_inc i) (by decide) ?_
      refine j_goto 56 dX4_writeSteps_75 (by decide) ?_
      refine j_ws (ws' := ptL G A' C stamp closed m cs la be Ln' (upd ll (m * i + i) 0) ++ rest) rfl ?_
      refine ih (i + 1) (by omega) _ ((hX.put (v := some 0) (Nat.le_refl _) (show i < m by omega) rfl).congr (fun a b _ _ => ?_))
      unfold up2 dgM
      by_cases e : a = i ∧ b = i
      · rw [if_pos e, if_pos ⟨e.1.trans e.2.symm, by omega⟩]
      · rw [if_neg e]
        by_cases e2 : a = b ∧ a < i
        · rw [if_pos e2, if_pos ⟨e2.1, by omega⟩]
        · rw [if_neg e2, if_neg (fun q => by omega)]
theorem ws_tail {A' : Nat → Nat} {Ln' : Nat} (hok : CTok C) (hm : m = (nd C).2) (hcs : ∀ i, i < m → cs i = (nd C).1 i) (hC : CHI cs la be m) (hLn : m * m ≤ Ln') (hL : Ln' ≤ 14400) {mc ms kc ks : Nat} {post : OT} (hkc : kc ≤ mc) (hks : ks ≤ ms) (hp : ∀ ll' : Nat → Int32, MX 536870912 m m ll' (dS C (nd C) C.1) → post none (ptL G A' C stamp closed m cs la be Ln' ll' ++ rest)) (ll : Nat → Int32) :
    JJ G Y_X4_writeSteps 2 mc ms post 41 [(0, .ref (A' 0)), (1, .int (nI m))] [] (ptL G A' C stamp closed m cs la be Ln' ll ++ rest) kc ks := by
  have hm120 : m ≤ 120 := by rw [hm]; exact nd_le hok
  refine j_aload_n (n := 42) dX4_writeSteps_41 rfl rfl ?_
  refine j_get (n := 45) 0 dX4_writeSteps_42 f_X4_43 rfl rfl rfl ?_
  refine j_iconst (n := 46) (0) dX4_writeSteps_45 rfl (by decide) ?_
  refine j_iload_n (n := 47) dX4_writeSteps_46 rfl rfl ?_
  refine j_iload_n (n := 48) dX4_writeSteps_47 rfl rfl ?_
  refine j_imul (n := 49) dX4_writeSteps_48 rfl ?_
  refine j_top (nI (m * m)) (pk_mul m m) ?_
  refine j_ldc (n := 51) dX4_writeSteps_49 rfl k_X4_80 ?_
  refine j_callSv (n := 54) (Y1 := Y_J7_fill_fda19) dX4_writeSteps_51 m_X4_89 cy_J7_fill_fda19 cs_J7_fill_fda19 (c_fill4 (lo := 0) (hi := m * m) (k := 7) rfl (Nat.zero_le _) hLn (by omega)) rfl rfl rfl (by omega) (by omega) (by omega) (Nat.le_of_ble_eq_true rfl) (fun w h => ?_)
  subst h
  refine j_iconst (n := 55) (0) dX4_writeSteps_54 rfl (by decide) ?_
  refine j_istore_n (n := 56) dX4_writeSteps_55 rfl (by decide) ?_
  refine j_ws (ws' := ptL G A' C stamp closed m cs la be Ln' (fillF ll 0 (m * m) 536870912) ++ rest) rfl ?_
  refine ws_loop1 hok hm hcs hC hLn hL (by omega) (by omega) hp m 0 (by omega) _ (fun a b ha hb => ?_)
  have := mx_lt ha hb
  unfold fillF dgM
  rw [if_pos (by omega), if_neg (by omega)]
  rfl
theorem c_writeSteps (hok : CTok C) (hm : m = (nd C).2) (hcs : ∀ i, i < m → cs i = (nd C).1 i) (hC : CHI cs la be m) (hL : Ln ≤ 14400) : JM G Y_X4_writeSteps 2 (if Ln < m * m then 1 else 0) (if Ln < m * m then newLn m Ln else 0) [.ref (A 0)] (ptL G A C stamp closed m cs la be Ln ll ++ rest) (Qv (fun w => ∃ (A' : Nat → Nat) (ll' : Nat → Int32), w = ptL G A' C stamp closed m cs la be (newLn m Ln) ll' ++ rest ∧ A' 0 = A 0 ∧ MX 536870912 m m ll' (dS C (nd C) C.1))) := by
  have hm120 : m ≤ 120 := by rw [hm]; exact nd_le hok
  have hmm : m * m ≤ 14400 := Nat.mul_le_mul hm120 hm120
  refine JM.of [(0, .ref (A 0))] rfl rfl (by simp) (Nat.le_of_ble_eq_true rfl) (by decide +kernel) ?_
  refine j_aload_n (n := 1) dX4_writeSteps_0 rfl rfl ?_
  refine j_get (n := 4) 0 dX4_writeSteps_1 f_X4_34 rfl rfl rfl ?_
  refine j_istore_n (n := 5) dX4_writeSteps_4 rfl (by decide) ?_
  refine j_aload_n (n := 6) dX4_writeSteps_5 rfl rfl ?_
  refine j_get (n := 9) 0 dX4_writeSteps_6 f_X4_43 rfl rfl rfl ?_
  refine j_alen (n := 10) 7 dX4_writeSteps_9 rfl rfl ?_
  refine j_iload_n (n := 11) dX4_writeSteps_10 rfl rfl ?_
  refine j_iload_n (n := 12) dX4_writeSteps_11 rfl rfl ?_
  refine j_imul (n := 13) dX4_writeSteps_12 rfl ?_
  refine j_top (nI (m * m)) (pk_mul m m) ?_
  refine j_icmp_ge (n := 16) 41 dX4_writeSteps_13 (by decide) rfl (fun c => ?_) (fun c => ?_)
  · have hlt : ¬ Ln < m * m := Nat.not_lt.mpr ((nI_leI (by omega) (by omega)).mp c)
    have hnl : newLn m Ln = Ln := by unfold newLn; rw [if_neg hlt]
    rw [if_neg hlt, if_neg hlt, hnl]
    exact ws_tail hok hm hcs hC (by omega) hL (Nat.le_refl _) (Nat.le_refl _) (fun ll' h => ⟨rfl, A, ll', rfl, rfl, h⟩) ll
  · have hlt : Ln < m * m := Nat.lt_of_not_le (fun q => c (nI_le q (by omega)))
    have hnl : newLn m Ln = max (m * m) (min (2 * Ln) 14400) := by unfold newLn; rw [if_pos hlt]
    have hb : newLn m Ln ≤ 14400 ∧ m * m ≤ newLn m Ln := by rw [hnl]; omega
    rw [if_pos hlt, if_pos hlt]
    refine j_aload_n (n := 17) dX4_writeSteps_16 rfl rfl ?_
    refine j_iload_n (n := 18) dX4_writeSteps_17 rfl rfl ?_
    refine j_iload_n (n := 19) dX4_writeSteps_18 rfl rfl ?_
    refine j_imul (n := 20) dX4_writeSteps_19 rfl ?_
    refine j_iconst (n := 21) (2) dX4_writeSteps_20 rfl (by decide) ?_
    refine j_aload_n (n := 22) dX4_writeSteps_21 rfl rfl ?_
    refine j_get (n := 25) 0 dX4_writeSteps_22 f_X4_43 rfl rfl rfl ?_
    refine j_alen (n := 26) 7 dX4_writeSteps_25 rfl rfl ?_
    refine j_imul (n := 27) dX4_writeSteps_26 rfl ?_
    refine j_sipush (n := 30) (14400) dX4_writeSteps_27 rfl (by decide) ?_
    have e1 : (if (14400 : Int32) < 2 * nI Ln then (14400 : Int32) else 2 * nI Ln) = nI (min (2 * Ln) 14400) := by
      have e0 : (2 : Int32) * nI Ln = nI (2 * Ln) := pk_mul 2 Ln
      rw [e0]
      by_cases h : 14400 < 2 * Ln
      · rw [if_pos (show (14400 : Int32) < nI (2 * Ln) from nI_lt (a := 14400) h (by omega)), Nat.min_eq_right (by omega)]; rfl
      · rw [if_neg (fun q : (14400 : Int32) < nI (2 * Ln) => h ((nI_ltI (a := 14400) (by omega) (by omega)).mp q)), Nat.min_eq_left (by omega)]
    refine j_min (n := 33) dX4_writeSteps_30 m_X4_81 rfl (by omega) (by omega) (by omega) (Nat.le_of_ble_eq_true rfl) ?_
    refine j_top (nI (min (2 * Ln) 14400)) e1 ?_
    have e2 : (if nI m * nI m < nI (min (2 * Ln) 14400) then nI (min (2 * Ln) 14400) else nI m * nI m) = nI (newLn m Ln) := by
      rw [pk_mul m m, hnl]
      by_cases h : m * m < min (2 * Ln) 14400
      · rw [if_pos (nI_lt h (by omega)), Nat.max_eq_right (by omega)]
      · rw [if_neg (fun q => h ((nI_ltI (by omega) (by omega)).mp q)), Nat.max_eq_left (by omega)]
    refine j_max (n := 36) dX4_writeSteps_33 m_X4_86 rfl (by omega) (by omega) (by omega) (Nat.le_of_ble_eq_true rfl) ?_
    refine j_top (nI (newLn m Ln)) e2 ?_
    refine j_newi (n := 38) (newLn m Ln) dX4_writeSteps_36 rfl rfl (by omega) (by omega) (by omega) (fun a => ?_)
    refine j_put (n := 41) 0 dX4_writeSteps_38 f_X4_43 rfl rfl rfl (Nat.le_of_ble_eq_true rfl) rfl rfl ?_
    refine j_world (ws' := ptL G (va_up A 7 a) C stamp closed m cs la be (newLn m Ln) (fun _ => 0) ++ rest) (fun G1 H1 hW => ?_) ?_
    · exact jw_move (G := G1) (H := H1) (ws := [(A 0, ptO (va_up A 7 a) C.1 stamp closed m), (A 1, arI G 60 C.2.1), (A 2, arI G 60 C.2.2.1), (A 3, arI G 60 C.2.2.2), (A 4, arI G 120 cs), (A 5, arI G 127 la), (A 6, arI G 120 be), (A 7, arI G Ln ll)] ++ rest) (y := (a, .inl (gI G, newLn m Ln, .inl (fun _ => 0)))) 7 hW
    · exact ws_tail hok hm hcs hC hb.2 hb.1 (by omega) (by omega) (fun ll' h => ⟨rfl, va_up A 7 a, ll', rfl, rfl, h⟩) (fun _ => 0)
theorem cl_loop2 {A' : Nat → Nat} {Ln' : Nat} (hok : CTok C) (hm : m = (nd C).2) (hLn : m * m ≤ Ln') (hL : Ln' ≤ 14400) {mc ms kc ks : Nat} (hkc : kc ≤ mc) (hks : ks ≤ ms) {f : va_W → Prop} (hp : ∀ ll' : Nat → Int32, MX 536870912 m m ll' (DD C) → f (ptL G A' C stamp closed m cs la be Ln' ll' ++ rest)) :
    ∀ (k i : Nat), i + k = m → ∀ ll : Nat → Int32, MX 536870912 m m ll (fwN (dS C (nd C) C.1) i) → JJ G Y_X4_closeChains 3 mc ms (Qv f) 75 [(0, .ref (A' 0)), (1, .int (nI i))] [] (ptL G A' C stamp closed m cs la be Ln' ll ++ rest) kc ks := by
  have hm120 : m ≤ 120 := by rw [hm]; exact nd_le hok
  intro k
  induction k with
  | zero =>
    intro i hi ll hX
    obtain rfl : i = m := by omega
    refine j_iload_n (n := 76) dX4_closeChains_75 rfl rfl ?_
    refine j_aload_n (n := 77) dX4_closeChains_76 rfl rfl ?_
    refine j_get (n := 80) 0 dX4_closeChains_77 f_X4_34 rfl rfl rfl ?_
    refine j_icmp_ge (n := 83) 94 dX4_closeChains_80 (by decide) rfl (fun c => ?_) (fun c => ?_)
    · have hD : fwN (dS C (nd C) C.1) i = DD C := by rw [hm]; rfl
      rw [hD] at hX
      exact j_vret dX4_closeChains_94 rfl (by omega) (by omega) (hp ll hX)
    · exact absurd (nI_le (Nat.le_refl i) (by omega)) c
  | succ k ih =>
    intro i hi ll hX
    obtain ⟨w1, w2⟩ := fw_ok hok (k := i) (by omega)
    refine j_iload_n (n := 76) dX4_closeChains_75 rfl rfl ?_
    refine j_aload_n (n := 77) dX4_closeChains_76 rfl rfl ?_
    refine j_get (n := 80) 0 dX4_closeChains_77 f_X4_34 rfl rfl rfl ?_
    refine j_icmp_ge (n := 83) 94 dX4_closeChains_80 (by decide) rfl (fun c => ?_) (fun c => ?_)
    · exact absurd c (nI_ge (show i < m by omega) (by omega))
    · refine j_aload_n (n := 84) dX4_closeChains_83 rfl rfl ?_
      refine j_iload_n (n := 85) dX4_closeChains_84 rfl rfl ?_
      refine j_callVv (n := 88) (Y1 := Y_X4_goOver) 0 dX4_closeChains_85 m_X4_66 cy_X4_goOver ci_X4_goOver (c_goOver hm120 (show i < m by omega) hLn hL w1 (fun a b v e => by have := w2 a b v e; omega) hX) rfl rfl rfl rfl rfl (by omega) (by omega) (by omega) (Nat.le_of_ble_eq_true rfl) (fun w h => ?_)
      obtain ⟨ll', rfl, hX'⟩ := h
      refine j_iinc (n := 91) (nI (i + 1)) dX4_closeChains_88 rfl rfl (nI_inc i) (by decide) ?_
      refine j_goto 75 dX4_closeChains_91 (by decide) ?_
      exact ih (i + 1) (by omega) ll' hX'
end PT3

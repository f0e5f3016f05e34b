/-! PieceTable: closeChains, countPieces, the constructor; Text: findPieces -/
def clMc (same : Bool) (m Ln : Nat) : Nat := if same = true then 0 else if Ln < m * m then 1 else 0
def clMs (same : Bool) (m Ln : Nat) : Nat := if same = true then 0 else if Ln < m * m then newLn m Ln else 0
def clLn (same : Bool) (m Ln : Nat) : Nat := if same = true then Ln else newLn m Ln
theorem newLn_le {m Ln : Nat} (hm : m ≤ 120) (hL : Ln ≤ 14400) : newLn m Ln ≤ 14400 ∧ m * m ≤ newLn m Ln := by
  have hmm : m * m ≤ 14400 := Nat.mul_le_mul hm hm
  unfold newLn; split <;> omega
section PT4
variable {G : GT} {rest : va_W} {A : Nat → Nat} {C : CT} {stamp closed : Int32} {m Ln : Nat} {cs la be ll : Nat → Int32}
theorem c_addPiece' {x : Int32} {q : NQ} (hC : CHI cs la be m) (hm : m < 120) (hx : pcB x = true) (hq : m = q.2) (hcs : ∀ i, i < m → cs i = q.1 i) : JM G Y_X4_addPiece 2 0 0 [.ref (A 0), .int x] (ptL G A C stamp closed m cs la be Ln ll ++ rest) (Qv (fun w => ∃ cs' la' be' : Nat → Int32, w = ptL G A C stamp closed (ndAdd x q).2 cs' la' be' Ln ll ++ rest ∧ CHI cs' la' be' (ndAdd x q).2 ∧ ∀ i, i < (ndAdd x q).2 → cs' i = (ndAdd x q).1 i)) := by
  obtain ⟨s, hs, h1, h2⟩ := pc_lead hx
  refine (c_addPiece hC hm (by rw [hs]; exact sg_of h1 h2) hs h1 h2).imp (fun r w h => ?_)
  obtain ⟨hr, hw⟩ := h
  refine ⟨hr, ?_⟩
  have e : idxF q.1 x q.2 = idxF cs x m := by rw [← hq]; exact (idxF_congr m hcs).symm
  unfold ndAdd
  rw [e]
  by_cases hi : idxF cs x m = -1
  · rw [if_pos hi] at hw ⊢
    refine ⟨_, _, _, by rw [hw, ← hq], by rw [← hq]; exact CHI_add hC (by rw [hs]; exact sg_of h1 h2) hs h1 h2, fun i hl => ?_⟩
    dsimp only at hl ⊢
    rw [← hq]
    by_cases ei : i = m
    · subst ei; rw [pk_us, pk_us]
    · rw [pk_un ei, pk_un ei]; exact hcs i (by omega)
  · rw [if_neg hi] at hw ⊢
    exact ⟨cs, la, be, by rw [hw, ← hq], by rw [← hq]; exact hC, fun i hl => hcs i (by omega)⟩
theorem cl_loop1 (hok : CTok C) (hL : Ln ≤ 14400) : ∀ (k i : Nat), i + k = C.1 → ∀ (m : Nat) (cs la be : Nat → Int32), CHI cs la be m → m = (ndS C i).2 → (∀ j, j < m → cs j = (ndS C i).1 j) → JJ G Y_X4_closeChains 3 (if Ln < (nd C).2 * (nd C).2 then 1 else 0) (if Ln < (nd C).2 * (nd C).2 then newLn (nd C).2 Ln else 0) (Qv (fun w => ∃ (A' : Nat → Nat) (cs' la' be' ll' : Nat → Int32), w = ptL G A' C stamp stamp (nd C).2 cs' la' be' (newLn (nd C).2 Ln) ll' ++ rest ∧ A' 0 = A 0 ∧ CLO C (nd C).2 cs' la' be' (newLn (nd C).2 Ln) ll')) 35 [(0, .ref (A 0)), (1, .int (nI i))] [] (ptL G A C stamp stamp m cs la be Ln ll ++ rest) 0 0 := by
  have hn60 := hok.1
  intro k
  induction k with
  | zero =>
    intro i hi m cs la be hC hm hcs
    obtain rfl : i = C.1 := by omega
    have hm' : m = (nd C).2 := hm
    obtain ⟨b1, b2⟩ := newLn_le (m := (nd C).2) (nd_le hok) hL
    refine j_iload_n (n := 36) dX4_closeChains_35 rfl rfl ?_
    refine j_aload_n (n := 37) dX4_closeChains_36 rfl rfl ?_
    refine j_get (n := 40) 0 dX4_closeChains_37 f_X4_21 rfl rfl rfl ?_
    refine j_icmp_ge (n := 43) 69 dX4_closeChains_40 (by decide) rfl (fun c => ?_) (fun c => ?_)
    · refine j_aload_n (n := 70) dX4_closeChains_69 rfl rfl ?_
      subst hm'
      refine j_callVv (n := 73) (Y1 := Y_X4_writeSteps) 0 dX4_closeChains_70 m_X4_63 cy_X4_writeSteps ci_X4_writeSteps (c_writeSteps hok rfl hcs hC hL) rfl rfl rfl rfl rfl (by omega) (by omega) (by omega) (Nat.le_of_ble_eq_true rfl) (fun w h => ?_)
      obtain ⟨A', ll', rfl, hA, hX⟩ := h
      refine j_iconst (n := 74) (0) dX4_closeChains_73 rfl (by decide) ?_
      refine j_istore_n (n := 75) dX4_closeChains_74 rfl (by decide) ?_
      rw [← hA]
      exact cl_loop2 hok rfl b2 b1 (by omega) (by omega) (fun ll'' h'' => ⟨A', cs, la, be, ll'', rfl, rfl, rfl, hcs, hC, b2, h''⟩) (nd C).2 0 (Nat.zero_add _) ll' hX
    · exact absurd (nI_le (Nat.le_refl C.1) (by omega)) c
  | succ k ih =>
    intro i hi m cs la be hC hm hcs
    obtain ⟨px, py, -, -⟩ := hok.2 i (by omega)
    have hl := ndS_le C i
    refine j_iload_n (n := 36) dX4_closeChains_35 rfl rfl ?_
    refine j_aload_n (n := 37) dX4_closeChains_36 rfl rfl ?_
    refine j_get (n := 40) 0 dX4_closeChains_37 f_X4_21 rfl rfl rfl ?_
    refine j_icmp_ge (n := 43) 69 dX4_closeChains_40 (by decide) rfl (fun c => ?_) (fun c => ?_)
    · exact absurd c (nI_ge (show i < C.1 by omega) (by omega))
    · refine j_aload_n (n := 44) dX4_closeChains_43 rfl rfl ?_
      refine j_aload_n (n := 45) dX4_closeChains_44 rfl rfl ?_
      refine j_get (n := 48) 0 dX4_closeChains_45 f_X4_9 rfl rfl rfl ?_
      refine j_iload_n (n := 49) dX4_closeChains_48 rfl rfl ?_
      refine j_iald (n := 50) 1 i dX4_closeChains_49 rfl rfl rfl (by omega) (by omega) ?_
      refine j_callVv (n := 53) (Y1 := Y_X4_addPiece) 0 dX4_closeChains_50 m_X4_59 cy_X4_addPiece ci_X4_addPiece (c_addPiece' hC (by omega) px hm hcs) rfl rfl rfl rfl rfl (by omega) (by omega) (by omega) (Nat.le_of_ble_eq_true rfl) (fun w h => ?_)
      obtain ⟨cs1, la1, be1, rfl, hC1, hcs1⟩ := h
      have hl1 := ndAdd_le (C.2.1 i) (ndS C i)
      refine j_aload_n (n := 54) dX4_closeChains_53 rfl rfl ?_
      refine j_aload_n (n := 55) dX4_closeChains_54 rfl rfl ?_
      refine j_get (n := 58) 0 dX4_closeChains_55 f_X4_15 rfl rfl rfl ?_
      refine j_iload_n (n := 59) dX4_closeChains_58 rfl rfl ?_
      refine j_iald (n := 60) 2 i dX4_closeChains_59 rfl rfl rfl (by omega) (by omega) ?_
      refine j_callVv (n := 63) (Y1 := Y_X4_addPiece) 0 dX4_closeChains_60 m_X4_59 cy_X4_addPiece ci_X4_addPiece (c_addPiece' hC1 (by omega) py rfl hcs1) rfl rfl rfl rfl rfl (by omega) (by omega) (by omega) (Nat.le_of_ble_eq_true rfl) (fun w h => ?_)
      obtain ⟨cs2, la2, be2, rfl, hC2, hcs2⟩ := h
      refine j_iinc (n := 66) (nI (i + 1)) dX4_closeChains_63 rfl rfl (nI_inc i) (by decide) ?_
      refine j_goto 35 dX4_closeChains_66 (by decide) ?_
      exact ih (i + 1) (by omega) _ cs2 la2 be2 hC2 rfl hcs2
theorem c_closeChains (hok : CTok C) (hL : Ln ≤ 14400) (hcl : closed = stamp → CLO C m cs la be Ln ll) : JM G Y_X4_closeChains 3 (clMc (decide (closed = stamp)) (nd C).2 Ln) (clMs (decide (closed = stamp)) (nd C).2 Ln) [.ref (A 0)] (ptL G A C stamp closed m cs la be Ln ll ++ rest) (Qv (fun w => ∃ (A' : Nat → Nat) (cs' la' be' ll' : Nat → Int32), w = ptL G A' C stamp stamp (nd C).2 cs' la' be' (clLn (decide (closed = stamp)) (nd C).2 Ln) ll' ++ rest ∧ A' 0 = A 0 ∧ CLO C (nd C).2 cs' la' be' (clLn (decide (closed = stamp)) (nd C).2 Ln) ll')) := by
  refine JM.of [(0, .ref (A 0))] rfl rfl (by simp) (Nat.le_of_ble_eq_true rfl) (by decide +kernel) ?_
  refine j_aload_n (n := 1) dX4_closeChains_0 rfl rfl ?_
  refine j_get (n := 4) 0 dX4_closeChains_1 f_X4_28 rfl rfl rfl ?_
  refine j_aload_n (n := 5) dX4_closeChains_4 rfl rfl ?_
  refine j_get (n := 8) 0 dX4_closeChains_5 f_X4_25 rfl rfl rfl ?_
  unfold clMc clMs clLn
  refine j_icmp_ne (n := 11) 12 dX4_closeChains_8 (by decide) rfl (fun c => ?_) (fun c => ?_)
  · rw [decide_eq_false c]
    refine j_aload_n (n := 13) dX4_closeChains_12 rfl rfl ?_
    refine j_aload_n (n := 14) dX4_closeChains_13 rfl rfl ?_
    refine j_get (n := 17) 0 dX4_closeChains_14 f_X4_25 rfl rfl rfl ?_
    refine j_put (n := 20) 0 dX4_closeChains_17 f_X4_28 rfl rfl rfl (Nat.le_of_ble_eq_true rfl) rfl rfl ?_
    refine j_aload_n (n := 21) dX4_closeChains_20 rfl rfl ?_
    refine j_iconst (n := 22) (0) dX4_closeChains_21 rfl (by decide) ?_
    refine j_put (n := 25) 0 dX4_closeChains_22 f_X4_34 rfl rfl rfl (Nat.le_of_ble_eq_true rfl) rfl rfl ?_
    refine j_aload_n (n := 26) dX4_closeChains_25 rfl rfl ?_
    refine j_get (n := 29) 0 dX4_closeChains_26 f_X4_37 rfl rfl rfl ?_
    refine j_iconst (n := 30) (-1) dX4_closeChains_29 rfl (by decide) ?_
    refine j_callSv (n := 33) (Y1 := Y_J7_fill_53178) dX4_closeChains_30 m_X4_53 cy_J7_fill_53178 cs_J7_fill_53178 (c_fillA (k := 5) rfl (by omega)) rfl rfl rfl (by omega) (by omega) (by omega) (Nat.le_of_ble_eq_true rfl) (fun w h => ?_)
    subst h
    refine j_iconst (n := 34) (0) dX4_closeChains_33 rfl (by decide) ?_
    refine j_istore_n (n := 35) dX4_closeChains_34 rfl (by decide) ?_
    refine j_ws (ws' := ptL G A C stamp stamp 0 cs (fillF la 0 127 (-1)) be Ln ll ++ rest) rfl ?_
    refine cl_loop1 hok hL C.1 0 (by omega) 0 cs _ be ⟨fun i h => absurd h (Nat.not_lt_zero i), fun j h1 h2 => ?_, fun i h => absurd h (Nat.not_lt_zero i)⟩ rfl (fun j h => absurd h (Nat.not_lt_zero j))
    unfold fillF; rw [if_pos (by omega)]; rfl
  · subst c
    have h := hcl rfl
    have hm := h.1
    subst hm
    rw [decide_eq_true rfl]
    exact j_vret dX4_closeChains_11 rfl (by omega) (by omega) (⟨A, cs, la, be, ll, rfl, rfl, h⟩)
theorem c_countPieces (hok : CTok C) (hL : Ln ≤ 14400) (hcl : closed = stamp → CLO C m cs la be Ln ll) : JM G Y_X4_countPieces 4 (clMc (decide (closed = stamp)) (nd C).2 Ln) (clMs (decide (closed = stamp)) (nd C).2 Ln) [.ref (A 0)] (ptL G A C stamp closed m cs la be Ln ll ++ rest) (Qi (fun r w => r = nI (nd C).2 ∧ ∃ (A' : Nat → Nat) (cs' la' be' ll' : Nat → Int32), w = ptL G A' C stamp stamp (nd C).2 cs' la' be' (clLn (decide (closed = stamp)) (nd C).2 Ln) ll' ++ rest ∧ A' 0 = A 0 ∧ CLO C (nd C).2 cs' la' be' (clLn (decide (closed = stamp)) (nd C).2 Ln) ll')) := by
  refine JM.of [(0, .ref (A 0))] rfl rfl (by simp) (Nat.le_of_ble_eq_true rfl) (by decide +kernel) ?_
  refine j_aload_n (n := 1) dX4_countPieces_0 rfl rfl ?_
  refine j_callVv (n := 4) (Y1 := Y_X4_closeChains) 0 dX4_countPieces_1 m_X4_50 cy_X4_closeChains ci_X4_closeChains (c_closeChains hok hL hcl) rfl rfl rfl rfl rfl (by omega) (by omega) (by omega) (Nat.le_of_ble_eq_true rfl) (fun w h => ?_)
  obtain ⟨A', cs', la', be', ll', rfl, hA, h'⟩ := h
  refine j_eq (lv' := [(0, .ref (A' 0))]) rfl (by rw [hA]) rfl rfl ?_
  refine j_aload_n (n := 5) dX4_countPieces_4 rfl rfl ?_
  refine j_get (n := 8) 0 dX4_countPieces_5 f_X4_34 rfl rfl rfl ?_
  exact j_iret dX4_countPieces_8 rfl rfl (by omega) (by omega) (⟨rfl, A', cs', la', be', ll', rfl, hA, h'⟩)
theorem c_PieceTable {a0 : Nat} {pre : va_W} : JM G Y_X4_init 1 7 547 [.ref a0] ((a0, .inr (4, [.null, .null, .null, .int 0, .int 0, .int 0, .null, .int 0, .null, .null, .null])) :: pre) (Qv (fun w => ∃ A : Nat → Nat, A 0 = a0 ∧ w = (a0, ptO A 0 0 (-1) 0) :: pre ++ [(A 1, arI G 60 (fun _ => 0)), (A 2, arI G 60 (fun _ => 0)), (A 3, arI G 60 (fun _ => 0)), (A 4, arI G 120 (fun _ => 0)), (A 5, arI G 127 (fun _ => 0)), (A 6, arI G 120 (fun _ => 0)), (A 7, arI G 0 (fun _ => 0))])) := by
  refine JM.of [(0, .ref a0)] rfl rfl (by simp) (Nat.le_of_ble_eq_true rfl) (by decide +kernel) ?_
  refine j_aload_n (n := 1) dX4_init_0 rfl rfl ?_
  refine j_objInit (n := 4) dX4_init_1 m_X4_3 rfl (by omega) (Nat.le_of_ble_eq_true rfl) ?_
  refine j_aload_n (n := 5) dX4_init_4 rfl rfl ?_
  refine j_bipush (n := 7) (60) dX4_init_5 rfl (by decide) ?_
  refine j_newi (n := 9) 60 dX4_init_7 rfl rfl (by decide) (by omega) (by omega) (fun a1 => ?_)
  refine j_putF (n := 12) 0 dX4_init_9 f_X4_9 rfl rfl rfl (fun q h => by cases h; rfl) rfl (Nat.le_of_ble_eq_true rfl) rfl rfl ?_
  refine j_aload_n (n := 13) dX4_init_12 rfl rfl ?_
  refine j_bipush (n := 15) (60) dX4_init_13 rfl (by decide) ?_
  refine j_newi (n := 17) 60 dX4_init_15 rfl rfl (by decide) (by omega) (by omega) (fun a2 => ?_)
  refine j_putF (n := 20) 0 dX4_init_17 f_X4_15 rfl rfl rfl (fun q h => by cases h; rfl) rfl (Nat.le_of_ble_eq_true rfl) rfl rfl ?_
  refine j_aload_n (n := 21) dX4_init_20 rfl rfl ?_
  refine j_bipush (n := 23) (60) dX4_init_21 rfl (by decide) ?_
  refine j_newi (n := 25) 60 dX4_init_23 rfl rfl (by decide) (by omega) (by omega) (fun a3 => ?_)
  refine j_putF (n := 28) 0 dX4_init_25 f_X4_18 rfl rfl rfl (fun q h => by cases h; rfl) rfl (Nat.le_of_ble_eq_true rfl) rfl rfl ?_
  refine j_aload_n (n := 29) dX4_init_28 rfl rfl ?_
  refine j_iconst (n := 30) (0) dX4_init_29 rfl (by decide) ?_
  refine j_put (n := 33) 0 dX4_init_30 f_X4_21 rfl rfl rfl (Nat.le_of_ble_eq_true rfl) rfl rfl ?_
  refine j_aload_n (n := 34) dX4_init_33 rfl rfl ?_
  refine j_iconst (n := 35) (0) dX4_init_34 rfl (by decide) ?_
  refine j_put (n := 38) 0 dX4_init_35 f_X4_25 rfl rfl rfl (Nat.le_of_ble_eq_true rfl) rfl rfl ?_
  refine j_aload_n (n := 39) dX4_init_38 rfl rfl ?_
  refine j_iconst (n := 40) (-1) dX4_init_39 rfl (by decide) ?_
  refine j_put (n := 43) 0 dX4_init_40 f_X4_28 rfl rfl rfl (Nat.le_of_ble_eq_true rfl) rfl rfl ?_
  refine j_aload_n (n := 44) dX4_init_43 rfl rfl ?_
  refine j_bipush (n := 46) (120) dX4_init_44 rfl (by decide) ?_
  refine j_newi (n := 48) 120 dX4_init_46 rfl rfl (by decide) (by omega) (by omega) (fun a4 => ?_)
  refine j_putF (n := 51) 0 dX4_init_48 f_X4_31 rfl rfl rfl (fun q h => by cases h; rfl) rfl (Nat.le_of_ble_eq_true rfl) rfl rfl ?_
  refine j_aload_n (n := 52) dX4_init_51 rfl rfl ?_
  refine j_iconst (n := 53) (0) dX4_init_52 rfl (by decide) ?_
  refine j_put (n := 56) 0 dX4_init_53 f_X4_34 rfl rfl rfl (Nat.le_of_ble_eq_true rfl) rfl rfl ?_
  refine j_aload_n (n := 57) dX4_init_56 rfl rfl ?_
  refine j_bipush (n := 59) (127) dX4_init_57 rfl (by decide) ?_
  refine j_newi (n := 61) 127 dX4_init_59 rfl rfl (by decide) (by omega) (by omega) (fun a5 => ?_)
  refine j_putF (n := 64) 0 dX4_init_61 f_X4_37 rfl rfl rfl (fun q h => by cases h; rfl) rfl (Nat.le_of_ble_eq_true rfl) rfl rfl ?_
  refine j_aload_n (n := 65) dX4_init_64 rfl rfl ?_
  refine j_bipush (n := 67) (120) dX4_init_65 rfl (by decide) ?_
  refine j_newi (n := 69) 120 dX4_init_67 rfl rfl (by decide) (by omega) (by omega) (fun a6 => ?_)
  refine j_putF (n := 72) 0 dX4_init_69 f_X4_40 rfl rfl rfl (fun q h => by cases h; rfl) rfl (Nat.le_of_ble_eq_true rfl) rfl rfl ?_
  refine j_aload_n (n := 73) dX4_init_72 rfl rfl ?_
  refine j_iconst (n := 74) (0) dX4_init_73 rfl (by decide) ?_
  refine j_newi (n := 76) 0 dX4_init_74 rfl rfl (by decide) (by omega) (by omega) (fun a7 => ?_)
  refine j_put (n := 79) 0 dX4_init_76 f_X4_43 rfl rfl rfl (Nat.le_of_ble_eq_true rfl) rfl rfl ?_
  exact j_vret dX4_init_79 rfl (by omega) (by omega) (⟨fun i => match i with | 0 => a0 | 1 => a1 | 2 => a2 | 3 => a3 | 4 => a4 | 5 => a5 | 6 => a6 | _ => a7, rfl, by simp [List.set]; rfl⟩)
def sgF (cs : Nat → Int32) (m : Nat) (s u : Nat → Int32) (i : Nat) : Nat → Int32 := fun k => if k < i then idxF cs (s k) m else u k
def prF (cs : Nat → Int32) (m cnt : Nat) (s p : Nat → Int32) (i : Nat) : Nat → Int32 := fun k => if k < i then (if k + 1 < cnt then idxF cs (256 * s k + s (k + 1)) m else -1) else p k
theorem sgF_s {cs : Nat → Int32} {m : Nat} {s u : Nat → Int32} {i : Nat} : upd (sgF cs m s u i) i (idxF cs (s i) m) = sgF cs m s u (i + 1) := by
  funext k; unfold upd sgF
  by_cases e : k = i
  · subst e; rw [if_pos rfl, if_pos (by omega)]
  · rw [if_neg e]
    by_cases h : k < i
    · rw [if_pos h, if_pos (by omega)]
    · rw [if_neg h, if_neg (by omega)]
theorem prF_s {cs : Nat → Int32} {m cnt : Nat} {s p : Nat → Int32} {i : Nat} : upd (prF cs m cnt s p i) i (if i + 1 < cnt then idxF cs (256 * s i + s (i + 1)) m else -1) = prF cs m cnt s p (i + 1) := by
  funext k; unfold upd prF
  by_cases e : k = i
  · subst e; rw [if_pos rfl, if_pos (show k < k + 1 by omega)]
  · rw [if_neg e]
    by_cases h : k < i
    · rw [if_pos h, if_pos (show k < i + 1 by omega)]
    · rw [if_neg h, if_neg (show ¬ k < i + 1 by omega)]
theorem find_loop {a0 a1 a2 a3 a4 len cnt : Nat} {s u p : Nat → Int32} {st : Int32} {e0 : va_E} {j0 j2 j3 j4 : Nat} (hC : CHI cs la be m) (hm : m ≤ 120) (h0 : rest[j0]? = some (a0, e0)) (h2 : rest[j2]? = some (a2, arI G len s)) (h3 : rest[j3]? = some (a3, arI G len u)) (h4 : rest[j4]? = some (a4, arI G len p)) (n02 : j0 ≠ j2) (n03 : j0 ≠ j3) (n04 : j0 ≠ j4) (n23 : j2 ≠ j3) (n24 : j2 ≠ j4) (n34 : j3 ≠ j4) (hcn : cnt ≤ len) (hl : len ≤ 40) :
    ∀ (k i : Nat), i + k = cnt → JJ G Y_X8_findPieces 2 0 0 (Qv (fun w => w = ptL G A C stamp closed m cs la be Ln ll ++ (((rest.set j0 (a0, txO a1 a2 a3 a4 len cnt st stamp)).set j3 (a3, arI G len (sgF cs m s u cnt))).set j4 (a4, arI G len (prF cs m cnt s p cnt))))) 22 [(0, .ref a0), (1, .ref (A 0)), (2, .int (nI i))] [] (ptL G A C stamp closed m cs la be Ln ll ++ (((rest.set j0 (a0, txO a1 a2 a3 a4 len cnt st stamp)).set j3 (a3, arI G len (sgF cs m s u i))).set j4 (a4, arI G len (prF cs m cnt s p i)))) 0 0 := by
  intro k
  induction k with
  | zero =>
    intro i hi
    obtain rfl : i = cnt := by omega
    have h0' : (((rest.set j0 (a0, txO a1 a2 a3 a4 len i st stamp)).set j3 (a3, arI G len (sgF cs m s u i))).set j4 (a4, arI G len (prF cs m i s p i)))[j0]? = some (a0, txO a1 a2 a3 a4 len i st stamp) := gs_ne (by omega) (gs_ne (by omega) (gs_eq h0))
    refine j_iload_n (n := 23) dX8_findPieces_22 rfl rfl ?_
    refine j_aload_n (n := 24) dX8_findPieces_23 rfl rfl ?_
    refine j_get (n := 27) (j0 + 8) dX8_findPieces_24 f_X8_43 rfl h0' rfl ?_
    refine j_icmp_ge (n := 30) 82 dX8_findPieces_27 (by decide) rfl (fun c => ?_) (fun c => ?_)
    · exact j_vret dX8_findPieces_82 rfl (by omega) (by omega) (rfl)
    · exact absurd (nI_le (Nat.le_refl i) (by omega)) c
  | succ k ih =>
    intro i hi
    have h0' : (((rest.set j0 (a0, txO a1 a2 a3 a4 len cnt st stamp)).set j3 (a3, arI G len (sgF cs m s u i))).set j4 (a4, arI G len (prF cs m cnt s p i)))[j0]? = some (a0, txO a1 a2 a3 a4 len cnt st stamp) := gs_ne (by omega) (gs_ne (by omega) (gs_eq h0))
    have h2' : (((rest.set j0 (a0, txO a1 a2 a3 a4 len cnt st stamp)).set j3 (a3, arI G len (sgF cs m s u i))).set j4 (a4, arI G len (prF cs m cnt s p i)))[j2]? = some (a2, arI G len s) := gs_ne (by omega) (gs_ne (by omega) (gs_ne (by omega) h2))
    have h3' : (((rest.set j0 (a0, txO a1 a2 a3 a4 len cnt st stamp)).set j3 (a3, arI G len (sgF cs m s u i))).set j4 (a4, arI G len (prF cs m cnt s p i)))[j3]? = some (a3, arI G len (sgF cs m s u i)) := gs_ne (by omega) (gs_eq (gs_ne (by omega) h3))
    have h4' : (((rest.set j0 (a0, txO a1 a2 a3 a4 len cnt st stamp)).set j3 (a3, arI G len (sgF cs m s u i))).set j4 (a4, arI G len (prF cs m cnt s p i)))[j4]? = some (a4, arI G len (prF cs m cnt s p i)) := gs_eq (gs_ne (by omega) (gs_ne (by omega) h4))
    have ih := ih (i + 1) (by omega)
    have key : ((((rest.set j0 (a0, txO a1 a2 a3 a4 len cnt st stamp)).set j3 (a3, arI G len (sgF cs m s u i))).set j4 (a4, arI G len (prF cs m cnt s p i))).set j3 (a3, arI G len (sgF cs m s u (i + 1)))).set j4 (a4, arI G len (prF cs m cnt s p (i + 1))) = ((rest.set j0 (a0, txO a1 a2 a3 a4 len cnt st stamp)).set j3 (a3, arI G len (sgF cs m s u (i + 1)))).set j4 (a4, arI G len (prF cs m cnt s p (i + 1))) := set2 n34
    rw [← key] at ih
    generalize hR : ((rest.set j0 (a0, txO a1 a2 a3 a4 len cnt st stamp)).set j3 (a3, arI G len (sgF cs m s u i))).set j4 (a4, arI G len (prF cs m cnt s p i)) = R at h0' h2' h3' h4' ih ⊢
    have hxx : ∀ f : Nat → Int32, R.set j3 (a3, arI G len f) = R.set j3 (a3, arI G len f) := fun _ => rfl
    refine j_iload_n (n := 23) dX8_findPieces_22 rfl rfl ?_
    refine j_aload_n (n := 24) dX8_findPieces_23 rfl rfl ?_
    refine j_get (n := 27) (j0 + 8) dX8_findPieces_24 f_X8_43 rfl h0' rfl ?_
    refine j_icmp_ge (n := 30) 82 dX8_findPieces_27 (by decide) rfl (fun c => absurd c (nI_ge (show i < cnt by omega) (by omega))) (fun c => ?_)
    refine j_aload_n (n := 31) dX8_findPieces_30 rfl rfl ?_
    refine j_get (n := 34) (j0 + 8) dX8_findPieces_31 f_X8_37 rfl h0' rfl ?_
    refine j_iload_n (n := 35) dX8_findPieces_34 rfl rfl ?_
    refine j_aload_n (n := 36) dX8_findPieces_35 rfl rfl ?_
    refine j_aload_n (n := 37) dX8_findPieces_36 rfl rfl ?_
    refine j_get (n := 40) (j0 + 8) dX8_findPieces_37 f_X8_34 rfl h0' rfl ?_
    refine j_iload_n (n := 41) dX8_findPieces_40 rfl rfl ?_
    refine j_iald (n := 42) (j2 + 8) i dX8_findPieces_41 rfl h2' rfl (by omega) (by omega) ?_
    refine j_callVe (n := 45) (Y1 := Y_X4_indexOf) 0 dX8_findPieces_42 m_X8_68 cy_X4_indexOf ci_X4_indexOf (c_indexOf hC hm) rfl rfl rfl rfl rfl (by omega) (by omega) (by omega) (Nat.le_of_ble_eq_true rfl) ?_
    refine j_iast (n := 46) (j3 + 8) i dX8_findPieces_45 rfl h3' rfl (by omega) (by omega) ?_
    refine j_ws (ws' := ptL G A C stamp closed m cs la be Ln ll ++ R.set j3 (a3, arI G len (sgF cs m s u (i + 1)))) (by rw [← sgF_s]; rfl) ?_
    have h0b : (R.set j3 (a3, arI G len (sgF cs m s u (i + 1))))[j0]? = some (a0, txO a1 a2 a3 a4 len cnt st stamp) := gs_ne (by omega) h0'
    have h2b : (R.set j3 (a3, arI G len (sgF cs m s u (i + 1))))[j2]? = some (a2, arI G len s) := gs_ne (by omega) h2'
    have h4b : (R.set j3 (a3, arI G len (sgF cs m s u (i + 1))))[j4]? = some (a4, arI G len (prF cs m cnt s p i)) := gs_ne (by omega) h4'
    refine j_aload_n (n := 47) dX8_findPieces_46 rfl rfl ?_
    refine j_get (n := 50) (j0 + 8) dX8_findPieces_47 f_X8_40 rfl h0b rfl ?_
    refine j_iload_n (n := 51) dX8_findPieces_50 rfl rfl ?_
    refine j_iload_n (n := 52) dX8_findPieces_51 rfl rfl ?_
    refine j_iconst (n := 53) 1 dX8_findPieces_52 rfl (by decide) ?_
    refine j_iadd (n := 54) dX8_findPieces_53 rfl ?_
    refine j_top (nI (i + 1)) (nI_1 i) ?_
    refine j_aload_n (n := 55) dX8_findPieces_54 rfl rfl ?_
    refine j_get (n := 58) (j0 + 8) dX8_findPieces_55 f_X8_43 rfl h0b rfl ?_
    have hend : ∀ z : Int32, z = (if i + 1 < cnt then idxF cs (256 * s i + s (i + 1)) m else -1) → JJ G Y_X8_findPieces 2 0 0 (Qv (fun w => w = ptL G A C stamp closed m cs la be Ln ll ++ (((rest.set j0 (a0, txO a1 a2 a3 a4 len cnt st stamp)).set j3 (a3, arI G len (sgF cs m s u cnt))).set j4 (a4, arI G len (prF cs m cnt s p cnt))))) 75 [(0, .ref a0), (1, .ref (A 0)), (2, .int (nI i))] [.int z, .int (nI i), .ref a4] (ptL G A C stamp closed m cs la be Ln ll ++ R.set j3 (a3, arI G len (sgF cs m s u (i + 1)))) 0 0 := by
      intro z hz
      refine j_iast (n := 76) (j4 + 8) i dX8_findPieces_75 rfl h4b rfl (by omega) (by omega) ?_
      refine j_iinc (n := 79) (nI (i + 1)) dX8_findPieces_76 rfl rfl (nI_inc i) (by decide) ?_
      refine j_goto 22 dX8_findPieces_79 (by decide) ?_
      refine j_ws (ws' := ptL G A C stamp closed m cs la be Ln ll ++ (R.set j3 (a3, arI G len (sgF cs m s u (i + 1)))).set j4 (a4, arI G len (prF cs m cnt s p (i + 1)))) (by rw [hz, ← prF_s]; rfl) ?_
      exact ih
    refine j_icmp_ge (n := 61) 74 dX8_findPieces_58 (by decide) rfl (fun c2 => ?_) (fun c2 => ?_)
    · refine j_iconst (n := 75) (-1) dX8_findPieces_74 rfl (by decide) ?_
      exact hend _ (by rw [if_neg (fun q => (nI_ge q (by omega)) c2)])
    · have hi1 : i + 1 < cnt := Nat.lt_of_not_le (fun q => c2 (nI_le q (by omega)))
      refine j_aload_n (n := 62) dX8_findPieces_61 rfl rfl ?_
      refine j_aload_n (n := 63) dX8_findPieces_62 rfl rfl ?_
      refine j_iload_n (n := 64) dX8_findPieces_63 rfl rfl ?_
      refine j_iconst (n := 65) 2 dX8_findPieces_64 rfl (by decide) ?_
      refine j_callVe (n := 68) (Y1 := Y_X8_pieceAt) (j0 + 8) dX8_findPieces_65 m_X8_71 cy_X8_pieceAt ci_X8_pieceAt (c_pieceAt (k0 := j0 + 8) h0b (k2 := j2 + 8) h2b hcn hl) rfl rfl rfl h0b rfl (by omega) (by omega) (by omega) (Nat.le_of_ble_eq_true rfl) ?_
      have hpc : pceF cnt s (nI i) 2 = 256 * s i + s (i + 1) := by
        unfold pceF
        rw [if_neg (by decide), nI_1 i, atF_in (by omega) (by omega), atF_in hi1 (by omega)]
      rw [hpc]
      refine j_callVe (n := 71) (Y1 := Y_X4_indexOf) 0 dX8_findPieces_68 m_X8_68 cy_X4_indexOf ci_X4_indexOf (c_indexOf hC hm) rfl rfl rfl rfl rfl (by omega) (by omega) (by omega) (Nat.le_of_ble_eq_true rfl) ?_
      refine j_goto 75 dX8_findPieces_71 (by decide) ?_
      exact hend _ (by rw [if_pos hi1])
theorem c_findPieces {a0 a1 a2 a3 a4 len cnt : Nat} {s u p : Nat → Int32} {st pst : Int32} {j0 j2 j3 j4 : Nat} (hC : CHI cs la be m) (hm : m ≤ 120) (h0 : rest[j0]? = some (a0, txO a1 a2 a3 a4 len cnt st pst)) (h2 : rest[j2]? = some (a2, arI G len s)) (h3 : rest[j3]? = some (a3, arI G len u)) (h4 : rest[j4]? = some (a4, arI G len p)) (n02 : j0 ≠ j2) (n03 : j0 ≠ j3) (n04 : j0 ≠ j4) (n23 : j2 ≠ j3) (n24 : j2 ≠ j4) (n34 : j3 ≠ j4) (hcn : cnt ≤ len) (hl : len ≤ 40) : JV G Y_X8_findPieces 2 0 0 [.ref a0, .ref (A 0)] (ptL G A C stamp closed m cs la be Ln ll ++ rest) (if pst = stamp then ptL G A C stamp closed m cs la be Ln ll ++ rest else ptL G A C stamp closed m cs la be Ln ll ++ (((rest.set j0 (a0, txO a1 a2 a3 a4 len cnt st stamp)).set j3 (a3, arI G len (sgF cs m s u cnt))).set j4 (a4, arI G len (prF cs m cnt s p cnt)))) := by
  refine JM.of [(0, .ref a0), (1, .ref (A 0))] rfl rfl (by simp) (Nat.le_of_ble_eq_true rfl) (by decide +kernel) ?_
  refine j_aload_n (n := 1) dX8_findPieces_0 rfl rfl ?_
  refine j_get (n := 4) (j0 + 8) dX8_findPieces_1 f_X8_49 rfl h0 rfl ?_
  refine j_aload_n (n := 5) dX8_findPieces_4 rfl rfl ?_
  refine j_getN (n := 8) 0 dX8_findPieces_5 f_X8_65 rfl rfl rfl ?_
  refine j_icmp_ne (n := 11) 12 dX8_findPieces_8 (by decide) rfl (fun c => ?_) (fun c => ?_)
  · rw [if_neg c]
    refine j_aload_n (n := 13) dX8_findPieces_12 rfl rfl ?_
    refine j_aload_n (n := 14) dX8_findPieces_13 rfl rfl ?_
    refine j_getN (n := 17) 0 dX8_findPieces_14 f_X8_65 rfl rfl rfl ?_
    refine j_put (n := 20) (j0 + 8) dX8_findPieces_17 f_X8_49 rfl rfl h0 (Nat.le_of_ble_eq_true rfl) rfl rfl ?_
    refine j_iconst (n := 21) (0) dX8_findPieces_20 rfl (by decide) ?_
    refine j_istore_n (n := 22) dX8_findPieces_21 rfl (by decide) ?_
    have e : ∀ f g : Nat → Int32, sgF cs m s f 0 = f ∧ prF cs m cnt s g 0 = g := fun f g => ⟨by funext k; unfold sgF; rw [if_neg (by omega)], by funext k; unfold prF; rw [if_neg (by omega)]⟩
    refine j_ws (ws' := ptL G A C stamp closed m cs la be Ln ll ++ (((rest.set j0 (a0, txO a1 a2 a3 a4 len cnt st stamp)).set j3 (a3, arI G len (sgF cs m s u 0))).set j4 (a4, arI G len (prF cs m cnt s p 0)))) ?_ ?_
    · rw [(e u p).1, (e u p).2, set_self (gs_ne n03 h3), set_self (gs_ne n04 h4)]; rfl
    · exact find_loop hC hm h0 h2 h3 h4 n02 n03 n04 n23 n24 n34 hcn hl cnt 0 (by omega)
  · rw [if_pos c]
    exact j_vret dX8_findPieces_11 rfl (by omega) (by omega) (rfl)
end PT4

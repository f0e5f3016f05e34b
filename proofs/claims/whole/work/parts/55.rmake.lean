/-! the reference: node, makeNodes -/
def NDI (o t : Nat → Int32) (q : NQ) : Prop := ∀ n : Nat, pcN n → ndk o t n = idxF q.1 (nI n) q.2
theorem idxF_add {cs : Nat → Int32} {x y : Int32} {m : Nat} : idxF (upd cs m x) y (m + 1) = if x = y then nI m else idxF cs y m := by
  show (if upd cs m x m = y then nI m else idxF (upd cs m x) y m) = _
  rw [pk_us]
  split
  · rfl
  · exact idxF_congr (cs := upd cs m x) (cs' := cs) m (fun i hi => pk_un (show i ≠ m by omega))
theorem NDI.add {o t : Nat → Int32} {q : NQ} {n : Nat} (h : NDI o t q) (hn : pcN n) : NDI (if n < 256 then upd o (n - 33) (nI q.2) else o) (if n < 256 then t else upd t (slt n) (nI q.2)) (upd q.1 q.2 (nI n), q.2 + 1) := by
  intro m hm
  have hml := (pcN_lt hm).1
  have hnl := (pcN_lt hn).1
  show _ = idxF (upd q.1 q.2 (nI n)) (nI m) (q.2 + 1)
  rw [idxF_add]
  by_cases e : n = m
  · subst e
    rw [if_pos rfl]
    unfold ndk
    by_cases hc : n < 256
    · rw [if_pos hc, if_pos hc, pk_us]
    · rw [if_neg hc, if_neg hc, pk_us]
  · rw [if_neg (fun q => e ((nI_eq hnl hml).mp q)), ← h m hm]
    unfold ndk
    by_cases hc : n < 256
    · rw [if_pos hc, if_pos hc]
      by_cases hc2 : m < 256
      · rw [if_pos hc2, if_pos hc2]
        have h1 := (pcN_lt hm).2
        have h2 := (pcN_lt hn).2
        exact pk_un (by omega)
      · rw [if_neg hc2, if_neg hc2]
    · rw [if_neg hc, if_neg hc]
      by_cases hc2 : m < 256
      · rw [if_pos hc2, if_pos hc2]
      · rw [if_neg hc2, if_neg hc2]
        refine pk_un (fun q => e ?_)
        rcases pcN_c hm with ⟨h1, -⟩ | ⟨-, -, a3, a4, a5, a6⟩
        · omega
        · rcases pcN_c hn with ⟨h1, -⟩ | ⟨-, -, b3, b4, b5, b6⟩
          · omega
          · exact slt_inj b3 b5 b6 a3 a5 a6 q.symm
section R6
variable {G : GT} {A M : Nat → Nat} {Z : Nat → Int32} {R : Nat → Nat → Int32} {P ws : va_W}
theorem r_node {n : Nat} {q : NQ} (hn : pcN n) (hq : NDI (R 7) (R 8) q) (hm : M 8 = q.2) (hlt : q.2 < 120) : JM G Y_X11_node 1 0 0 [.ref (A 0), .int (nI n)] (rW G A M Z R P) (Qi (fun r w => r = idxF (ndAdd (nI n) q).1 (nI n) (ndAdd (nI n) q).2 ∧ ∃ o t : Nat → Int32, w = rW G A (va_up M 8 (ndAdd (nI n) q).2) Z (va_up (va_up R 7 o) 8 t) P ∧ NDI o t (ndAdd (nI n) q))) := by
  have hl := (pcN_lt hn).1
  have hnq := hq n hn
  have hslf : rW G A M Z R P = rW G A (va_up M 8 q.2) Z (va_up (va_up R 7 (R 7)) 8 (R 8)) P := by
    rw [show va_up (va_up R 7 (R 7)) 8 (R 8) = R by funext j; unfold va_up; split; rename_i h; rw [h]; split; rename_i h; rw [h]; rfl, show va_up M 8 q.2 = M by funext j; unfold va_up; split; rename_i h; rw [h, hm]; rfl]
  unfold ndAdd
  refine JM.of [(0, .ref (A 0)), (1, .int (nI n))] rfl rfl (by simp) (Nat.le_of_ble_eq_true rfl) (by decide +kernel) ?_
  refine j_aload_n (n := 1) dX11_node_0 rfl rfl ?_
  refine j_iload_n (n := 2) dX11_node_1 rfl rfl ?_
  refine j_callVe (n := 5) (Y1 := Y_X11_nodeOf) 0 dX11_node_2 m_X11_127 cy_X11_nodeOf ci_X11_nodeOf (r_nodeOf hn) rfl rfl rfl rfl rfl (by omega) (by omega) (by omega) (Nat.le_of_ble_eq_true rfl) ?_
  refine j_iconst (n := 6) (-1) dX11_node_5 rfl (by decide) ?_
  rw [hnq]
  refine j_icmp_eq (n := 9) 15 dX11_node_6 (by decide) rfl (fun c => ?_) (fun c => ?_)
  · rw [if_pos c]
    have hadd := hq.add hn
    refine j_iload_n (n := 16) dX11_node_15 rfl rfl ?_
    refine j_sipush (n := 19) (256) dX11_node_16 rfl (by decide) ?_
    rcases pcN_c hn with ⟨h1, h2, h3⟩ | ⟨h1, h2, h3, h4, h5, h6⟩
    · refine j_icmp_ge (n := 22) 38 dX11_node_19 (by decide) rfl (fun c2 => ?_) (fun c2 => ?_)
      · exact absurd c2 (nI_ge (b := 256) h1 (by omega))
      · rw [if_pos h1, if_pos h1] at hadd
        refine j_aload_n (n := 23) dX11_node_22 rfl rfl ?_
        refine j_get (n := 26) 0 dX11_node_23 f_X11_29 rfl rfl rfl ?_
        refine j_iload_n (n := 27) dX11_node_26 rfl rfl ?_
        refine j_bipush (n := 29) (33) dX11_node_27 rfl (by decide) ?_
        refine j_isub (n := 30) dX11_node_29 rfl ?_
        refine j_aload_n (n := 31) dX11_node_30 rfl rfl ?_
        refine j_get (n := 34) 0 dX11_node_31 f_X11_131 rfl rfl rfl ?_
        refine j_iast (n := 35) 7 (n - 33) dX11_node_34 rfl rfl (pk_sub (b := 33) h3) h2 (by omega) ?_
        refine j_goto 67 dX11_node_35 (by decide) ?_
        refine j_aload_n (n := 68) dX11_node_67 rfl rfl ?_
        refine j_dup (n := 69) dX11_node_68 rfl rfl ?_
        refine j_get (n := 72) 0 dX11_node_69 f_X11_131 rfl rfl rfl ?_
        refine j_iconst (n := 73) (1) dX11_node_72 rfl (by decide) ?_
        refine j_iadd (n := 74) dX11_node_73 rfl ?_
        refine j_top (nI (M 8 + 1)) (nI_inc (M 8)) ?_
        refine j_put (n := 77) 0 dX11_node_74 f_X11_131 rfl rfl rfl (Nat.le_of_ble_eq_true rfl) rfl rfl ?_
        refine j_aload_n (n := 78) dX11_node_77 rfl rfl ?_
        refine j_get (n := 81) 0 dX11_node_78 f_X11_131 rfl rfl rfl ?_
        refine j_iconst (n := 82) (1) dX11_node_81 rfl (by decide) ?_
        refine j_isub (n := 83) dX11_node_82 rfl ?_
        refine j_top (nI (M 8)) (nI_sub1 (M 8)) ?_
        rw [hm] at *
        exact j_iret dX11_node_83 rfl rfl (by omega) (by omega) (⟨by rw [idxF_add, if_pos rfl], _, _, rfl, hadd⟩)
    · refine j_icmp_ge (n := 22) 38 dX11_node_19 (by decide) rfl (fun c2 => ?_) (fun c2 => ?_)
      · rw [if_neg (by omega), if_neg (by omega)] at hadd
        refine j_aload_n (n := 39) dX11_node_38 rfl rfl ?_
        refine j_get (n := 42) 0 dX11_node_39 f_X11_32 rfl rfl rfl ?_
        refine j_bipush (n := 44) (94) dX11_node_42 rfl (by decide) ?_
        refine j_iload_n (n := 45) dX11_node_44 rfl rfl ?_
        refine j_sipush (n := 48) (256) dX11_node_45 rfl (by decide) ?_
        refine j_idiv (n := 49) dX11_node_48 rfl (by decide) ?_
        refine j_bipush (n := 51) (33) dX11_node_49 rfl (by decide) ?_
        refine j_isub (n := 52) dX11_node_51 rfl ?_
        refine j_imul (n := 53) dX11_node_52 rfl ?_
        refine j_iload_n (n := 54) dX11_node_53 rfl rfl ?_
        refine j_sipush (n := 57) (256) dX11_node_54 rfl (by decide) ?_
        refine j_irem (n := 58) dX11_node_57 rfl (by decide) ?_
        refine j_iadd (n := 59) dX11_node_58 rfl ?_
        refine j_bipush (n := 61) (33) dX11_node_59 rfl (by decide) ?_
        refine j_isub (n := 62) dX11_node_61 rfl ?_
        refine j_aload_n (n := 63) dX11_node_62 rfl rfl ?_
        refine j_get (n := 66) 0 dX11_node_63 f_X11_131 rfl rfl rfl ?_
        refine j_iast (n := 67) 8 (slt n) dX11_node_66 rfl rfl (sltI hl h3 h5) h2 (by omega) ?_
        refine j_aload_n (n := 68) dX11_node_67 rfl rfl ?_
        refine j_dup (n := 69) dX11_node_68 rfl rfl ?_
        refine j_get (n := 72) 0 dX11_node_69 f_X11_131 rfl rfl rfl ?_
        refine j_iconst (n := 73) (1) dX11_node_72 rfl (by decide) ?_
        refine j_iadd (n := 74) dX11_node_73 rfl ?_
        refine j_top (nI (M 8 + 1)) (nI_inc (M 8)) ?_
        refine j_put (n := 77) 0 dX11_node_74 f_X11_131 rfl rfl rfl (Nat.le_of_ble_eq_true rfl) rfl rfl ?_
        refine j_aload_n (n := 78) dX11_node_77 rfl rfl ?_
        refine j_get (n := 81) 0 dX11_node_78 f_X11_131 rfl rfl rfl ?_
        refine j_iconst (n := 82) (1) dX11_node_81 rfl (by decide) ?_
        refine j_isub (n := 83) dX11_node_82 rfl ?_
        refine j_top (nI (M 8)) (nI_sub1 (M 8)) ?_
        rw [hm] at *
        exact j_iret dX11_node_83 rfl rfl (by omega) (by omega) (⟨by rw [idxF_add, if_pos rfl], _, _, rfl, hadd⟩)
      · exact absurd (nI_le (a := 256) h1 hl) c2
  · rw [if_neg c]
    refine j_aload_n (n := 10) dX11_node_9 rfl rfl ?_
    refine j_iload_n (n := 11) dX11_node_10 rfl rfl ?_
    refine j_callVe (n := 14) (Y1 := Y_X11_nodeOf) 0 dX11_node_11 m_X11_127 cy_X11_nodeOf ci_X11_nodeOf (r_nodeOf hn) rfl rfl rfl rfl rfl (by omega) (by omega) (by omega) (Nat.le_of_ble_eq_true rfl) ?_
    rw [hnq]
    exact j_iret dX11_node_14 rfl rfl (by omega) (by omega) (⟨rfl, R 7, R 8, hslf, hq⟩)
abbrev FAR : Nat := 1000000
theorem fw_cmp {x y z : Option Nat} (hx : ∀ v, x = some v → v ≤ 100000) (hy : ∀ v, y = some v → v ≤ 100000) (hz : ∀ v, z = some v → v ≤ 100000) : (ec 1000000 z ≤ ec 1000000 x + ec 1000000 y → oMin z (oAdd x y) = z) ∧ (¬ ec 1000000 z ≤ ec 1000000 x + ec 1000000 y → ec 1000000 x + ec 1000000 y = ec 1000000 (oMin z (oAdd x y))) := by
  cases x with
  | none =>
    have e : oMin z (oAdd none y) = z := by show oMin z none = z; exact oMin_none z
    refine ⟨fun _ => e, fun h => absurd ?_ h⟩
    cases y with
    | none =>
      show ec 1000000 z ≤ nI 1000000 + nI 1000000
      rw [nI_add]
      cases z with
      | none => exact nI_le (by omega) (by omega)
      | some c => exact nI_le (by have := hz c rfl; omega) (by omega)
    | some b =>
      have := hy b rfl
      show ec 1000000 z ≤ nI 1000000 + nI b
      rw [nI_add]
      cases z with
      | none => exact nI_le (by omega) (by omega)
      | some c => exact nI_le (by have := hz c rfl; omega) (by omega)
  | some a =>
    have ha := hx a rfl
    cases y with
    | none =>
      have e : oMin z (oAdd (some a) none) = z := by show oMin z none = z; exact oMin_none z
      refine ⟨fun _ => e, fun h => absurd ?_ h⟩
      show ec 1000000 z ≤ nI a + nI 1000000
      rw [nI_add]
      cases z with
      | none => exact nI_le (by omega) (by omega)
      | some c => exact nI_le (by have := hz c rfl; omega) (by omega)
    | some b =>
      have hb := hy b rfl
      show (ec 1000000 z ≤ nI a + nI b → oMin z (some (a + b)) = z) ∧ (¬ ec 1000000 z ≤ nI a + nI b → nI a + nI b = ec 1000000 (oMin z (some (a + b))))
      rw [nI_add]
      cases z with
      | none => exact ⟨fun h => absurd (show nI 1000000 ≤ nI (a + b) from h) (nI_ge (by omega) (by omega)), fun _ => rfl⟩
      | some c =>
        have hc := hz c rfl
        show (nI c ≤ nI (a + b) → some (min c (a + b)) = some c) ∧ (¬ nI c ≤ nI (a + b) → nI (a + b) = nI (min c (a + b)))
        constructor
        · intro h
          rw [Nat.min_eq_left ((nI_leI (by omega) (by omega)).mp h)]
        · intro h
          rw [Nat.min_eq_right (Nat.le_of_not_le (fun q => h (nI_le q (by omega))))]
theorem ndIn_neg {x : Int32} {q : NQ} (h : ndIn x q) (hq : q.2 < 2147483648) : ¬ idxF q.1 x q.2 = -1 := by
  obtain ⟨j, hj, e, -⟩ := ndIn_idx h
  rw [e]
  exact nI_nm1 (by omega)
theorem idx_keep {x y : Int32} {q : NQ} (h : ndIn x q) (hq : q.2 < 2147483648) : idxF (ndAdd y q).1 x (ndAdd y q).2 = idxF q.1 x q.2 := by
  unfold ndAdd
  split
  · rename_i h1
    rw [idxF_add]
    split
    · rename_i e; rw [e] at h1; exact absurd h1 (ndIn_neg h hq)
    · rfl
  · rfl
theorem idx_ndS {C : CT} {x : Int32} {k : Nat} (h : ndIn x (ndS C k)) : ∀ l, k + l ≤ 60 → ndIn x (ndS C (k + l)) ∧ idxF (ndS C (k + l)).1 x (ndS C (k + l)).2 = idxF (ndS C k).1 x (ndS C k).2 := by
  intro l
  induction l with
  | zero => intro _; exact ⟨h, rfl⟩
  | succ l ih =>
    intro hl
    obtain ⟨h1, h2⟩ := ih (by omega)
    have hle := ndS_le C (k + l)
    have hle2 := ndAdd_le (C.2.1 (k + l)) (ndS C (k + l))
    have h3 := ndAdd_keep (x := C.2.1 (k + l)) h1
    refine ⟨ndAdd_keep (x := C.2.2.1 (k + l)) h3, ?_⟩
    show idxF (ndAdd (C.2.2.1 (k + l)) (ndAdd (C.2.1 (k + l)) (ndS C (k + l)))).1 x (ndAdd (C.2.2.1 (k + l)) (ndAdd (C.2.1 (k + l)) (ndS C (k + l)))).2 = _
    rw [idx_keep h3 (by omega), idx_keep h1 (by omega)]
    exact h2
theorem r120 (k i : Nat) : (120 : Int32) * nI k + nI i = nI (120 * k + i) := by rw [show (120 : Int32) = nI 120 from rfl, pk_mul, nI_add]
/-- the rows of nodes and costs in place -/
abbrev nR (R : Nat → Nat → Int32) (o t c : Nat → Int32) : Nat → Nat → Int32 := va_up (va_up (va_up R 7 o) 8 t) 9 c
abbrev RP (G : GT) (A M : Nat → Nat) (Z : Nat → Int32) (R : Nat → Nat → Int32) (P : va_W) : OT := Qv (fun w => ∃ o t c : Nat → Int32, w = rW G A (va_up M 8 (nd (rCT M R)).2) Z (nR R o t c) P ∧ NDI o t (nd (rCT M R)) ∧ MX 1000000 120 (nd (rCT M R)).2 c (DD (rCT M R)))
theorem mk_t {o t : Nat → Int32} {m : Nat} {D : OM} {b f : Nat} (hm : m ≤ 120) (hb : b < m) (hf : f < m) (hd : ∀ i, D i i = some 0) (hbd : ∀ i j v, D i j = some v → v ≤ 2420) {post : OT}
    (hk : ∀ c : Nat → Int32, MX 1000000 120 m c (mixM D b (f + 1) 0) → JJ G Y_X11_makeNodes 2 0 0 post 166 [(0, .ref (A 0)), (1, .int (nI b)), (2, .int (nI (f + 1)))] [] (rW G A (va_up M 8 m) Z (nR R o t c) P) 0 0) :
    ∀ (k j : Nat), j + k = m → ∀ c : Nat → Int32, MX 1000000 120 m c (mixM D b f j) → JJ G Y_X11_makeNodes 2 0 0 post 176 [(0, .ref (A 0)), (1, .int (nI b)), (2, .int (nI f)), (3, .int (nI j))] [] (rW G A (va_up M 8 m) Z (nR R o t c) P) 0 0 := by
  intro k
  induction k with
  | zero =>
    intro j hj c hc
    obtain rfl : j = m := by omega
    refine j_iload_n (n := 177) dX11_makeNodes_176 rfl rfl ?_
    refine j_aload_n (n := 178) dX11_makeNodes_177 rfl rfl ?_
    refine j_get (n := 181) 0 dX11_makeNodes_178 f_X11_131 rfl rfl rfl ?_
    refine j_icmp_ge (n := 184) 244 dX11_makeNodes_181 (by decide) rfl (fun c1 => ?_) (fun c1 => ?_)
    · refine j_iinc (n := 247) (nI (f + 1)) dX11_makeNodes_244 rfl rfl (nI_inc f) (by decide) ?_
      refine j_goto 166 dX11_makeNodes_247 (by decide) ?_
      refine j_keep [0, 1, 2] rfl ?_
      exact hk c (hc.congr (fun i j hi hj => mixM_next hj))
    · exact absurd (show nI j ≤ nI j from nI_le (Nat.le_refl _) (by omega)) c1
  | succ k ih =>
    intro j hj c hc
    have q1 : c (120 * f + b) = ec 1000000 (D f b) := by rw [hc f b hf hb, mixM_col (hd b)]
    have q2 : c (120 * b + j) = ec 1000000 (D b j) := by rw [hc b j hb (by omega), mixM_row (hd b)]
    have q3 : c (120 * f + j) = ec 1000000 (D f j) := by rw [hc f j hf (by omega), mixM_at]
    obtain ⟨w1, w2⟩ := fw_cmp (x := D f b) (y := D b j) (z := D f j) (fun v h => by have := hbd _ _ v h; omega) (fun v h => by have := hbd _ _ v h; omega) (fun v h => by have := hbd _ _ v h; omega)
    refine j_iload_n (n := 177) dX11_makeNodes_176 rfl rfl ?_
    refine j_aload_n (n := 178) dX11_makeNodes_177 rfl rfl ?_
    refine j_get (n := 181) 0 dX11_makeNodes_178 f_X11_131 rfl rfl rfl ?_
    refine j_icmp_ge (n := 184) 244 dX11_makeNodes_181 (by decide) rfl (fun c1 => ?_) (fun c1 => ?_)
    · exact absurd (show nI m ≤ nI j from c1) (nI_ge (show j < m by omega) (by omega))
    · refine j_aload_n (n := 185) dX11_makeNodes_184 rfl rfl ?_
      refine j_get (n := 188) 0 dX11_makeNodes_185 f_X11_35 rfl rfl rfl ?_
      refine j_bipush (n := 190) (120) dX11_makeNodes_188 rfl (by decide) ?_
      refine j_iload_n (n := 191) dX11_makeNodes_190 rfl rfl ?_
      refine j_imul (n := 192) dX11_makeNodes_191 rfl ?_
      refine j_iload_n (n := 193) dX11_makeNodes_192 rfl rfl ?_
      refine j_iadd (n := 194) dX11_makeNodes_193 rfl ?_
      refine j_iald (n := 195) 9 (120 * f + b) dX11_makeNodes_194 rfl rfl (r120 f b) (by omega) (by omega) ?_
      refine j_top _ q1 ?_
      refine j_aload_n (n := 196) dX11_makeNodes_195 rfl rfl ?_
      refine j_get (n := 199) 0 dX11_makeNodes_196 f_X11_35 rfl rfl rfl ?_
      refine j_bipush (n := 201) (120) dX11_makeNodes_199 rfl (by decide) ?_
      refine j_iload_n (n := 202) dX11_makeNodes_201 rfl rfl ?_
      refine j_imul (n := 203) dX11_makeNodes_202 rfl ?_
      refine j_iload_n (n := 204) dX11_makeNodes_203 rfl rfl ?_
      refine j_iadd (n := 205) dX11_makeNodes_204 rfl ?_
      refine j_iald (n := 206) 9 (120 * b + j) dX11_makeNodes_205 rfl rfl (r120 b j) (by omega) (by omega) ?_
      refine j_top _ q2 ?_
      refine j_iadd (n := 207) dX11_makeNodes_206 rfl ?_
      refine j_istore (n := 209) dX11_makeNodes_207 rfl (by decide) ?_
      refine j_iload (n := 211) dX11_makeNodes_209 rfl rfl ?_
      refine j_aload_n (n := 212) dX11_makeNodes_211 rfl rfl ?_
      refine j_get (n := 215) 0 dX11_makeNodes_212 f_X11_35 rfl rfl rfl ?_
      refine j_bipush (n := 217) (120) dX11_makeNodes_215 rfl (by decide) ?_
      refine j_iload_n (n := 218) dX11_makeNodes_217 rfl rfl ?_
      refine j_imul (n := 219) dX11_makeNodes_218 rfl ?_
      refine j_iload_n (n := 220) dX11_makeNodes_219 rfl rfl ?_
      refine j_iadd (n := 221) dX11_makeNodes_220 rfl ?_
      refine j_iald (n := 222) 9 (120 * f + j) dX11_makeNodes_221 rfl rfl (r120 f j) (by omega) (by omega) ?_
      refine j_top _ q3 ?_
      refine j_icmp_ge (n := 225) 238 dX11_makeNodes_222 (by decide) rfl (fun c2 => ?_) (fun c2 => ?_)
      · refine j_iinc (n := 241) (nI (j + 1)) dX11_makeNodes_238 rfl rfl (nI_inc j) (by decide) ?_
        refine j_goto 176 dX11_makeNodes_241 (by decide) ?_
        refine j_keep [0, 1, 2, 3] rfl ?_
        exact ih (j + 1) (by omega) c (hc.congr (fun i j' _ _ => (mixM_same (w1 c2)).symm))
      · refine j_aload_n (n := 226) dX11_makeNodes_225 rfl rfl ?_
        refine j_get (n := 229) 0 dX11_makeNodes_226 f_X11_35 rfl rfl rfl ?_
        refine j_bipush (n := 231) (120) dX11_makeNodes_229 rfl (by decide) ?_
        refine j_iload_n (n := 232) dX11_makeNodes_231 rfl rfl ?_
        refine j_imul (n := 233) dX11_makeNodes_232 rfl ?_
        refine j_iload_n (n := 234) dX11_makeNodes_233 rfl rfl ?_
        refine j_iadd (n := 235) dX11_makeNodes_234 rfl ?_
        refine j_iload (n := 237) dX11_makeNodes_235 rfl rfl ?_
        refine j_iast (n := 238) 9 (120 * f + j) dX11_makeNodes_237 rfl rfl (r120 f j) (by omega) (by omega) ?_
        refine j_ws (ws' := rW G A (va_up M 8 m) Z (nR R o t (upd c (120 * f + j) (ec 1000000 (D f b) + ec 1000000 (D b j)))) P) rfl ?_
        refine j_iinc (n := 241) (nI (j + 1)) dX11_makeNodes_238 rfl rfl (nI_inc j) (by decide) ?_
        refine j_goto 176 dX11_makeNodes_241 (by decide) ?_
        refine j_keep [0, 1, 2, 3] rfl ?_
        exact ih (j + 1) (by omega) _ ((hc.put hm (by omega) (w2 c2)).congr (fun i j' _ _ => mixM_s.symm))
theorem mk_f {o t : Nat → Int32} {m : Nat} {D : OM} {b : Nat} (hm : m ≤ 120) (hb : b < m) (hd : ∀ i, D i i = some 0) (hbd : ∀ i j v, D i j = some v → v ≤ 2420) {post : OT}
    (hk : ∀ c : Nat → Int32, MX 1000000 120 m c (fwS D b) → JJ G Y_X11_makeNodes 2 0 0 post 156 [(0, .ref (A 0)), (1, .int (nI (b + 1)))] [] (rW G A (va_up M 8 m) Z (nR R o t c) P) 0 0) :
    ∀ (k f : Nat), f + k = m → ∀ c : Nat → Int32, MX 1000000 120 m c (mixM D b f 0) → JJ G Y_X11_makeNodes 2 0 0 post 166 [(0, .ref (A 0)), (1, .int (nI b)), (2, .int (nI f))] [] (rW G A (va_up M 8 m) Z (nR R o t c) P) 0 0 := by
  intro k
  induction k with
  | zero =>
    intro f hf c hc
    obtain rfl : f = m := by omega
    refine j_iload_n (n := 167) dX11_makeNodes_166 rfl rfl ?_
    refine j_aload_n (n := 168) dX11_makeNodes_167 rfl rfl ?_
    refine j_get (n := 171) 0 dX11_makeNodes_168 f_X11_131 rfl rfl rfl ?_
    refine j_icmp_ge (n := 174) 250 dX11_makeNodes_171 (by decide) rfl (fun c1 => ?_) (fun c1 => ?_)
    · refine j_iinc (n := 253) (nI (b + 1)) dX11_makeNodes_250 rfl rfl (nI_inc b) (by decide) ?_
      refine j_goto 156 dX11_makeNodes_253 (by decide) ?_
      refine j_keep [0, 1] rfl ?_
      exact hk c (hc.congr (fun i j hi hj => mixM_end hi))
    · exact absurd (show nI f ≤ nI f from nI_le (Nat.le_refl _) (by omega)) c1
  | succ k ih =>
    intro f hf c hc
    refine j_iload_n (n := 167) dX11_makeNodes_166 rfl rfl ?_
    refine j_aload_n (n := 168) dX11_makeNodes_167 rfl rfl ?_
    refine j_get (n := 171) 0 dX11_makeNodes_168 f_X11_131 rfl rfl rfl ?_
    refine j_icmp_ge (n := 174) 250 dX11_makeNodes_171 (by decide) rfl (fun c1 => ?_) (fun c1 => ?_)
    · exact absurd (show nI m ≤ nI f from c1) (nI_ge (show f < m by omega) (by omega))
    · refine j_iconst (n := 175) (0) dX11_makeNodes_174 rfl (by decide) ?_
      refine j_istore_n (n := 176) dX11_makeNodes_175 rfl (by decide) ?_
      exact mk_t hm hb (by omega) hd hbd (fun c hc => ih (f + 1) (by omega) c hc) m 0 (by omega) c hc
theorem mk_b {o t : Nat → Int32} (hok : CTok (rCT M R)) (hN : NDI o t (nd (rCT M R))) :
    ∀ (k b : Nat), b + k = (nd (rCT M R)).2 → ∀ c : Nat → Int32, MX 1000000 120 (nd (rCT M R)).2 c (fwN (dS (rCT M R) (nd (rCT M R)) (M 4)) b) → JJ G Y_X11_makeNodes 2 0 0 (RP G A M Z R P) 156 [(0, .ref (A 0)), (1, .int (nI b))] [] (rW G A (va_up M 8 (nd (rCT M R)).2) Z (nR R o t c) P) 0 0 := by
  have hm := nd_le hok
  have hfw := fun k (hk : k ≤ (nd (rCT M R)).2) => fw_ok hok hk
  have hDD : DD (rCT M R) = fwN (dS (rCT M R) (nd (rCT M R)) (M 4)) (nd (rCT M R)).2 := rfl
  unfold RP
  rw [hDD]
  generalize hq : (nd (rCT M R)).2 = m at hm hfw ⊢
  have hN : NDI o t (nd (rCT M R)) := hN
  intro k
  induction k with
  | zero =>
    intro b hb c hc
    obtain rfl : b = m := by omega
    refine j_iload_n (n := 157) dX11_makeNodes_156 rfl rfl ?_
    refine j_aload_n (n := 158) dX11_makeNodes_157 rfl rfl ?_
    refine j_get (n := 161) 0 dX11_makeNodes_158 f_X11_131 rfl rfl rfl ?_
    refine j_icmp_ge (n := 164) 256 dX11_makeNodes_161 (by decide) rfl (fun c1 => ?_) (fun c1 => ?_)
    · exact j_vret dX11_makeNodes_256 rfl (by omega) (by omega) (⟨o, t, c, rfl, hN, hc⟩)
    · exact absurd (show nI b ≤ nI b from nI_le (Nat.le_refl _) (by omega)) c1
  | succ k ih =>
    intro b hb c hc
    obtain ⟨d1, d2⟩ := hfw b (by omega)
    refine j_iload_n (n := 157) dX11_makeNodes_156 rfl rfl ?_
    refine j_aload_n (n := 158) dX11_makeNodes_157 rfl rfl ?_
    refine j_get (n := 161) 0 dX11_makeNodes_158 f_X11_131 rfl rfl rfl ?_
    refine j_icmp_ge (n := 164) 256 dX11_makeNodes_161 (by decide) rfl (fun c1 => ?_) (fun c1 => ?_)
    · exact absurd (show nI m ≤ nI b from c1) (nI_ge (show b < m by omega) (by omega))
    · refine j_iconst (n := 165) (0) dX11_makeNodes_164 rfl (by decide) ?_
      refine j_istore_n (n := 166) dX11_makeNodes_165 rfl (by decide) ?_
      exact mk_f hm (by omega) d1 d2 (fun c hc => ih (b + 1) (by omega) c hc) m 0 (by omega) c (by rw [mixM_0]; exact hc)
end R6

/-! the reference: its constructor -/
def rZ0 : Nat → Int32 := fun i => if i = 18 then -1 else 0
def scI (c : Nat) : Nat → Int32 := fun j => if j < c ∧ ((97 ≤ j ∧ j ≤ 122) ∨ (65 ≤ j ∧ j ≤ 90)) then 1 else 0
theorem scI_0 : scI 33 = fun _ => 0 := by
  funext j; unfold scI; rw [if_neg (by omega)]
theorem scI_s {c : Nat} {v : Int32} (hv : v = if (97 ≤ c ∧ c ≤ 122) ∨ (65 ≤ c ∧ c ≤ 90) then 1 else 0) : upd (scI c) c v = scI (c + 1) := by
  funext j
  by_cases e : j = c
  · subst e
    rw [pk_us, hv]
    unfold scI
    by_cases h : (97 ≤ j ∧ j ≤ 122) ∨ (65 ≤ j ∧ j ≤ 90)
    · rw [if_pos h, if_pos ⟨by omega, h⟩]
    · rw [if_neg h, if_neg (fun q => h q.2)]
  · rw [pk_un e]
    unfold scI
    by_cases h : j < c ∧ ((97 ≤ j ∧ j ≤ 122) ∨ (65 ≤ j ∧ j ≤ 90))
    · rw [if_pos h, if_pos ⟨by omega, h.2⟩]
    · rw [if_neg h, if_neg (fun q => h ⟨by omega, q.2⟩)]
theorem scI_e : scI 127 = iF0 11 := by
  funext j
  show scI 127 j = fillF (fillF (fun _ => 0) 65 91 1) 97 123 1 j
  unfold scI fillF
  by_cases h1 : 97 ≤ j ∧ j < 123
  · rw [if_pos h1, if_pos (by omega)]
  · rw [if_neg h1]
    by_cases h2 : 65 ≤ j ∧ j < 91
    · rw [if_pos h2, if_pos (by omega)]
    · rw [if_neg h2, if_neg (by omega)]
def rgV (v : Int32) (r : Nat) : Nat → Int32 := fun j => if j < r then v else 0
theorem rgV_0 (v : Int32) : rgV v 0 = fun _ => 0 := by
  funext j; unfold rgV; rw [if_neg (by omega)]
theorem rgV_s (v : Int32) (r : Nat) : upd (rgV v r) r v = rgV v (r + 1) := by
  funext j
  by_cases e : j = r
  · subst e; rw [pk_us]; unfold rgV; rw [if_pos (by omega)]
  · rw [pk_un e]; unfold rgV
    by_cases h : j < r
    · rw [if_pos h, if_pos (by omega)]
    · rw [if_neg h, if_neg (by omega)]
theorem pm30 {α : Type} (x0 x1 x2 x3 x4 x5 x6 x7 x8 x9 x10 x11 x12 x13 x14 x15 x16 x17 x18 x19 x20 x21 x22 x23 x24 x25 x26 x27 x28 x29 : α) (pre : List α) : ([x0, x1, x2, x3, x4, x5, x6, x7, x8, x9, x10, x11, x12, x13, x14, x15, x16, x17, x18, x19, x20, x21, x22, x23, x24, x25, x26, x27, x28, x29] ++ pre).Perm ([x29, x28, x27, x26, x25, x24, x23, x22, x21, x20, x19, x18, x17, x16, x15, x14, x13, x12, x11, x10, x9, x8, x7, x6, x5, x4, x3, x2, x1, x0] ++ pre) := by
  refine pmx [x0, x1, x2, x3, x4, x5, x6, x7, x8, x9, x10, x11, x12, x13, x14, x15, x16, x17, x18, x19, x20, x21, x22, x23, x24, x25, x26, x27, x28] ([] ++ pre) x29 ([x28, x27, x26, x25, x24, x23, x22, x21, x20, x19, x18, x17, x16, x15, x14, x13, x12, x11, x10, x9, x8, x7, x6, x5, x4, x3, x2, x1, x0] ++ pre) ?_
  refine pmx [x0, x1, x2, x3, x4, x5, x6, x7, x8, x9, x10, x11, x12, x13, x14, x15, x16, x17, x18, x19, x20, x21, x22, x23, x24, x25, x26, x27] ([] ++ pre) x28 ([x27, x26, x25, x24, x23, x22, x21, x20, x19, x18, x17, x16, x15, x14, x13, x12, x11, x10, x9, x8, x7, x6, x5, x4, x3, x2, x1, x0] ++ pre) ?_
  refine pmx [x0, x1, x2, x3, x4, x5, x6, x7, x8, x9, x10, x11, x12, x13, x14, x15, x16, x17, x18, x19, x20, x21, x22, x23, x24, x25, x26] ([] ++ pre) x27 ([x26, x25, x24, x23, x22, x21, x20, x19, x18, x17, x16, x15, x14, x13, x12, x11, x10, x9, x8, x7, x6, x5, x4, x3, x2, x1, x0] ++ pre) ?_
  refine pmx [x0, x1, x2, x3, x4, x5, x6, x7, x8, x9, x10, x11, x12, x13, x14, x15, x16, x17, x18, x19, x20, x21, x22, x23, x24, x25] ([] ++ pre) x26 ([x25, x24, x23, x22, x21, x20, x19, x18, x17, x16, x15, x14, x13, x12, x11, x10, x9, x8, x7, x6, x5, x4, x3, x2, x1, x0] ++ pre) ?_
  refine pmx [x0, x1, x2, x3, x4, x5, x6, x7, x8, x9, x10, x11, x12, x13, x14, x15, x16, x17, x18, x19, x20, x21, x22, x23, x24] ([] ++ pre) x25 ([x24, x23, x22, x21, x20, x19, x18, x17, x16, x15, x14, x13, x12, x11, x10, x9, x8, x7, x6, x5, x4, x3, x2, x1, x0] ++ pre) ?_
  refine pmx [x0, x1, x2, x3, x4, x5, x6, x7, x8, x9, x10, x11, x12, x13, x14, x15, x16, x17, x18, x19, x20, x21, x22, x23] ([] ++ pre) x24 ([x23, x22, x21, x20, x19, x18, x17, x16, x15, x14, x13, x12, x11, x10, x9, x8, x7, x6, x5, x4, x3, x2, x1, x0] ++ pre) ?_
  refine pmx [x0, x1, x2, x3, x4, x5, x6, x7, x8, x9, x10, x11, x12, x13, x14, x15, x16, x17, x18, x19, x20, x21, x22] ([] ++ pre) x23 ([x22, x21, x20, x19, x18, x17, x16, x15, x14, x13, x12, x11, x10, x9, x8, x7, x6, x5, x4, x3, x2, x1, x0] ++ pre) ?_
  refine pmx [x0, x1, x2, x3, x4, x5, x6, x7, x8, x9, x10, x11, x12, x13, x14, x15, x16, x17, x18, x19, x20, x21] ([] ++ pre) x22 ([x21, x20, x19, x18, x17, x16, x15, x14, x13, x12, x11, x10, x9, x8, x7, x6, x5, x4, x3, x2, x1, x0] ++ pre) ?_
  refine pmx [x0, x1, x2, x3, x4, x5, x6, x7, x8, x9, x10, x11, x12, x13, x14, x15, x16, x17, x18, x19, x20] ([] ++ pre) x21 ([x20, x19, x18, x17, x16, x15, x14, x13, x12, x11, x10, x9, x8, x7, x6, x5, x4, x3, x2, x1, x0] ++ pre) ?_
  refine pmx [x0, x1, x2, x3, x4, x5, x6, x7, x8, x9, x10, x11, x12, x13, x14, x15, x16, x17, x18, x19] ([] ++ pre) x20 ([x19, x18, x17, x16, x15, x14, x13, x12, x11, x10, x9, x8, x7, x6, x5, x4, x3, x2, x1, x0] ++ pre) ?_
  refine pmx [x0, x1, x2, x3, x4, x5, x6, x7, x8, x9, x10, x11, x12, x13, x14, x15, x16, x17, x18] ([] ++ pre) x19 ([x18, x17, x16, x15, x14, x13, x12, x11, x10, x9, x8, x7, x6, x5, x4, x3, x2, x1, x0] ++ pre) ?_
  refine pmx [x0, x1, x2, x3, x4, x5, x6, x7, x8, x9, x10, x11, x12, x13, x14, x15, x16, x17] ([] ++ pre) x18 ([x17, x16, x15, x14, x13, x12, x11, x10, x9, x8, x7, x6, x5, x4, x3, x2, x1, x0] ++ pre) ?_
  refine pmx [x0, x1, x2, x3, x4, x5, x6, x7, x8, x9, x10, x11, x12, x13, x14, x15, x16] ([] ++ pre) x17 ([x16, x15, x14, x13, x12, x11, x10, x9, x8, x7, x6, x5, x4, x3, x2, x1, x0] ++ pre) ?_
  refine pmx [x0, x1, x2, x3, x4, x5, x6, x7, x8, x9, x10, x11, x12, x13, x14, x15] ([] ++ pre) x16 ([x15, x14, x13, x12, x11, x10, x9, x8, x7, x6, x5, x4, x3, x2, x1, x0] ++ pre) ?_
  refine pmx [x0, x1, x2, x3, x4, x5, x6, x7, x8, x9, x10, x11, x12, x13, x14] ([] ++ pre) x15 ([x14, x13, x12, x11, x10, x9, x8, x7, x6, x5, x4, x3, x2, x1, x0] ++ pre) ?_
  refine pmx [x0, x1, x2, x3, x4, x5, x6, x7, x8, x9, x10, x11, x12, x13] ([] ++ pre) x14 ([x13, x12, x11, x10, x9, x8, x7, x6, x5, x4, x3, x2, x1, x0] ++ pre) ?_
  refine pmx [x0, x1, x2, x3, x4, x5, x6, x7, x8, x9, x10, x11, x12] ([] ++ pre) x13 ([x12, x11, x10, x9, x8, x7, x6, x5, x4, x3, x2, x1, x0] ++ pre) ?_
  refine pmx [x0, x1, x2, x3, x4, x5, x6, x7, x8, x9, x10, x11] ([] ++ pre) x12 ([x11, x10, x9, x8, x7, x6, x5, x4, x3, x2, x1, x0] ++ pre) ?_
  refine pmx [x0, x1, x2, x3, x4, x5, x6, x7, x8, x9, x10] ([] ++ pre) x11 ([x10, x9, x8, x7, x6, x5, x4, x3, x2, x1, x0] ++ pre) ?_
  refine pmx [x0, x1, x2, x3, x4, x5, x6, x7, x8, x9] ([] ++ pre) x10 ([x9, x8, x7, x6, x5, x4, x3, x2, x1, x0] ++ pre) ?_
  refine pmx [x0, x1, x2, x3, x4, x5, x6, x7, x8] ([] ++ pre) x9 ([x8, x7, x6, x5, x4, x3, x2, x1, x0] ++ pre) ?_
  refine pmx [x0, x1, x2, x3, x4, x5, x6, x7] ([] ++ pre) x8 ([x7, x6, x5, x4, x3, x2, x1, x0] ++ pre) ?_
  refine pmx [x0, x1, x2, x3, x4, x5, x6] ([] ++ pre) x7 ([x6, x5, x4, x3, x2, x1, x0] ++ pre) ?_
  refine pmx [x0, x1, x2, x3, x4, x5] ([] ++ pre) x6 ([x5, x4, x3, x2, x1, x0] ++ pre) ?_
  refine pmx [x0, x1, x2, x3, x4] ([] ++ pre) x5 ([x4, x3, x2, x1, x0] ++ pre) ?_
  refine pmx [x0, x1, x2, x3] ([] ++ pre) x4 ([x3, x2, x1, x0] ++ pre) ?_
  refine pmx [x0, x1, x2] ([] ++ pre) x3 ([x2, x1, x0] ++ pre) ?_
  refine pmx [x0, x1] ([] ++ pre) x2 ([x1, x0] ++ pre) ?_
  refine pmx [x0] ([] ++ pre) x1 ([x0] ++ pre) ?_
  refine pmx [] ([] ++ pre) x0 ([] ++ pre) ?_
  exact List.Perm.refl pre
section RQ
variable {G : GT} {A M : Nat → Nat} {Z : Nat → Int32} {R : Nat → Nat → Int32} {P pre : va_W} {post : OT}
theorem in_255 (hk : JJ G Y_X11_init 3 29 38106 post 302 [(0, .ref (A 0))] [] (rW G A M Z (va_up R 1 (scI 127)) P) 29 38106) :
    ∀ (n c : Nat), c + n = 127 → 33 ≤ c → JJ G Y_X11_init 3 29 38106 post 255 [(0, .ref (A 0)), (1, .int (nI c))] [] (rW G A M Z (va_up R 1 (scI c)) P) 29 38106 := by
  intro n
  induction n with
  | zero =>
    intro c hc h33
    obtain rfl : c = 127 := by omega
    refine j_iload_n (n := 256) dX11_init_255 rfl rfl ?_
    refine j_bipush (n := 258) (126) dX11_init_256 rfl (by decide) ?_
    refine j_icmp_gt (n := 261) 302 dX11_init_258 (by decide) rfl (fun c1 => ?_) (fun c1 => ?_)
    · refine j_keep [0] rfl ?_
      exact hk
    · exact absurd (show nI 126 < nI 127 by decide) c1
  | succ n ih =>
    intro c hc h33
    have ih := ih (c + 1) (by omega) (by omega)
    have k295 : ∀ v : Int32, v = (if (97 ≤ c ∧ c ≤ 122) ∨ (65 ≤ c ∧ c ≤ 90) then 1 else 0) → JJ G Y_X11_init 3 29 38106 post 295 [(0, .ref (A 0)), (1, .int (nI c))] [.int v, .int (nI c), .ref (A 1)] (rW G A M Z (va_up R 1 (scI c)) P) 29 38106 := by
      intro v hv
      rw [← scI_s hv] at ih
      refine j_iast (n := 296) 1 c dX11_init_295 rfl rfl rfl (by omega) (by omega) ?_
      refine j_ws (ws' := rW G A M Z (va_up R 1 (upd (scI c) c v)) P) rfl ?_
      refine j_iinc (n := 299) (nI (c + 1)) dX11_init_296 rfl rfl (nI_inc c) (by decide) ?_
      refine j_goto 255 dX11_init_299 (by decide) ?_
      exact ih
    have k290 : ((97 ≤ c ∧ c ≤ 122) ∨ (65 ≤ c ∧ c ≤ 90)) → JJ G Y_X11_init 3 29 38106 post 290 [(0, .ref (A 0)), (1, .int (nI c))] [.int (nI c), .ref (A 1)] (rW G A M Z (va_up R 1 (scI c)) P) 29 38106 := by
      intro h
      refine j_iconst (n := 291) (1) dX11_init_290 rfl (by decide) ?_
      refine j_goto 295 dX11_init_291 (by decide) ?_
      exact k295 1 (by rw [if_pos h])
    have k294 : ¬ ((97 ≤ c ∧ c ≤ 122) ∨ (65 ≤ c ∧ c ≤ 90)) → JJ G Y_X11_init 3 29 38106 post 294 [(0, .ref (A 0)), (1, .int (nI c))] [.int (nI c), .ref (A 1)] (rW G A M Z (va_up R 1 (scI c)) P) 29 38106 := by
      intro h
      refine j_iconst (n := 295) (0) dX11_init_294 rfl (by decide) ?_
      exact k295 0 (by rw [if_neg h])
    have k278 : ¬ (97 ≤ c ∧ c ≤ 122) → JJ G Y_X11_init 3 29 38106 post 278 [(0, .ref (A 0)), (1, .int (nI c))] [.int (nI c), .ref (A 1)] (rW G A M Z (va_up R 1 (scI c)) P) 29 38106 := by
      intro h
      refine j_iload_n (n := 279) dX11_init_278 rfl rfl ?_
      refine j_bipush (n := 281) (65) dX11_init_279 rfl (by decide) ?_
      refine j_icmp_lt (n := 284) 294 dX11_init_281 (by decide) rfl (fun c2 => ?_) (fun c2 => ?_)
      · have := (nI_ltI (by omega) (by omega)).mp (show nI c < nI 65 from c2)
        exact k294 (by omega)
      · have h65 : 65 ≤ c := Decidable.byContradiction (fun q => c2 (show nI c < nI 65 from nI_lt (by omega) (by omega)))
        refine j_iload_n (n := 285) dX11_init_284 rfl rfl ?_
        refine j_bipush (n := 287) (90) dX11_init_285 rfl (by decide) ?_
        refine j_icmp_gt (n := 290) 294 dX11_init_287 (by decide) rfl (fun c3 => ?_) (fun c3 => ?_)
        · have := (nI_ltI (by omega) (by omega)).mp (show nI 90 < nI c from c3)
          exact k294 (by omega)
        · have h90 : c ≤ 90 := Decidable.byContradiction (fun q => c3 (show nI 90 < nI c from nI_lt (by omega) (by omega)))
          exact k290 (by omega)
    refine j_iload_n (n := 256) dX11_init_255 rfl rfl ?_
    refine j_bipush (n := 258) (126) dX11_init_256 rfl (by decide) ?_
    refine j_icmp_gt (n := 261) 302 dX11_init_258 (by decide) rfl (fun c1 => ?_) (fun c1 => ?_)
    · exact absurd (show nI 126 < nI c from c1) (nI_nlt (by omega) (by omega))
    · refine j_aload_n (n := 262) dX11_init_261 rfl rfl ?_
      refine j_get (n := 265) 0 dX11_init_262 f_X11_7 rfl rfl rfl ?_
      refine j_iload_n (n := 266) dX11_init_265 rfl rfl ?_
      refine j_iload_n (n := 267) dX11_init_266 rfl rfl ?_
      refine j_bipush (n := 269) (97) dX11_init_267 rfl (by decide) ?_
      refine j_icmp_lt (n := 272) 278 dX11_init_269 (by decide) rfl (fun c2 => ?_) (fun c2 => ?_)
      · have := (nI_ltI (by omega) (by omega)).mp (show nI c < nI 97 from c2)
        exact k278 (by omega)
      · have h97 : 97 ≤ c := Decidable.byContradiction (fun q => c2 (show nI c < nI 97 from nI_lt (by omega) (by omega)))
        refine j_iload_n (n := 273) dX11_init_272 rfl rfl ?_
        refine j_bipush (n := 275) (122) dX11_init_273 rfl (by decide) ?_
        refine j_icmp_le (n := 278) 290 dX11_init_275 (by decide) rfl (fun c3 => ?_) (fun c3 => ?_)
        · have := (nI_leI (by omega) (by omega)).mp (show nI c ≤ nI 122 from c3)
          exact k290 (by omega)
        · have h122 : ¬ c ≤ 122 := fun q => c3 (show nI c ≤ nI 122 from nI_le q (by omega))
          exact k278 (by omega)
theorem in_304 (hk : JJ G Y_X11_init 3 29 38106 post 330 [(0, .ref (A 0))] [] (rW G A M Z (va_up (va_up R 16 (rgV 4 4)) 17 (rgV 8 4)) P) 29 38106) :
    ∀ (n r : Nat), r + n = 4 → JJ G Y_X11_init 3 29 38106 post 304 [(0, .ref (A 0)), (1, .int (nI r))] [] (rW G A M Z (va_up (va_up R 16 (rgV 4 r)) 17 (rgV 8 r)) P) 29 38106 := by
  intro n
  induction n with
  | zero =>
    intro r hr
    obtain rfl : r = 4 := by omega
    refine j_iload_n (n := 305) dX11_init_304 rfl rfl ?_
    refine j_iconst (n := 306) (4) dX11_init_305 rfl (by decide) ?_
    refine j_icmp_ge (n := 309) 330 dX11_init_306 (by decide) rfl (fun c1 => ?_) (fun c1 => ?_)
    · refine j_keep [0] rfl ?_
      exact hk
    · exact absurd (show nI 4 ≤ nI 4 by decide) c1
  | succ n ih =>
    intro r hr
    have ih := ih (r + 1) (by omega)
    rw [← rgV_s 4 r, ← rgV_s 8 r] at ih
    refine j_iload_n (n := 305) dX11_init_304 rfl rfl ?_
    refine j_iconst (n := 306) (4) dX11_init_305 rfl (by decide) ?_
    refine j_icmp_ge (n := 309) 330 dX11_init_306 (by decide) rfl (fun c1 => ?_) (fun c1 => ?_)
    · exact absurd (show nI 4 ≤ nI r from c1) (nI_ge (by omega) (by omega))
    · refine j_aload_n (n := 310) dX11_init_309 rfl rfl ?_
      refine j_get (n := 313) 0 dX11_init_310 f_X11_60 rfl rfl rfl ?_
      refine j_iload_n (n := 314) dX11_init_313 rfl rfl ?_
      refine j_iconst (n := 315) (4) dX11_init_314 rfl (by decide) ?_
      refine j_iast (n := 316) 16 r dX11_init_315 rfl rfl rfl (by omega) (by omega) ?_
      refine j_ws (ws' := rW G A M Z (va_up (va_up R 16 (upd (rgV 4 r) r 4)) 17 (rgV 8 r)) P) rfl ?_
      refine j_aload_n (n := 317) dX11_init_316 rfl rfl ?_
      refine j_get (n := 320) 0 dX11_init_317 f_X11_63 rfl rfl rfl ?_
      refine j_iload_n (n := 321) dX11_init_320 rfl rfl ?_
      refine j_bipush (n := 323) (8) dX11_init_321 rfl (by decide) ?_
      refine j_iast (n := 324) 17 r dX11_init_323 rfl rfl rfl (by omega) (by omega) ?_
      refine j_ws (ws' := rW G A M Z (va_up (va_up R 16 (upd (rgV 4 r) r 4)) 17 (upd (rgV 8 r) r 8)) P) rfl ?_
      refine j_iinc (n := 327) (nI (r + 1)) dX11_init_324 rfl rfl (nI_inc r) (by decide) ?_
      refine j_goto 304 dX11_init_327 (by decide) ?_
      exact ih
/-- the reference as it is made -/
def RI0 (M : Nat → Nat) (R : Nat → Nat → Int32) : Prop := RNI M R ∧ (∀ i, i ≠ 8 → M i = 0) ∧ R 1 = iF0 11 ∧ (∀ i, i ≠ 1 → i ≠ 7 → i ≠ 8 → i ≠ 9 → i ≠ 16 → i ≠ 17 → R i = fun _ => 0) ∧ R 16 = rgV 4 4 ∧ R 17 = rgV 8 4
theorem in_252 : JJ G Y_X11_init 3 29 38106 (Qv (fun w => ∃ (A' M : Nat → Nat) (R : Nat → Nat → Int32), A' 0 = A 0 ∧ w = rW G A' M rZ0 R P ∧ RI0 M R)) 252 [(0, .ref (A 0))] [] (rW G A (fun _ => 0) rZ0 (fun _ _ => 0) P) 29 38106 := by
  refine j_bipush (n := 254) (33) dX11_init_252 rfl (by decide) ?_
  refine j_top (nI 33) rfl ?_
  refine j_istore_n (n := 255) dX11_init_254 rfl (by decide) ?_
  refine j_inR (c := 1) (f := scI 33) scI_0.symm ?_
  refine in_255 ?_ 94 33 (by omega) (by omega)
  refine j_nmR (fun R1 a1 a2 => ?_)
  refine j_iconst (n := 303) (0) dX11_init_302 rfl (by decide) ?_
  refine j_istore_n (n := 304) dX11_init_303 rfl (by decide) ?_
  refine j_inR (c := 16) (f := rgV 4 0) (by rw [a1 16 (by omega), rgV_0]) ?_
  refine j_inR (c := 17) (f := rgV 8 0) (by rw [va_up_ne _ _ (by omega), a1 17 (by omega), rgV_0]) ?_
  refine in_304 ?_ 4 0 (by omega)
  refine j_nmR (fun R2 b1 b2 => ?_)
  have r16 : R2 16 = rgV 4 4 := by rw [b1 16 (by omega), va_up_self]
  have r1 : ∀ i, i ≠ 1 → i ≠ 16 → i ≠ 17 → R2 i = fun _ => 0 := fun i h1 h2 h3 => by rw [b1 i h3, va_up_ne _ _ h2, a1 i h1]
  have rs : R2 1 = iF0 11 := by rw [b1 1 (by omega), va_up_ne _ _ (by omega), a2, scI_e]
  have hok : CTok (rCT (fun _ => 0) R2) := ⟨by show 0 ≤ 60; omega, fun k hk => absurd hk (Nat.not_lt_zero k)⟩
  refine j_aload_n (n := 331) dX11_init_330 rfl rfl ?_
  refine j_callVv (n := 334) (Y1 := Y_X11_makeNodes) 0 dX11_init_331 m_X11_103 cy_X11_makeNodes ci_X11_makeNodes (r_makeNodes hok) rfl rfl rfl rfl rfl (by omega) (by omega) (by omega) (Nat.le_of_ble_eq_true rfl) (fun w h => ?_)
  obtain ⟨q, t, cs, rfl, hN, hX⟩ := h
  have hI : RNI (va_up (fun _ => 0) 8 (nd (rCT (fun _ => 0) R2)).2) (nR R2 q t cs) := ⟨hok, rfl, hN, hX⟩
  have hne : ∀ i, i ≠ 7 → i ≠ 8 → i ≠ 9 → nR R2 q t cs i = R2 i := fun i h1 h2 h3 => by
    unfold nR
    rw [va_up_ne _ _ h3, va_up_ne _ _ h2, va_up_ne _ _ h1]
  exact j_vret dX11_init_334 rfl (by omega) (by omega) (⟨A, _, _, rfl, rfl, hI, fun i h => va_up_ne _ _ h, (hne 1 (by omega) (by omega) (by omega)).trans rs, fun i h1 h2 h3 h4 h5 h6 => (hne i h2 h3 h4).trans (r1 i h1 h5 h6), (hne 16 (by omega) (by omega) (by omega)).trans r16, (hne 17 (by omega) (by omega) (by omega)).trans b2⟩)
theorem r_init {a0 : Nat} : JM G Y_X11_init 3 29 38106 [.ref a0] ((a0, .inr (11, [.null, .null, .null, .int 0, .int 0, .null, .null, .null, .int 0, .null, .null, .null, .int 0, .null, .null, .null, .int 0, .int 0, .int 0, .null, .null, .null, .int 0, .int 0, .null, .null, .null, .int 0, .null, .null, .null, .null, .null, .int 0, .null, .null, .null, .int 0, .null, .null, .null, .int 0])) :: pre) (Qv (fun w => ∃ (A M : Nat → Nat) (R : Nat → Nat → Int32), A 0 = a0 ∧ w = rW G A M rZ0 R pre ∧ RI0 M R)) := by
  refine JM.of [(0, .ref a0)] rfl rfl (by simp) (Nat.le_of_ble_eq_true rfl) (by decide +kernel) ?_
  refine j_aload_n (n := 1) dX11_init_0 rfl rfl ?_
  refine j_objInit (n := 4) dX11_init_1 m_X11_1 rfl (by omega) (Nat.le_of_ble_eq_true rfl) ?_
  refine j_aload_n (n := 5) dX11_init_4 rfl rfl ?_
  refine j_bipush (n := 7) (127) dX11_init_5 rfl (by decide) ?_
  refine j_newi (n := 9) 127 dX11_init_7 rfl rfl (by decide) (by omega) (by omega) (fun a1 => ?_)
  refine j_perm _ (List.perm_append_singleton _ _) ?_
  refine j_putF (n := 12) 1 dX11_init_9 f_X11_7 rfl rfl rfl (fun q h => by cases h; rfl) rfl (Nat.le_of_ble_eq_true rfl) rfl rfl ?_
  refine j_ws (ws' := [(a1, arI G 127 (fun _ => 0)), (a0, .inr (11, [.ref a1, .null, .null, .int 0, .int 0, .null, .null, .null, .int 0, .null, .null, .null, .int 0, .null, .null, .null, .int 0, .int 0, .int 0, .null, .null, .null, .int 0, .int 0, .null, .null, .null, .int 0, .null, .null, .null, .null, .null, .int 0, .null, .null, .null, .int 0, .null, .null, .null, .int 0]))] ++ pre) rfl ?_
  refine j_aload_n (n := 13) dX11_init_12 rfl rfl ?_
  refine j_bipush (n := 15) (127) dX11_init_13 rfl (by decide) ?_
  refine j_newi (n := 17) 127 dX11_init_15 rfl rfl (by decide) (by omega) (by omega) (fun a2 => ?_)
  refine j_perm _ (List.perm_append_singleton _ _) ?_
  refine j_putF (n := 20) 2 dX11_init_17 f_X11_13 rfl rfl rfl (fun q h => by cases h; rfl) rfl (Nat.le_of_ble_eq_true rfl) rfl rfl ?_
  refine j_ws (ws' := [(a2, arI G 127 (fun _ => 0)), (a1, arI G 127 (fun _ => 0)), (a0, .inr (11, [.ref a1, .ref a2, .null, .int 0, .int 0, .null, .null, .null, .int 0, .null, .null, .null, .int 0, .null, .null, .null, .int 0, .int 0, .int 0, .null, .null, .null, .int 0, .int 0, .null, .null, .null, .int 0, .null, .null, .null, .null, .null, .int 0, .null, .null, .null, .int 0, .null, .null, .null, .int 0]))] ++ pre) rfl ?_
  refine j_aload_n (n := 21) dX11_init_20 rfl rfl ?_
  refine j_sipush (n := 24) (200) dX11_init_21 rfl (by decide) ?_
  refine j_newb (n := 26) 200 dX11_init_24 rfl rfl (by decide) (by omega) (by omega) (fun a3 => ?_)
  refine j_perm _ (List.perm_append_singleton _ _) ?_
  refine j_putF (n := 29) 3 dX11_init_26 f_X11_16 rfl rfl rfl (fun q h => by cases h; rfl) rfl (Nat.le_of_ble_eq_true rfl) rfl rfl ?_
  refine j_ws (ws' := [(a3, arB G 200 (fun _ => 0)), (a2, arI G 127 (fun _ => 0)), (a1, arI G 127 (fun _ => 0)), (a0, .inr (11, [.ref a1, .ref a2, .ref a3, .int 0, .int 0, .null, .null, .null, .int 0, .null, .null, .null, .int 0, .null, .null, .null, .int 0, .int 0, .int 0, .null, .null, .null, .int 0, .int 0, .null, .null, .null, .int 0, .null, .null, .null, .null, .null, .int 0, .null, .null, .null, .int 0, .null, .null, .null, .int 0]))] ++ pre) rfl ?_
  refine j_aload_n (n := 30) dX11_init_29 rfl rfl ?_
  refine j_bipush (n := 32) (60) dX11_init_30 rfl (by decide) ?_
  refine j_newi (n := 34) 60 dX11_init_32 rfl rfl (by decide) (by omega) (by omega) (fun a4 => ?_)
  refine j_perm _ (List.perm_append_singleton _ _) ?_
  refine j_putF (n := 37) 4 dX11_init_34 f_X11_20 rfl rfl rfl (fun q h => by cases h; rfl) rfl (Nat.le_of_ble_eq_true rfl) rfl rfl ?_
  refine j_ws (ws' := [(a4, arI G 60 (fun _ => 0)), (a3, arB G 200 (fun _ => 0)), (a2, arI G 127 (fun _ => 0)), (a1, arI G 127 (fun _ => 0)), (a0, .inr (11, [.ref a1, .ref a2, .ref a3, .int 0, .int 0, .ref a4, .null, .null, .int 0, .null, .null, .null, .int 0, .null, .null, .null, .int 0, .int 0, .int 0, .null, .null, .null, .int 0, .int 0, .null, .null, .null, .int 0, .null, .null, .null, .null, .null, .int 0, .null, .null, .null, .int 0, .null, .null, .null, .int 0]))] ++ pre) rfl ?_
  refine j_aload_n (n := 38) dX11_init_37 rfl rfl ?_
  refine j_bipush (n := 40) (60) dX11_init_38 rfl (by decide) ?_
  refine j_newi (n := 42) 60 dX11_init_40 rfl rfl (by decide) (by omega) (by omega) (fun a5 => ?_)
  refine j_perm _ (List.perm_append_singleton _ _) ?_
  refine j_putF (n := 45) 5 dX11_init_42 f_X11_23 rfl rfl rfl (fun q h => by cases h; rfl) rfl (Nat.le_of_ble_eq_true rfl) rfl rfl ?_
  refine j_ws (ws' := [(a5, arI G 60 (fun _ => 0)), (a4, arI G 60 (fun _ => 0)), (a3, arB G 200 (fun _ => 0)), (a2, arI G 127 (fun _ => 0)), (a1, arI G 127 (fun _ => 0)), (a0, .inr (11, [.ref a1, .ref a2, .ref a3, .int 0, .int 0, .ref a4, .ref a5, .null, .int 0, .null, .null, .null, .int 0, .null, .null, .null, .int 0, .int 0, .int 0, .null, .null, .null, .int 0, .int 0, .null, .null, .null, .int 0, .null, .null, .null, .null, .null, .int 0, .null, .null, .null, .int 0, .null, .null, .null, .int 0]))] ++ pre) rfl ?_
  refine j_aload_n (n := 46) dX11_init_45 rfl rfl ?_
  refine j_bipush (n := 48) (60) dX11_init_46 rfl (by decide) ?_
  refine j_newi (n := 50) 60 dX11_init_48 rfl rfl (by decide) (by omega) (by omega) (fun a6 => ?_)
  refine j_perm _ (List.perm_append_singleton _ _) ?_
  refine j_putF (n := 53) 6 dX11_init_50 f_X11_26 rfl rfl rfl (fun q h => by cases h; rfl) rfl (Nat.le_of_ble_eq_true rfl) rfl rfl ?_
  refine j_ws (ws' := [(a6, arI G 60 (fun _ => 0)), (a5, arI G 60 (fun _ => 0)), (a4, arI G 60 (fun _ => 0)), (a3, arB G 200 (fun _ => 0)), (a2, arI G 127 (fun _ => 0)), (a1, arI G 127 (fun _ => 0)), (a0, .inr (11, [.ref a1, .ref a2, .ref a3, .int 0, .int 0, .ref a4, .ref a5, .ref a6, .int 0, .null, .null, .null, .int 0, .null, .null, .null, .int 0, .int 0, .int 0, .null, .null, .null, .int 0, .int 0, .null, .null, .null, .int 0, .null, .null, .null, .null, .null, .int 0, .null, .null, .null, .int 0, .null, .null, .null, .int 0]))] ++ pre) rfl ?_
  refine j_aload_n (n := 54) dX11_init_53 rfl rfl ?_
  refine j_bipush (n := 56) (94) dX11_init_54 rfl (by decide) ?_
  refine j_newi (n := 58) 94 dX11_init_56 rfl rfl (by decide) (by omega) (by omega) (fun a7 => ?_)
  refine j_perm _ (List.perm_append_singleton _ _) ?_
  refine j_putF (n := 61) 7 dX11_init_58 f_X11_29 rfl rfl rfl (fun q h => by cases h; rfl) rfl (Nat.le_of_ble_eq_true rfl) rfl rfl ?_
  refine j_ws (ws' := [(a7, arI G 94 (fun _ => 0)), (a6, arI G 60 (fun _ => 0)), (a5, arI G 60 (fun _ => 0)), (a4, arI G 60 (fun _ => 0)), (a3, arB G 200 (fun _ => 0)), (a2, arI G 127 (fun _ => 0)), (a1, arI G 127 (fun _ => 0)), (a0, .inr (11, [.ref a1, .ref a2, .ref a3, .int 0, .int 0, .ref a4, .ref a5, .ref a6, .int 0, .ref a7, .null, .null, .int 0, .null, .null, .null, .int 0, .int 0, .int 0, .null, .null, .null, .int 0, .int 0, .null, .null, .null, .int 0, .null, .null, .null, .null, .null, .int 0, .null, .null, .null, .int 0, .null, .null, .null, .int 0]))] ++ pre) rfl ?_
  refine j_aload_n (n := 62) dX11_init_61 rfl rfl ?_
  refine j_sipush (n := 65) (8836) dX11_init_62 rfl (by decide) ?_
  refine j_newi (n := 67) 8836 dX11_init_65 rfl rfl (by decide) (by omega) (by omega) (fun a8 => ?_)
  refine j_perm _ (List.perm_append_singleton _ _) ?_
  refine j_putF (n := 70) 8 dX11_init_67 f_X11_32 rfl rfl rfl (fun q h => by cases h; rfl) rfl (Nat.le_of_ble_eq_true rfl) rfl rfl ?_
  refine j_ws (ws' := [(a8, arI G 8836 (fun _ => 0)), (a7, arI G 94 (fun _ => 0)), (a6, arI G 60 (fun _ => 0)), (a5, arI G 60 (fun _ => 0)), (a4, arI G 60 (fun _ => 0)), (a3, arB G 200 (fun _ => 0)), (a2, arI G 127 (fun _ => 0)), (a1, arI G 127 (fun _ => 0)), (a0, .inr (11, [.ref a1, .ref a2, .ref a3, .int 0, .int 0, .ref a4, .ref a5, .ref a6, .int 0, .ref a7, .ref a8, .null, .int 0, .null, .null, .null, .int 0, .int 0, .int 0, .null, .null, .null, .int 0, .int 0, .null, .null, .null, .int 0, .null, .null, .null, .null, .null, .int 0, .null, .null, .null, .int 0, .null, .null, .null, .int 0]))] ++ pre) rfl ?_
  refine j_aload_n (n := 71) dX11_init_70 rfl rfl ?_
  refine j_sipush (n := 74) (14400) dX11_init_71 rfl (by decide) ?_
  refine j_newi (n := 76) 14400 dX11_init_74 rfl rfl (by decide) (by omega) (by omega) (fun a9 => ?_)
  refine j_perm _ (List.perm_append_singleton _ _) ?_
  refine j_putF (n := 79) 9 dX11_init_76 f_X11_35 rfl rfl rfl (fun q h => by cases h; rfl) rfl (Nat.le_of_ble_eq_true rfl) rfl rfl ?_
  refine j_ws (ws' := [(a9, arI G 14400 (fun _ => 0)), (a8, arI G 8836 (fun _ => 0)), (a7, arI G 94 (fun _ => 0)), (a6, arI G 60 (fun _ => 0)), (a5, arI G 60 (fun _ => 0)), (a4, arI G 60 (fun _ => 0)), (a3, arB G 200 (fun _ => 0)), (a2, arI G 127 (fun _ => 0)), (a1, arI G 127 (fun _ => 0)), (a0, .inr (11, [.ref a1, .ref a2, .ref a3, .int 0, .int 0, .ref a4, .ref a5, .ref a6, .int 0, .ref a7, .ref a8, .ref a9, .int 0, .null, .null, .null, .int 0, .int 0, .int 0, .null, .null, .null, .int 0, .int 0, .null, .null, .null, .int 0, .null, .null, .null, .null, .null, .int 0, .null, .null, .null, .int 0, .null, .null, .null, .int 0]))] ++ pre) rfl ?_
  refine j_aload_n (n := 80) dX11_init_79 rfl rfl ?_
  refine j_bipush (n := 82) (8) dX11_init_80 rfl (by decide) ?_
  refine j_newi (n := 84) 8 dX11_init_82 rfl rfl (by decide) (by omega) (by omega) (fun a10 => ?_)
  refine j_perm _ (List.perm_append_singleton _ _) ?_
  refine j_putF (n := 87) 10 dX11_init_84 f_X11_38 rfl rfl rfl (fun q h => by cases h; rfl) rfl (Nat.le_of_ble_eq_true rfl) rfl rfl ?_
  refine j_ws (ws' := [(a10, arI G 8 (fun _ => 0)), (a9, arI G 14400 (fun _ => 0)), (a8, arI G 8836 (fun _ => 0)), (a7, arI G 94 (fun _ => 0)), (a6, arI G 60 (fun _ => 0)), (a5, arI G 60 (fun _ => 0)), (a4, arI G 60 (fun _ => 0)), (a3, arB G 200 (fun _ => 0)), (a2, arI G 127 (fun _ => 0)), (a1, arI G 127 (fun _ => 0)), (a0, .inr (11, [.ref a1, .ref a2, .ref a3, .int 0, .int 0, .ref a4, .ref a5, .ref a6, .int 0, .ref a7, .ref a8, .ref a9, .int 0, .ref a10, .null, .null, .int 0, .int 0, .int 0, .null, .null, .null, .int 0, .int 0, .null, .null, .null, .int 0, .null, .null, .null, .null, .null, .int 0, .null, .null, .null, .int 0, .null, .null, .null, .int 0]))] ++ pre) rfl ?_
  refine j_aload_n (n := 88) dX11_init_87 rfl rfl ?_
  refine j_sipush (n := 91) (8040) dX11_init_88 rfl (by decide) ?_
  refine j_newb (n := 93) 8040 dX11_init_91 rfl rfl (by decide) (by omega) (by omega) (fun a11 => ?_)
  refine j_perm _ (List.perm_append_singleton _ _) ?_
  refine j_putF (n := 96) 11 dX11_init_93 f_X11_41 rfl rfl rfl (fun q h => by cases h; rfl) rfl (Nat.le_of_ble_eq_true rfl) rfl rfl ?_
  refine j_ws (ws' := [(a11, arB G 8040 (fun _ => 0)), (a10, arI G 8 (fun _ => 0)), (a9, arI G 14400 (fun _ => 0)), (a8, arI G 8836 (fun _ => 0)), (a7, arI G 94 (fun _ => 0)), (a6, arI G 60 (fun _ => 0)), (a5, arI G 60 (fun _ => 0)), (a4, arI G 60 (fun _ => 0)), (a3, arB G 200 (fun _ => 0)), (a2, arI G 127 (fun _ => 0)), (a1, arI G 127 (fun _ => 0)), (a0, .inr (11, [.ref a1, .ref a2, .ref a3, .int 0, .int 0, .ref a4, .ref a5, .ref a6, .int 0, .ref a7, .ref a8, .ref a9, .int 0, .ref a10, .ref a11, .null, .int 0, .int 0, .int 0, .null, .null, .null, .int 0, .int 0, .null, .null, .null, .int 0, .null, .null, .null, .null, .null, .int 0, .null, .null, .null, .int 0, .null, .null, .null, .int 0]))] ++ pre) rfl ?_
  refine j_aload_n (n := 97) dX11_init_96 rfl rfl ?_
  refine j_sipush (n := 100) (201) dX11_init_97 rfl (by decide) ?_
  refine j_newi (n := 102) 201 dX11_init_100 rfl rfl (by decide) (by omega) (by omega) (fun a12 => ?_)
  refine j_perm _ (List.perm_append_singleton _ _) ?_
  refine j_putF (n := 105) 12 dX11_init_102 f_X11_44 rfl rfl rfl (fun q h => by cases h; rfl) rfl (Nat.le_of_ble_eq_true rfl) rfl rfl ?_
  refine j_ws (ws' := [(a12, arI G 201 (fun _ => 0)), (a11, arB G 8040 (fun _ => 0)), (a10, arI G 8 (fun _ => 0)), (a9, arI G 14400 (fun _ => 0)), (a8, arI G 8836 (fun _ => 0)), (a7, arI G 94 (fun _ => 0)), (a6, arI G 60 (fun _ => 0)), (a5, arI G 60 (fun _ => 0)), (a4, arI G 60 (fun _ => 0)), (a3, arB G 200 (fun _ => 0)), (a2, arI G 127 (fun _ => 0)), (a1, arI G 127 (fun _ => 0)), (a0, .inr (11, [.ref a1, .ref a2, .ref a3, .int 0, .int 0, .ref a4, .ref a5, .ref a6, .int 0, .ref a7, .ref a8, .ref a9, .int 0, .ref a10, .ref a11, .ref a12, .int 0, .int 0, .int 0, .null, .null, .null, .int 0, .int 0, .null, .null, .null, .int 0, .null, .null, .null, .null, .null, .int 0, .null, .null, .null, .int 0, .null, .null, .null, .int 0]))] ++ pre) rfl ?_
  refine j_aload_n (n := 106) dX11_init_105 rfl rfl ?_
  refine j_iconst (n := 107) (-1) dX11_init_106 rfl (by decide) ?_
  refine j_put (n := 110) 12 dX11_init_107 f_X11_47 rfl rfl rfl (Nat.le_of_ble_eq_true rfl) rfl rfl ?_
  refine j_ws (ws' := [(a12, arI G 201 (fun _ => 0)), (a11, arB G 8040 (fun _ => 0)), (a10, arI G 8 (fun _ => 0)), (a9, arI G 14400 (fun _ => 0)), (a8, arI G 8836 (fun _ => 0)), (a7, arI G 94 (fun _ => 0)), (a6, arI G 60 (fun _ => 0)), (a5, arI G 60 (fun _ => 0)), (a4, arI G 60 (fun _ => 0)), (a3, arB G 200 (fun _ => 0)), (a2, arI G 127 (fun _ => 0)), (a1, arI G 127 (fun _ => 0)), (a0, .inr (11, [.ref a1, .ref a2, .ref a3, .int 0, .int 0, .ref a4, .ref a5, .ref a6, .int 0, .ref a7, .ref a8, .ref a9, .int 0, .ref a10, .ref a11, .ref a12, .int 0, .int 0, .int (-1), .null, .null, .null, .int 0, .int 0, .null, .null, .null, .int 0, .null, .null, .null, .null, .null, .int 0, .null, .null, .null, .int 0, .null, .null, .null, .int 0]))] ++ pre) rfl ?_
  refine j_aload_n (n := 111) dX11_init_110 rfl rfl ?_
  refine j_bipush (n := 113) (40) dX11_init_111 rfl (by decide) ?_
  refine j_newi (n := 115) 40 dX11_init_113 rfl rfl (by decide) (by omega) (by omega) (fun a13 => ?_)
  refine j_perm _ (List.perm_append_singleton _ _) ?_
  refine j_putF (n := 118) 13 dX11_init_115 f_X11_51 rfl rfl rfl (fun q h => by cases h; rfl) rfl (Nat.le_of_ble_eq_true rfl) rfl rfl ?_
  refine j_ws (ws' := [(a13, arI G 40 (fun _ => 0)), (a12, arI G 201 (fun _ => 0)), (a11, arB G 8040 (fun _ => 0)), (a10, arI G 8 (fun _ => 0)), (a9, arI G 14400 (fun _ => 0)), (a8, arI G 8836 (fun _ => 0)), (a7, arI G 94 (fun _ => 0)), (a6, arI G 60 (fun _ => 0)), (a5, arI G 60 (fun _ => 0)), (a4, arI G 60 (fun _ => 0)), (a3, arB G 200 (fun _ => 0)), (a2, arI G 127 (fun _ => 0)), (a1, arI G 127 (fun _ => 0)), (a0, .inr (11, [.ref a1, .ref a2, .ref a3, .int 0, .int 0, .ref a4, .ref a5, .ref a6, .int 0, .ref a7, .ref a8, .ref a9, .int 0, .ref a10, .ref a11, .ref a12, .int 0, .int 0, .int (-1), .ref a13, .null, .null, .int 0, .int 0, .null, .null, .null, .int 0, .null, .null, .null, .null, .null, .int 0, .null, .null, .null, .int 0, .null, .null, .null, .int 0]))] ++ pre) rfl ?_
  refine j_aload_n (n := 119) dX11_init_118 rfl rfl ?_
  refine j_bipush (n := 121) (40) dX11_init_119 rfl (by decide) ?_
  refine j_newi (n := 123) 40 dX11_init_121 rfl rfl (by decide) (by omega) (by omega) (fun a14 => ?_)
  refine j_perm _ (List.perm_append_singleton _ _) ?_
  refine j_putF (n := 126) 14 dX11_init_123 f_X11_54 rfl rfl rfl (fun q h => by cases h; rfl) rfl (Nat.le_of_ble_eq_true rfl) rfl rfl ?_
  refine j_ws (ws' := [(a14, arI G 40 (fun _ => 0)), (a13, arI G 40 (fun _ => 0)), (a12, arI G 201 (fun _ => 0)), (a11, arB G 8040 (fun _ => 0)), (a10, arI G 8 (fun _ => 0)), (a9, arI G 14400 (fun _ => 0)), (a8, arI G 8836 (fun _ => 0)), (a7, arI G 94 (fun _ => 0)), (a6, arI G 60 (fun _ => 0)), (a5, arI G 60 (fun _ => 0)), (a4, arI G 60 (fun _ => 0)), (a3, arB G 200 (fun _ => 0)), (a2, arI G 127 (fun _ => 0)), (a1, arI G 127 (fun _ => 0)), (a0, .inr (11, [.ref a1, .ref a2, .ref a3, .int 0, .int 0, .ref a4, .ref a5, .ref a6, .int 0, .ref a7, .ref a8, .ref a9, .int 0, .ref a10, .ref a11, .ref a12, .int 0, .int 0, .int (-1), .ref a13, .ref a14, .null, .int 0, .int 0, .null, .null, .null, .int 0, .null, .null, .null, .null, .null, .int 0, .null, .null, .null, .int 0, .null, .null, .null, .int 0]))] ++ pre) rfl ?_
  refine j_aload_n (n := 127) dX11_init_126 rfl rfl ?_
  refine j_sipush (n := 130) (1681) dX11_init_127 rfl (by decide) ?_
  refine j_newi (n := 132) 1681 dX11_init_130 rfl rfl (by decide) (by omega) (by omega) (fun a15 => ?_)
  refine j_perm _ (List.perm_append_singleton _ _) ?_
  refine j_putF (n := 135) 15 dX11_init_132 f_X11_57 rfl rfl rfl (fun q h => by cases h; rfl) rfl (Nat.le_of_ble_eq_true rfl) rfl rfl ?_
  refine j_ws (ws' := [(a15, arI G 1681 (fun _ => 0)), (a14, arI G 40 (fun _ => 0)), (a13, arI G 40 (fun _ => 0)), (a12, arI G 201 (fun _ => 0)), (a11, arB G 8040 (fun _ => 0)), (a10, arI G 8 (fun _ => 0)), (a9, arI G 14400 (fun _ => 0)), (a8, arI G 8836 (fun _ => 0)), (a7, arI G 94 (fun _ => 0)), (a6, arI G 60 (fun _ => 0)), (a5, arI G 60 (fun _ => 0)), (a4, arI G 60 (fun _ => 0)), (a3, arB G 200 (fun _ => 0)), (a2, arI G 127 (fun _ => 0)), (a1, arI G 127 (fun _ => 0)), (a0, .inr (11, [.ref a1, .ref a2, .ref a3, .int 0, .int 0, .ref a4, .ref a5, .ref a6, .int 0, .ref a7, .ref a8, .ref a9, .int 0, .ref a10, .ref a11, .ref a12, .int 0, .int 0, .int (-1), .ref a13, .ref a14, .ref a15, .int 0, .int 0, .null, .null, .null, .int 0, .null, .null, .null, .null, .null, .int 0, .null, .null, .null, .int 0, .null, .null, .null, .int 0]))] ++ pre) rfl ?_
  refine j_aload_n (n := 136) dX11_init_135 rfl rfl ?_
  refine j_iconst (n := 137) (4) dX11_init_136 rfl (by decide) ?_
  refine j_newi (n := 139) 4 dX11_init_137 rfl rfl (by decide) (by omega) (by omega) (fun a16 => ?_)
  refine j_perm _ (List.perm_append_singleton _ _) ?_
  refine j_putF (n := 142) 16 dX11_init_139 f_X11_60 rfl rfl rfl (fun q h => by cases h; rfl) rfl (Nat.le_of_ble_eq_true rfl) rfl rfl ?_
  refine j_ws (ws' := [(a16, arI G 4 (fun _ => 0)), (a15, arI G 1681 (fun _ => 0)), (a14, arI G 40 (fun _ => 0)), (a13, arI G 40 (fun _ => 0)), (a12, arI G 201 (fun _ => 0)), (a11, arB G 8040 (fun _ => 0)), (a10, arI G 8 (fun _ => 0)), (a9, arI G 14400 (fun _ => 0)), (a8, arI G 8836 (fun _ => 0)), (a7, arI G 94 (fun _ => 0)), (a6, arI G 60 (fun _ => 0)), (a5, arI G 60 (fun _ => 0)), (a4, arI G 60 (fun _ => 0)), (a3, arB G 200 (fun _ => 0)), (a2, arI G 127 (fun _ => 0)), (a1, arI G 127 (fun _ => 0)), (a0, .inr (11, [.ref a1, .ref a2, .ref a3, .int 0, .int 0, .ref a4, .ref a5, .ref a6, .int 0, .ref a7, .ref a8, .ref a9, .int 0, .ref a10, .ref a11, .ref a12, .int 0, .int 0, .int (-1), .ref a13, .ref a14, .ref a15, .int 0, .int 0, .ref a16, .null, .null, .int 0, .null, .null, .null, .null, .null, .int 0, .null, .null, .null, .int 0, .null, .null, .null, .int 0]))] ++ pre) rfl ?_
  refine j_aload_n (n := 143) dX11_init_142 rfl rfl ?_
  refine j_iconst (n := 144) (4) dX11_init_143 rfl (by decide) ?_
  refine j_newi (n := 146) 4 dX11_init_144 rfl rfl (by decide) (by omega) (by omega) (fun a17 => ?_)
  refine j_perm _ (List.perm_append_singleton _ _) ?_
  refine j_putF (n := 149) 17 dX11_init_146 f_X11_63 rfl rfl rfl (fun q h => by cases h; rfl) rfl (Nat.le_of_ble_eq_true rfl) rfl rfl ?_
  refine j_ws (ws' := [(a17, arI G 4 (fun _ => 0)), (a16, arI G 4 (fun _ => 0)), (a15, arI G 1681 (fun _ => 0)), (a14, arI G 40 (fun _ => 0)), (a13, arI G 40 (fun _ => 0)), (a12, arI G 201 (fun _ => 0)), (a11, arB G 8040 (fun _ => 0)), (a10, arI G 8 (fun _ => 0)), (a9, arI G 14400 (fun _ => 0)), (a8, arI G 8836 (fun _ => 0)), (a7, arI G 94 (fun _ => 0)), (a6, arI G 60 (fun _ => 0)), (a5, arI G 60 (fun _ => 0)), (a4, arI G 60 (fun _ => 0)), (a3, arB G 200 (fun _ => 0)), (a2, arI G 127 (fun _ => 0)), (a1, arI G 127 (fun _ => 0)), (a0, .inr (11, [.ref a1, .ref a2, .ref a3, .int 0, .int 0, .ref a4, .ref a5, .ref a6, .int 0, .ref a7, .ref a8, .ref a9, .int 0, .ref a10, .ref a11, .ref a12, .int 0, .int 0, .int (-1), .ref a13, .ref a14, .ref a15, .int 0, .int 0, .ref a16, .ref a17, .null, .int 0, .null, .null, .null, .null, .null, .int 0, .null, .null, .null, .int 0, .null, .null, .null, .int 0]))] ++ pre) rfl ?_
  refine j_aload_n (n := 150) dX11_init_149 rfl rfl ?_
  refine j_iconst (n := 151) (4) dX11_init_150 rfl (by decide) ?_
  refine j_newz (n := 153) 4 dX11_init_151 rfl rfl (by decide) (by omega) (by omega) (fun a18 => ?_)
  refine j_perm _ (List.perm_append_singleton _ _) ?_
  refine j_putF (n := 156) 18 dX11_init_153 f_X11_66 rfl rfl rfl (fun q h => by cases h; rfl) rfl (Nat.le_of_ble_eq_true rfl) rfl rfl ?_
  refine j_ws (ws' := [(a18, arZ G 4 (fun _ => 0)), (a17, arI G 4 (fun _ => 0)), (a16, arI G 4 (fun _ => 0)), (a15, arI G 1681 (fun _ => 0)), (a14, arI G 40 (fun _ => 0)), (a13, arI G 40 (fun _ => 0)), (a12, arI G 201 (fun _ => 0)), (a11, arB G 8040 (fun _ => 0)), (a10, arI G 8 (fun _ => 0)), (a9, arI G 14400 (fun _ => 0)), (a8, arI G 8836 (fun _ => 0)), (a7, arI G 94 (fun _ => 0)), (a6, arI G 60 (fun _ => 0)), (a5, arI G 60 (fun _ => 0)), (a4, arI G 60 (fun _ => 0)), (a3, arB G 200 (fun _ => 0)), (a2, arI G 127 (fun _ => 0)), (a1, arI G 127 (fun _ => 0)), (a0, .inr (11, [.ref a1, .ref a2, .ref a3, .int 0, .int 0, .ref a4, .ref a5, .ref a6, .int 0, .ref a7, .ref a8, .ref a9, .int 0, .ref a10, .ref a11, .ref a12, .int 0, .int 0, .int (-1), .ref a13, .ref a14, .ref a15, .int 0, .int 0, .ref a16, .ref a17, .ref a18, .int 0, .null, .null, .null, .null, .null, .int 0, .null, .null, .null, .int 0, .null, .null, .null, .int 0]))] ++ pre) rfl ?_
  refine j_aload_n (n := 157) dX11_init_156 rfl rfl ?_
  refine j_sipush (n := 160) (200) dX11_init_157 rfl (by decide) ?_
  refine j_newi (n := 162) 200 dX11_init_160 rfl rfl (by decide) (by omega) (by omega) (fun a19 => ?_)
  refine j_perm _ (List.perm_append_singleton _ _) ?_
  refine j_putF (n := 165) 19 dX11_init_162 f_X11_70 rfl rfl rfl (fun q h => by cases h; rfl) rfl (Nat.le_of_ble_eq_true rfl) rfl rfl ?_
  refine j_ws (ws' := [(a19, arI G 200 (fun _ => 0)), (a18, arZ G 4 (fun _ => 0)), (a17, arI G 4 (fun _ => 0)), (a16, arI G 4 (fun _ => 0)), (a15, arI G 1681 (fun _ => 0)), (a14, arI G 40 (fun _ => 0)), (a13, arI G 40 (fun _ => 0)), (a12, arI G 201 (fun _ => 0)), (a11, arB G 8040 (fun _ => 0)), (a10, arI G 8 (fun _ => 0)), (a9, arI G 14400 (fun _ => 0)), (a8, arI G 8836 (fun _ => 0)), (a7, arI G 94 (fun _ => 0)), (a6, arI G 60 (fun _ => 0)), (a5, arI G 60 (fun _ => 0)), (a4, arI G 60 (fun _ => 0)), (a3, arB G 200 (fun _ => 0)), (a2, arI G 127 (fun _ => 0)), (a1, arI G 127 (fun _ => 0)), (a0, .inr (11, [.ref a1, .ref a2, .ref a3, .int 0, .int 0, .ref a4, .ref a5, .ref a6, .int 0, .ref a7, .ref a8, .ref a9, .int 0, .ref a10, .ref a11, .ref a12, .int 0, .int 0, .int (-1), .ref a13, .ref a14, .ref a15, .int 0, .int 0, .ref a16, .ref a17, .ref a18, .int 0, .ref a19, .null, .null, .null, .null, .int 0, .null, .null, .null, .int 0, .null, .null, .null, .int 0]))] ++ pre) rfl ?_
  refine j_aload_n (n := 166) dX11_init_165 rfl rfl ?_
  refine j_sipush (n := 169) (200) dX11_init_166 rfl (by decide) ?_
  refine j_newi (n := 171) 200 dX11_init_169 rfl rfl (by decide) (by omega) (by omega) (fun a20 => ?_)
  refine j_perm _ (List.perm_append_singleton _ _) ?_
  refine j_putF (n := 174) 20 dX11_init_171 f_X11_73 rfl rfl rfl (fun q h => by cases h; rfl) rfl (Nat.le_of_ble_eq_true rfl) rfl rfl ?_
  refine j_ws (ws' := [(a20, arI G 200 (fun _ => 0)), (a19, arI G 200 (fun _ => 0)), (a18, arZ G 4 (fun _ => 0)), (a17, arI G 4 (fun _ => 0)), (a16, arI G 4 (fun _ => 0)), (a15, arI G 1681 (fun _ => 0)), (a14, arI G 40 (fun _ => 0)), (a13, arI G 40 (fun _ => 0)), (a12, arI G 201 (fun _ => 0)), (a11, arB G 8040 (fun _ => 0)), (a10, arI G 8 (fun _ => 0)), (a9, arI G 14400 (fun _ => 0)), (a8, arI G 8836 (fun _ => 0)), (a7, arI G 94 (fun _ => 0)), (a6, arI G 60 (fun _ => 0)), (a5, arI G 60 (fun _ => 0)), (a4, arI G 60 (fun _ => 0)), (a3, arB G 200 (fun _ => 0)), (a2, arI G 127 (fun _ => 0)), (a1, arI G 127 (fun _ => 0)), (a0, .inr (11, [.ref a1, .ref a2, .ref a3, .int 0, .int 0, .ref a4, .ref a5, .ref a6, .int 0, .ref a7, .ref a8, .ref a9, .int 0, .ref a10, .ref a11, .ref a12, .int 0, .int 0, .int (-1), .ref a13, .ref a14, .ref a15, .int 0, .int 0, .ref a16, .ref a17, .ref a18, .int 0, .ref a19, .ref a20, .null, .null, .null, .int 0, .null, .null, .null, .int 0, .null, .null, .null, .int 0]))] ++ pre) rfl ?_
  refine j_aload_n (n := 175) dX11_init_174 rfl rfl ?_
  refine j_sipush (n := 178) (200) dX11_init_175 rfl (by decide) ?_
  refine j_newz (n := 180) 200 dX11_init_178 rfl rfl (by decide) (by omega) (by omega) (fun a21 => ?_)
  refine j_perm _ (List.perm_append_singleton _ _) ?_
  refine j_putF (n := 183) 21 dX11_init_180 f_X11_76 rfl rfl rfl (fun q h => by cases h; rfl) rfl (Nat.le_of_ble_eq_true rfl) rfl rfl ?_
  refine j_ws (ws' := [(a21, arZ G 200 (fun _ => 0)), (a20, arI G 200 (fun _ => 0)), (a19, arI G 200 (fun _ => 0)), (a18, arZ G 4 (fun _ => 0)), (a17, arI G 4 (fun _ => 0)), (a16, arI G 4 (fun _ => 0)), (a15, arI G 1681 (fun _ => 0)), (a14, arI G 40 (fun _ => 0)), (a13, arI G 40 (fun _ => 0)), (a12, arI G 201 (fun _ => 0)), (a11, arB G 8040 (fun _ => 0)), (a10, arI G 8 (fun _ => 0)), (a9, arI G 14400 (fun _ => 0)), (a8, arI G 8836 (fun _ => 0)), (a7, arI G 94 (fun _ => 0)), (a6, arI G 60 (fun _ => 0)), (a5, arI G 60 (fun _ => 0)), (a4, arI G 60 (fun _ => 0)), (a3, arB G 200 (fun _ => 0)), (a2, arI G 127 (fun _ => 0)), (a1, arI G 127 (fun _ => 0)), (a0, .inr (11, [.ref a1, .ref a2, .ref a3, .int 0, .int 0, .ref a4, .ref a5, .ref a6, .int 0, .ref a7, .ref a8, .ref a9, .int 0, .ref a10, .ref a11, .ref a12, .int 0, .int 0, .int (-1), .ref a13, .ref a14, .ref a15, .int 0, .int 0, .ref a16, .ref a17, .ref a18, .int 0, .ref a19, .ref a20, .ref a21, .null, .null, .int 0, .null, .null, .null, .int 0, .null, .null, .null, .int 0]))] ++ pre) rfl ?_
  refine j_aload_n (n := 184) dX11_init_183 rfl rfl ?_
  refine j_sipush (n := 187) (200) dX11_init_184 rfl (by decide) ?_
  refine j_newi (n := 189) 200 dX11_init_187 rfl rfl (by decide) (by omega) (by omega) (fun a22 => ?_)
  refine j_perm _ (List.perm_append_singleton _ _) ?_
  refine j_putF (n := 192) 22 dX11_init_189 f_X11_79 rfl rfl rfl (fun q h => by cases h; rfl) rfl (Nat.le_of_ble_eq_true rfl) rfl rfl ?_
  refine j_ws (ws' := [(a22, arI G 200 (fun _ => 0)), (a21, arZ G 200 (fun _ => 0)), (a20, arI G 200 (fun _ => 0)), (a19, arI G 200 (fun _ => 0)), (a18, arZ G 4 (fun _ => 0)), (a17, arI G 4 (fun _ => 0)), (a16, arI G 4 (fun _ => 0)), (a15, arI G 1681 (fun _ => 0)), (a14, arI G 40 (fun _ => 0)), (a13, arI G 40 (fun _ => 0)), (a12, arI G 201 (fun _ => 0)), (a11, arB G 8040 (fun _ => 0)), (a10, arI G 8 (fun _ => 0)), (a9, arI G 14400 (fun _ => 0)), (a8, arI G 8836 (fun _ => 0)), (a7, arI G 94 (fun _ => 0)), (a6, arI G 60 (fun _ => 0)), (a5, arI G 60 (fun _ => 0)), (a4, arI G 60 (fun _ => 0)), (a3, arB G 200 (fun _ => 0)), (a2, arI G 127 (fun _ => 0)), (a1, arI G 127 (fun _ => 0)), (a0, .inr (11, [.ref a1, .ref a2, .ref a3, .int 0, .int 0, .ref a4, .ref a5, .ref a6, .int 0, .ref a7, .ref a8, .ref a9, .int 0, .ref a10, .ref a11, .ref a12, .int 0, .int 0, .int (-1), .ref a13, .ref a14, .ref a15, .int 0, .int 0, .ref a16, .ref a17, .ref a18, .int 0, .ref a19, .ref a20, .ref a21, .ref a22, .null, .int 0, .null, .null, .null, .int 0, .null, .null, .null, .int 0]))] ++ pre) rfl ?_
  refine j_aload_n (n := 193) dX11_init_192 rfl rfl ?_
  refine j_sipush (n := 196) (200) dX11_init_193 rfl (by decide) ?_
  refine j_newi (n := 198) 200 dX11_init_196 rfl rfl (by decide) (by omega) (by omega) (fun a23 => ?_)
  refine j_perm _ (List.perm_append_singleton _ _) ?_
  refine j_putF (n := 201) 23 dX11_init_198 f_X11_82 rfl rfl rfl (fun q h => by cases h; rfl) rfl (Nat.le_of_ble_eq_true rfl) rfl rfl ?_
  refine j_ws (ws' := [(a23, arI G 200 (fun _ => 0)), (a22, arI G 200 (fun _ => 0)), (a21, arZ G 200 (fun _ => 0)), (a20, arI G 200 (fun _ => 0)), (a19, arI G 200 (fun _ => 0)), (a18, arZ G 4 (fun _ => 0)), (a17, arI G 4 (fun _ => 0)), (a16, arI G 4 (fun _ => 0)), (a15, arI G 1681 (fun _ => 0)), (a14, arI G 40 (fun _ => 0)), (a13, arI G 40 (fun _ => 0)), (a12, arI G 201 (fun _ => 0)), (a11, arB G 8040 (fun _ => 0)), (a10, arI G 8 (fun _ => 0)), (a9, arI G 14400 (fun _ => 0)), (a8, arI G 8836 (fun _ => 0)), (a7, arI G 94 (fun _ => 0)), (a6, arI G 60 (fun _ => 0)), (a5, arI G 60 (fun _ => 0)), (a4, arI G 60 (fun _ => 0)), (a3, arB G 200 (fun _ => 0)), (a2, arI G 127 (fun _ => 0)), (a1, arI G 127 (fun _ => 0)), (a0, .inr (11, [.ref a1, .ref a2, .ref a3, .int 0, .int 0, .ref a4, .ref a5, .ref a6, .int 0, .ref a7, .ref a8, .ref a9, .int 0, .ref a10, .ref a11, .ref a12, .int 0, .int 0, .int (-1), .ref a13, .ref a14, .ref a15, .int 0, .int 0, .ref a16, .ref a17, .ref a18, .int 0, .ref a19, .ref a20, .ref a21, .ref a22, .ref a23, .int 0, .null, .null, .null, .int 0, .null, .null, .null, .int 0]))] ++ pre) rfl ?_
  refine j_aload_n (n := 202) dX11_init_201 rfl rfl ?_
  refine j_bipush (n := 204) (40) dX11_init_202 rfl (by decide) ?_
  refine j_newi (n := 206) 40 dX11_init_204 rfl rfl (by decide) (by omega) (by omega) (fun a24 => ?_)
  refine j_perm _ (List.perm_append_singleton _ _) ?_
  refine j_putF (n := 209) 24 dX11_init_206 f_X11_85 rfl rfl rfl (fun q h => by cases h; rfl) rfl (Nat.le_of_ble_eq_true rfl) rfl rfl ?_
  refine j_ws (ws' := [(a24, arI G 40 (fun _ => 0)), (a23, arI G 200 (fun _ => 0)), (a22, arI G 200 (fun _ => 0)), (a21, arZ G 200 (fun _ => 0)), (a20, arI G 200 (fun _ => 0)), (a19, arI G 200 (fun _ => 0)), (a18, arZ G 4 (fun _ => 0)), (a17, arI G 4 (fun _ => 0)), (a16, arI G 4 (fun _ => 0)), (a15, arI G 1681 (fun _ => 0)), (a14, arI G 40 (fun _ => 0)), (a13, arI G 40 (fun _ => 0)), (a12, arI G 201 (fun _ => 0)), (a11, arB G 8040 (fun _ => 0)), (a10, arI G 8 (fun _ => 0)), (a9, arI G 14400 (fun _ => 0)), (a8, arI G 8836 (fun _ => 0)), (a7, arI G 94 (fun _ => 0)), (a6, arI G 60 (fun _ => 0)), (a5, arI G 60 (fun _ => 0)), (a4, arI G 60 (fun _ => 0)), (a3, arB G 200 (fun _ => 0)), (a2, arI G 127 (fun _ => 0)), (a1, arI G 127 (fun _ => 0)), (a0, .inr (11, [.ref a1, .ref a2, .ref a3, .int 0, .int 0, .ref a4, .ref a5, .ref a6, .int 0, .ref a7, .ref a8, .ref a9, .int 0, .ref a10, .ref a11, .ref a12, .int 0, .int 0, .int (-1), .ref a13, .ref a14, .ref a15, .int 0, .int 0, .ref a16, .ref a17, .ref a18, .int 0, .ref a19, .ref a20, .ref a21, .ref a22, .ref a23, .int 0, .ref a24, .null, .null, .int 0, .null, .null, .null, .int 0]))] ++ pre) rfl ?_
  refine j_aload_n (n := 210) dX11_init_209 rfl rfl ?_
  refine j_bipush (n := 212) (40) dX11_init_210 rfl (by decide) ?_
  refine j_newi (n := 214) 40 dX11_init_212 rfl rfl (by decide) (by omega) (by omega) (fun a25 => ?_)
  refine j_perm _ (List.perm_append_singleton _ _) ?_
  refine j_putF (n := 217) 25 dX11_init_214 f_X11_88 rfl rfl rfl (fun q h => by cases h; rfl) rfl (Nat.le_of_ble_eq_true rfl) rfl rfl ?_
  refine j_ws (ws' := [(a25, arI G 40 (fun _ => 0)), (a24, arI G 40 (fun _ => 0)), (a23, arI G 200 (fun _ => 0)), (a22, arI G 200 (fun _ => 0)), (a21, arZ G 200 (fun _ => 0)), (a20, arI G 200 (fun _ => 0)), (a19, arI G 200 (fun _ => 0)), (a18, arZ G 4 (fun _ => 0)), (a17, arI G 4 (fun _ => 0)), (a16, arI G 4 (fun _ => 0)), (a15, arI G 1681 (fun _ => 0)), (a14, arI G 40 (fun _ => 0)), (a13, arI G 40 (fun _ => 0)), (a12, arI G 201 (fun _ => 0)), (a11, arB G 8040 (fun _ => 0)), (a10, arI G 8 (fun _ => 0)), (a9, arI G 14400 (fun _ => 0)), (a8, arI G 8836 (fun _ => 0)), (a7, arI G 94 (fun _ => 0)), (a6, arI G 60 (fun _ => 0)), (a5, arI G 60 (fun _ => 0)), (a4, arI G 60 (fun _ => 0)), (a3, arB G 200 (fun _ => 0)), (a2, arI G 127 (fun _ => 0)), (a1, arI G 127 (fun _ => 0)), (a0, .inr (11, [.ref a1, .ref a2, .ref a3, .int 0, .int 0, .ref a4, .ref a5, .ref a6, .int 0, .ref a7, .ref a8, .ref a9, .int 0, .ref a10, .ref a11, .ref a12, .int 0, .int 0, .int (-1), .ref a13, .ref a14, .ref a15, .int 0, .int 0, .ref a16, .ref a17, .ref a18, .int 0, .ref a19, .ref a20, .ref a21, .ref a22, .ref a23, .int 0, .ref a24, .ref a25, .null, .int 0, .null, .null, .null, .int 0]))] ++ pre) rfl ?_
  refine j_aload_n (n := 218) dX11_init_217 rfl rfl ?_
  refine j_bipush (n := 220) (40) dX11_init_218 rfl (by decide) ?_
  refine j_newi (n := 222) 40 dX11_init_220 rfl rfl (by decide) (by omega) (by omega) (fun a26 => ?_)
  refine j_perm _ (List.perm_append_singleton _ _) ?_
  refine j_putF (n := 225) 26 dX11_init_222 f_X11_91 rfl rfl rfl (fun q h => by cases h; rfl) rfl (Nat.le_of_ble_eq_true rfl) rfl rfl ?_
  refine j_ws (ws' := [(a26, arI G 40 (fun _ => 0)), (a25, arI G 40 (fun _ => 0)), (a24, arI G 40 (fun _ => 0)), (a23, arI G 200 (fun _ => 0)), (a22, arI G 200 (fun _ => 0)), (a21, arZ G 200 (fun _ => 0)), (a20, arI G 200 (fun _ => 0)), (a19, arI G 200 (fun _ => 0)), (a18, arZ G 4 (fun _ => 0)), (a17, arI G 4 (fun _ => 0)), (a16, arI G 4 (fun _ => 0)), (a15, arI G 1681 (fun _ => 0)), (a14, arI G 40 (fun _ => 0)), (a13, arI G 40 (fun _ => 0)), (a12, arI G 201 (fun _ => 0)), (a11, arB G 8040 (fun _ => 0)), (a10, arI G 8 (fun _ => 0)), (a9, arI G 14400 (fun _ => 0)), (a8, arI G 8836 (fun _ => 0)), (a7, arI G 94 (fun _ => 0)), (a6, arI G 60 (fun _ => 0)), (a5, arI G 60 (fun _ => 0)), (a4, arI G 60 (fun _ => 0)), (a3, arB G 200 (fun _ => 0)), (a2, arI G 127 (fun _ => 0)), (a1, arI G 127 (fun _ => 0)), (a0, .inr (11, [.ref a1, .ref a2, .ref a3, .int 0, .int 0, .ref a4, .ref a5, .ref a6, .int 0, .ref a7, .ref a8, .ref a9, .int 0, .ref a10, .ref a11, .ref a12, .int 0, .int 0, .int (-1), .ref a13, .ref a14, .ref a15, .int 0, .int 0, .ref a16, .ref a17, .ref a18, .int 0, .ref a19, .ref a20, .ref a21, .ref a22, .ref a23, .int 0, .ref a24, .ref a25, .ref a26, .int 0, .null, .null, .null, .int 0]))] ++ pre) rfl ?_
  refine j_aload_n (n := 226) dX11_init_225 rfl rfl ?_
  refine j_sipush (n := 229) (1000) dX11_init_226 rfl (by decide) ?_
  refine j_newi (n := 231) 1000 dX11_init_229 rfl rfl (by decide) (by omega) (by omega) (fun a27 => ?_)
  refine j_perm _ (List.perm_append_singleton _ _) ?_
  refine j_putF (n := 234) 27 dX11_init_231 f_X11_94 rfl rfl rfl (fun q h => by cases h; rfl) rfl (Nat.le_of_ble_eq_true rfl) rfl rfl ?_
  refine j_ws (ws' := [(a27, arI G 1000 (fun _ => 0)), (a26, arI G 40 (fun _ => 0)), (a25, arI G 40 (fun _ => 0)), (a24, arI G 40 (fun _ => 0)), (a23, arI G 200 (fun _ => 0)), (a22, arI G 200 (fun _ => 0)), (a21, arZ G 200 (fun _ => 0)), (a20, arI G 200 (fun _ => 0)), (a19, arI G 200 (fun _ => 0)), (a18, arZ G 4 (fun _ => 0)), (a17, arI G 4 (fun _ => 0)), (a16, arI G 4 (fun _ => 0)), (a15, arI G 1681 (fun _ => 0)), (a14, arI G 40 (fun _ => 0)), (a13, arI G 40 (fun _ => 0)), (a12, arI G 201 (fun _ => 0)), (a11, arB G 8040 (fun _ => 0)), (a10, arI G 8 (fun _ => 0)), (a9, arI G 14400 (fun _ => 0)), (a8, arI G 8836 (fun _ => 0)), (a7, arI G 94 (fun _ => 0)), (a6, arI G 60 (fun _ => 0)), (a5, arI G 60 (fun _ => 0)), (a4, arI G 60 (fun _ => 0)), (a3, arB G 200 (fun _ => 0)), (a2, arI G 127 (fun _ => 0)), (a1, arI G 127 (fun _ => 0)), (a0, .inr (11, [.ref a1, .ref a2, .ref a3, .int 0, .int 0, .ref a4, .ref a5, .ref a6, .int 0, .ref a7, .ref a8, .ref a9, .int 0, .ref a10, .ref a11, .ref a12, .int 0, .int 0, .int (-1), .ref a13, .ref a14, .ref a15, .int 0, .int 0, .ref a16, .ref a17, .ref a18, .int 0, .ref a19, .ref a20, .ref a21, .ref a22, .ref a23, .int 0, .ref a24, .ref a25, .ref a26, .int 0, .ref a27, .null, .null, .int 0]))] ++ pre) rfl ?_
  refine j_aload_n (n := 235) dX11_init_234 rfl rfl ?_
  refine j_sipush (n := 238) (1000) dX11_init_235 rfl (by decide) ?_
  refine j_newi (n := 240) 1000 dX11_init_238 rfl rfl (by decide) (by omega) (by omega) (fun a28 => ?_)
  refine j_perm _ (List.perm_append_singleton _ _) ?_
  refine j_putF (n := 243) 28 dX11_init_240 f_X11_97 rfl rfl rfl (fun q h => by cases h; rfl) rfl (Nat.le_of_ble_eq_true rfl) rfl rfl ?_
  refine j_ws (ws' := [(a28, arI G 1000 (fun _ => 0)), (a27, arI G 1000 (fun _ => 0)), (a26, arI G 40 (fun _ => 0)), (a25, arI G 40 (fun _ => 0)), (a24, arI G 40 (fun _ => 0)), (a23, arI G 200 (fun _ => 0)), (a22, arI G 200 (fun _ => 0)), (a21, arZ G 200 (fun _ => 0)), (a20, arI G 200 (fun _ => 0)), (a19, arI G 200 (fun _ => 0)), (a18, arZ G 4 (fun _ => 0)), (a17, arI G 4 (fun _ => 0)), (a16, arI G 4 (fun _ => 0)), (a15, arI G 1681 (fun _ => 0)), (a14, arI G 40 (fun _ => 0)), (a13, arI G 40 (fun _ => 0)), (a12, arI G 201 (fun _ => 0)), (a11, arB G 8040 (fun _ => 0)), (a10, arI G 8 (fun _ => 0)), (a9, arI G 14400 (fun _ => 0)), (a8, arI G 8836 (fun _ => 0)), (a7, arI G 94 (fun _ => 0)), (a6, arI G 60 (fun _ => 0)), (a5, arI G 60 (fun _ => 0)), (a4, arI G 60 (fun _ => 0)), (a3, arB G 200 (fun _ => 0)), (a2, arI G 127 (fun _ => 0)), (a1, arI G 127 (fun _ => 0)), (a0, .inr (11, [.ref a1, .ref a2, .ref a3, .int 0, .int 0, .ref a4, .ref a5, .ref a6, .int 0, .ref a7, .ref a8, .ref a9, .int 0, .ref a10, .ref a11, .ref a12, .int 0, .int 0, .int (-1), .ref a13, .ref a14, .ref a15, .int 0, .int 0, .ref a16, .ref a17, .ref a18, .int 0, .ref a19, .ref a20, .ref a21, .ref a22, .ref a23, .int 0, .ref a24, .ref a25, .ref a26, .int 0, .ref a27, .ref a28, .null, .int 0]))] ++ pre) rfl ?_
  refine j_aload_n (n := 244) dX11_init_243 rfl rfl ?_
  refine j_sipush (n := 247) (1000) dX11_init_244 rfl (by decide) ?_
  refine j_newi (n := 249) 1000 dX11_init_247 rfl rfl (by decide) (by omega) (by omega) (fun a29 => ?_)
  refine j_perm _ (List.perm_append_singleton _ _) ?_
  refine j_putF (n := 252) 29 dX11_init_249 f_X11_100 rfl rfl rfl (fun q h => by cases h; rfl) rfl (Nat.le_of_ble_eq_true rfl) rfl rfl ?_
  refine j_ws (ws' := [(a29, arI G 1000 (fun _ => 0)), (a28, arI G 1000 (fun _ => 0)), (a27, arI G 1000 (fun _ => 0)), (a26, arI G 40 (fun _ => 0)), (a25, arI G 40 (fun _ => 0)), (a24, arI G 40 (fun _ => 0)), (a23, arI G 200 (fun _ => 0)), (a22, arI G 200 (fun _ => 0)), (a21, arZ G 200 (fun _ => 0)), (a20, arI G 200 (fun _ => 0)), (a19, arI G 200 (fun _ => 0)), (a18, arZ G 4 (fun _ => 0)), (a17, arI G 4 (fun _ => 0)), (a16, arI G 4 (fun _ => 0)), (a15, arI G 1681 (fun _ => 0)), (a14, arI G 40 (fun _ => 0)), (a13, arI G 40 (fun _ => 0)), (a12, arI G 201 (fun _ => 0)), (a11, arB G 8040 (fun _ => 0)), (a10, arI G 8 (fun _ => 0)), (a9, arI G 14400 (fun _ => 0)), (a8, arI G 8836 (fun _ => 0)), (a7, arI G 94 (fun _ => 0)), (a6, arI G 60 (fun _ => 0)), (a5, arI G 60 (fun _ => 0)), (a4, arI G 60 (fun _ => 0)), (a3, arB G 200 (fun _ => 0)), (a2, arI G 127 (fun _ => 0)), (a1, arI G 127 (fun _ => 0)), (a0, .inr (11, [.ref a1, .ref a2, .ref a3, .int 0, .int 0, .ref a4, .ref a5, .ref a6, .int 0, .ref a7, .ref a8, .ref a9, .int 0, .ref a10, .ref a11, .ref a12, .int 0, .int 0, .int (-1), .ref a13, .ref a14, .ref a15, .int 0, .int 0, .ref a16, .ref a17, .ref a18, .int 0, .ref a19, .ref a20, .ref a21, .ref a22, .ref a23, .int 0, .ref a24, .ref a25, .ref a26, .int 0, .ref a27, .ref a28, .ref a29, .int 0]))] ++ pre) rfl ?_
  refine j_ws (ws' := [(a29, arI G 1000 (fun _ => 0)), (a28, arI G 1000 (fun _ => 0)), (a27, arI G 1000 (fun _ => 0)), (a26, arI G 40 (fun _ => 0)), (a25, arI G 40 (fun _ => 0)), (a24, arI G 40 (fun _ => 0)), (a23, arI G 200 (fun _ => 0)), (a22, arI G 200 (fun _ => 0)), (a21, arZ G 200 (fun _ => 0)), (a20, arI G 200 (fun _ => 0)), (a19, arI G 200 (fun _ => 0)), (a18, arZ G 4 (fun _ => 0)), (a17, arI G 4 (fun _ => 0)), (a16, arI G 4 (fun _ => 0)), (a15, arI G 1681 (fun _ => 0)), (a14, arI G 40 (fun _ => 0)), (a13, arI G 40 (fun _ => 0)), (a12, arI G 201 (fun _ => 0)), (a11, arB G 8040 (fun _ => 0)), (a10, arI G 8 (fun _ => 0)), (a9, arI G 14400 (fun _ => 0)), (a8, arI G 8836 (fun _ => 0)), (a7, arI G 94 (fun _ => 0)), (a6, arI G 60 (fun _ => 0)), (a5, arI G 60 (fun _ => 0)), (a4, arI G 60 (fun _ => 0)), (a3, arB G 200 (fun _ => 0)), (a2, arI G 127 (fun _ => 0)), (a1, arI G 127 (fun _ => 0)), (a0, .inr (11, [.ref a1, .ref a2, .ref a3, .int 0, .int 0, .ref a4, .ref a5, .ref a6, .int 0, .ref a7, .ref a8, .ref a9, .int 0, .ref a10, .ref a11, .ref a12, .int 0, .int 0, .int (-1), .ref a13, .ref a14, .ref a15, .int 0, .int 0, .ref a16, .ref a17, .ref a18, .int 0, .ref a19, .ref a20, .ref a21, .ref a22, .ref a23, .int 0, .ref a24, .ref a25, .ref a26, .int 0, .ref a27, .ref a28, .ref a29, .int 0]))] ++ pre) rfl ?_
  obtain ⟨A, hA⟩ : ∃ A : Nat → Nat, A = fun i => [a0, a1, a2, a3, a4, a5, a6, a7, a8, a9, a10, a11, a12, a13, a14, a15, a16, a17, a18, a19, a20, a21, a22, a23, a24, a25, a26, a27, a28, a29].getD i 0 := ⟨_, rfl⟩
  refine j_perm ([(a0, .inr (11, [.ref a1, .ref a2, .ref a3, .int 0, .int 0, .ref a4, .ref a5, .ref a6, .int 0, .ref a7, .ref a8, .ref a9, .int 0, .ref a10, .ref a11, .ref a12, .int 0, .int 0, .int (-1), .ref a13, .ref a14, .ref a15, .int 0, .int 0, .ref a16, .ref a17, .ref a18, .int 0, .ref a19, .ref a20, .ref a21, .ref a22, .ref a23, .int 0, .ref a24, .ref a25, .ref a26, .int 0, .ref a27, .ref a28, .ref a29, .int 0])), (a1, arI G 127 (fun _ => 0)), (a2, arI G 127 (fun _ => 0)), (a3, arB G 200 (fun _ => 0)), (a4, arI G 60 (fun _ => 0)), (a5, arI G 60 (fun _ => 0)), (a6, arI G 60 (fun _ => 0)), (a7, arI G 94 (fun _ => 0)), (a8, arI G 8836 (fun _ => 0)), (a9, arI G 14400 (fun _ => 0)), (a10, arI G 8 (fun _ => 0)), (a11, arB G 8040 (fun _ => 0)), (a12, arI G 201 (fun _ => 0)), (a13, arI G 40 (fun _ => 0)), (a14, arI G 40 (fun _ => 0)), (a15, arI G 1681 (fun _ => 0)), (a16, arI G 4 (fun _ => 0)), (a17, arI G 4 (fun _ => 0)), (a18, arZ G 4 (fun _ => 0)), (a19, arI G 200 (fun _ => 0)), (a20, arI G 200 (fun _ => 0)), (a21, arZ G 200 (fun _ => 0)), (a22, arI G 200 (fun _ => 0)), (a23, arI G 200 (fun _ => 0)), (a24, arI G 40 (fun _ => 0)), (a25, arI G 40 (fun _ => 0)), (a26, arI G 40 (fun _ => 0)), (a27, arI G 1000 (fun _ => 0)), (a28, arI G 1000 (fun _ => 0)), (a29, arI G 1000 (fun _ => 0))] ++ pre) (pm30 (a29, arI G 1000 (fun _ => 0)) (a28, arI G 1000 (fun _ => 0)) (a27, arI G 1000 (fun _ => 0)) (a26, arI G 40 (fun _ => 0)) (a25, arI G 40 (fun _ => 0)) (a24, arI G 40 (fun _ => 0)) (a23, arI G 200 (fun _ => 0)) (a22, arI G 200 (fun _ => 0)) (a21, arZ G 200 (fun _ => 0)) (a20, arI G 200 (fun _ => 0)) (a19, arI G 200 (fun _ => 0)) (a18, arZ G 4 (fun _ => 0)) (a17, arI G 4 (fun _ => 0)) (a16, arI G 4 (fun _ => 0)) (a15, arI G 1681 (fun _ => 0)) (a14, arI G 40 (fun _ => 0)) (a13, arI G 40 (fun _ => 0)) (a12, arI G 201 (fun _ => 0)) (a11, arB G 8040 (fun _ => 0)) (a10, arI G 8 (fun _ => 0)) (a9, arI G 14400 (fun _ => 0)) (a8, arI G 8836 (fun _ => 0)) (a7, arI G 94 (fun _ => 0)) (a6, arI G 60 (fun _ => 0)) (a5, arI G 60 (fun _ => 0)) (a4, arI G 60 (fun _ => 0)) (a3, arB G 200 (fun _ => 0)) (a2, arI G 127 (fun _ => 0)) (a1, arI G 127 (fun _ => 0)) (a0, .inr (11, [.ref a1, .ref a2, .ref a3, .int 0, .int 0, .ref a4, .ref a5, .ref a6, .int 0, .ref a7, .ref a8, .ref a9, .int 0, .ref a10, .ref a11, .ref a12, .int 0, .int 0, .int (-1), .ref a13, .ref a14, .ref a15, .int 0, .int 0, .ref a16, .ref a17, .ref a18, .int 0, .ref a19, .ref a20, .ref a21, .ref a22, .ref a23, .int 0, .ref a24, .ref a25, .ref a26, .int 0, .ref a27, .ref a28, .ref a29, .int 0])) pre) ?_
  have h0 : A 0 = a0 := by rw [hA]; rfl
  refine j_ws (ws' := rW G A (fun _ => 0) rZ0 (fun _ _ => 0) pre) (by rw [hA]; rfl) ?_
  rw [← h0]
  clear hA h0
  exact in_252 (A := A)
end RQ

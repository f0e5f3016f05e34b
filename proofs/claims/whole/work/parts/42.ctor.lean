/-! the constructor of NameGuard -/
theorem pm3 {α : Type} (x : α) (A l : List α) : (x :: A ++ l).Perm (x :: (l ++ A)) := List.Perm.cons x List.perm_append_comm
theorem pm_take {α : Type} : ∀ (L : List α) (n : Nat) (x : α), L[n]? = some x → L.Perm (x :: L.eraseIdx n) := by
  intro L
  induction L with
  | nil => intro n x h; cases h
  | cons a L ih =>
    intro n x h
    cases n with
    | zero => cases h; exact List.Perm.refl _
    | succ n => exact (List.Perm.cons a (ih n x h)).trans (List.Perm.swap x a _)
theorem jw_same {G : GT} {ws : va_W} {H : Heap} {k a : Nat} {e : va_E} (e' : va_E) (hk : ws[k]? = some (a, e)) (he : ∀ (D : va_G) (cl : List vw_C) (H : Heap), va_at D cl (a, e) H → va_at D cl (a, e') H) (h : JW G ws H) : JW G (ws.set k (a, e')) H := by
  have key : ∀ (i : Nat) (q : Nat × va_E), (ws.set k (a, e'))[i]? = some q → ∃ q0 : Nat × va_E, ws[i]? = some q0 ∧ q0.1 = q.1 ∧ ((i = k ∧ q = (a, e') ∧ q0 = (a, e)) ∨ q0 = q) := by
    intro i q hq
    rcases set_cases hq with ⟨h1, h2⟩ | ⟨h1, h2⟩
    · subst h1; exact ⟨(a, e), hk, by rw [h2], Or.inl ⟨rfl, h2, rfl⟩⟩
    · exact ⟨q, h2, rfl, Or.inr rfl⟩
  refine ⟨fun i q hq => ?_, fun i j p q hp hq ee => ?_, fun i q hq => ?_⟩
  · obtain ⟨q0, h1, h2, h3⟩ := key i q hq
    have := h.1 i q0 h1
    rcases h3 with ⟨-, e1, e2⟩ | e1
    · rw [e2] at this; rw [e1]; exact he _ _ _ this
    · rw [← e1]; exact this
  · obtain ⟨p0, h1, h2, -⟩ := key i p hp
    obtain ⟨q0, h3, h4, -⟩ := key j q hq
    exact h.2.1 i j p0 q0 h1 h3 (by rw [h2, h4]; exact ee)
  · obtain ⟨q0, h1, h2, -⟩ := key i q hq
    rw [← h2]; exact h.2.2 i q0 h1
theorem pmx {α : Type} (A B : List α) (x : α) (R : List α) (h : (A ++ B).Perm R) : (A ++ x :: B).Perm (x :: R) := List.perm_middle.trans (List.Perm.cons x h)
theorem pm32 {α : Type} (x0 x1 x2 x3 x4 x5 x6 x7 x8 x9 x10 x11 x12 x13 x14 x15 x16 x17 x18 x19 x20 x21 x22 x23 x24 x25 x26 x27 x28 x29 x30 x31 : α) (pre : List α) : ([x0, x1, x2, x3, x4, x5, x6, x7, x8, x9, x10, x11, x12, x13, x14, x15, x16, x17, x18, x19, x20, x21, x22, x23, x24, x25, x26, x27, x28, x29, x30, x31] ++ pre).Perm ([x17, x18, x19, x20, x21, x22, x23, x24, x31, x30, x27, x28, x29, x25, x26, x16, x15, x14, x13, x12, x11, x9, x10, x6, x7, x8, x2, x3, x4, x5, x0, x1] ++ pre) := by
  refine pmx [x0, x1, x2, x3, x4, x5, x6, x7, x8, x9, x10, x11, x12, x13, x14, x15, x16] ([x18, x19, x20, x21, x22, x23, x24, x25, x26, x27, x28, x29, x30, x31] ++ pre) x17 ([x18, x19, x20, x21, x22, x23, x24, x31, x30, x27, x28, x29, x25, x26, x16, x15, x14, x13, x12, x11, x9, x10, x6, x7, x8, x2, x3, x4, x5, x0, x1] ++ pre) ?_
  refine pmx [x0, x1, x2, x3, x4, x5, x6, x7, x8, x9, x10, x11, x12, x13, x14, x15, x16] ([x19, x20, x21, x22, x23, x24, x25, x26, x27, x28, x29, x30, x31] ++ pre) x18 ([x19, x20, x21, x22, x23, x24, x31, x30, x27, x28, x29, x25, x26, x16, x15, x14, x13, x12, x11, x9, x10, x6, x7, x8, x2, x3, x4, x5, x0, x1] ++ pre) ?_
  refine pmx [x0, x1, x2, x3, x4, x5, x6, x7, x8, x9, x10, x11, x12, x13, x14, x15, x16] ([x20, x21, x22, x23, x24, x25, x26, x27, x28, x29, x30, x31] ++ pre) x19 ([x20, x21, x22, x23, x24, x31, x30, x27, x28, x29, x25, x26, x16, x15, x14, x13, x12, x11, x9, x10, x6, x7, x8, x2, x3, x4, x5, x0, x1] ++ pre) ?_
  refine pmx [x0, x1, x2, x3, x4, x5, x6, x7, x8, x9, x10, x11, x12, x13, x14, x15, x16] ([x21, x22, x23, x24, x25, x26, x27, x28, x29, x30, x31] ++ pre) x20 ([x21, x22, x23, x24, x31, x30, x27, x28, x29, x25, x26, x16, x15, x14, x13, x12, x11, x9, x10, x6, x7, x8, x2, x3, x4, x5, x0, x1] ++ pre) ?_
  refine pmx [x0, x1, x2, x3, x4, x5, x6, x7, x8, x9, x10, x11, x12, x13, x14, x15, x16] ([x22, x23, x24, x25, x26, x27, x28, x29, x30, x31] ++ pre) x21 ([x22, x23, x24, x31, x30, x27, x28, x29, x25, x26, x16, x15, x14, x13, x12, x11, x9, x10, x6, x7, x8, x2, x3, x4, x5, x0, x1] ++ pre) ?_
  refine pmx [x0, x1, x2, x3, x4, x5, x6, x7, x8, x9, x10, x11, x12, x13, x14, x15, x16] ([x23, x24, x25, x26, x27, x28, x29, x30, x31] ++ pre) x22 ([x23, x24, x31, x30, x27, x28, x29, x25, x26, x16, x15, x14, x13, x12, x11, x9, x10, x6, x7, x8, x2, x3, x4, x5, x0, x1] ++ pre) ?_
  refine pmx [x0, x1, x2, x3, x4, x5, x6, x7, x8, x9, x10, x11, x12, x13, x14, x15, x16] ([x24, x25, x26, x27, x28, x29, x30, x31] ++ pre) x23 ([x24, x31, x30, x27, x28, x29, x25, x26, x16, x15, x14, x13, x12, x11, x9, x10, x6, x7, x8, x2, x3, x4, x5, x0, x1] ++ pre) ?_
  refine pmx [x0, x1, x2, x3, x4, x5, x6, x7, x8, x9, x10, x11, x12, x13, x14, x15, x16] ([x25, x26, x27, x28, x29, x30, x31] ++ pre) x24 ([x31, x30, x27, x28, x29, x25, x26, x16, x15, x14, x13, x12, x11, x9, x10, x6, x7, x8, x2, x3, x4, x5, x0, x1] ++ pre) ?_
  refine pmx [x0, x1, x2, x3, x4, x5, x6, x7, x8, x9, x10, x11, x12, x13, x14, x15, x16, x25, x26, x27, x28, x29, x30] ([] ++ pre) x31 ([x30, x27, x28, x29, x25, x26, x16, x15, x14, x13, x12, x11, x9, x10, x6, x7, x8, x2, x3, x4, x5, x0, x1] ++ pre) ?_
  refine pmx [x0, x1, x2, x3, x4, x5, x6, x7, x8, x9, x10, x11, x12, x13, x14, x15, x16, x25, x26, x27, x28, x29] ([] ++ pre) x30 ([x27, x28, x29, x25, x26, x16, x15, x14, x13, x12, x11, x9, x10, x6, x7, x8, x2, x3, x4, x5, x0, x1] ++ pre) ?_
  refine pmx [x0, x1, x2, x3, x4, x5, x6, x7, x8, x9, x10, x11, x12, x13, x14, x15, x16, x25, x26] ([x28, x29] ++ pre) x27 ([x28, x29, x25, x26, x16, x15, x14, x13, x12, x11, x9, x10, x6, x7, x8, x2, x3, x4, x5, x0, x1] ++ pre) ?_
  refine pmx [x0, x1, x2, x3, x4, x5, x6, x7, x8, x9, x10, x11, x12, x13, x14, x15, x16, x25, x26] ([x29] ++ pre) x28 ([x29, x25, x26, x16, x15, x14, x13, x12, x11, x9, x10, x6, x7, x8, x2, x3, x4, x5, x0, x1] ++ pre) ?_
  refine pmx [x0, x1, x2, x3, x4, x5, x6, x7, x8, x9, x10, x11, x12, x13, x14, x15, x16, x25, x26] ([] ++ pre) x29 ([x25, x26, x16, x15, x14, x13, x12, x11, x9, x10, x6, x7, x8, x2, x3, x4, x5, x0, x1] ++ pre) ?_
  refine pmx [x0, x1, x2, x3, x4, x5, x6, x7, x8, x9, x10, x11, x12, x13, x14, x15, x16] ([x26] ++ pre) x25 ([x26, x16, x15, x14, x13, x12, x11, x9, x10, x6, x7, x8, x2, x3, x4, x5, x0, x1] ++ pre) ?_
  refine pmx [x0, x1, x2, x3, x4, x5, x6, x7, x8, x9, x10, x11, x12, x13, x14, x15, x16] ([] ++ pre) x26 ([x16, x15, x14, x13, x12, x11, x9, x10, x6, x7, x8, x2, x3, x4, x5, x0, x1] ++ pre) ?_
  refine pmx [x0, x1, x2, x3, x4, x5, x6, x7, x8, x9, x10, x11, x12, x13, x14, x15] ([] ++ pre) x16 ([x15, x14, x13, x12, x11, x9, x10, x6, x7, x8, x2, x3, x4, x5, x0, x1] ++ pre) ?_
  refine pmx [x0, x1, x2, x3, x4, x5, x6, x7, x8, x9, x10, x11, x12, x13, x14] ([] ++ pre) x15 ([x14, x13, x12, x11, x9, x10, x6, x7, x8, x2, x3, x4, x5, x0, x1] ++ pre) ?_
  refine pmx [x0, x1, x2, x3, x4, x5, x6, x7, x8, x9, x10, x11, x12, x13] ([] ++ pre) x14 ([x13, x12, x11, x9, x10, x6, x7, x8, x2, x3, x4, x5, x0, x1] ++ pre) ?_
  refine pmx [x0, x1, x2, x3, x4, x5, x6, x7, x8, x9, x10, x11, x12] ([] ++ pre) x13 ([x12, x11, x9, x10, x6, x7, x8, x2, x3, x4, x5, x0, x1] ++ pre) ?_
  refine pmx [x0, x1, x2, x3, x4, x5, x6, x7, x8, x9, x10, x11] ([] ++ pre) x12 ([x11, x9, x10, x6, x7, x8, x2, x3, x4, x5, x0, x1] ++ pre) ?_
  refine pmx [x0, x1, x2, x3, x4, x5, x6, x7, x8, x9, x10] ([] ++ pre) x11 ([x9, x10, x6, x7, x8, x2, x3, x4, x5, x0, x1] ++ pre) ?_
  refine pmx [x0, x1, x2, x3, x4, x5, x6, x7, x8] ([x10] ++ pre) x9 ([x10, x6, x7, x8, x2, x3, x4, x5, x0, x1] ++ pre) ?_
  refine pmx [x0, x1, x2, x3, x4, x5, x6, x7, x8] ([] ++ pre) x10 ([x6, x7, x8, x2, x3, x4, x5, x0, x1] ++ pre) ?_
  refine pmx [x0, x1, x2, x3, x4, x5] ([x7, x8] ++ pre) x6 ([x7, x8, x2, x3, x4, x5, x0, x1] ++ pre) ?_
  refine pmx [x0, x1, x2, x3, x4, x5] ([x8] ++ pre) x7 ([x8, x2, x3, x4, x5, x0, x1] ++ pre) ?_
  refine pmx [x0, x1, x2, x3, x4, x5] ([] ++ pre) x8 ([x2, x3, x4, x5, x0, x1] ++ pre) ?_
  refine pmx [x0, x1] ([x3, x4, x5] ++ pre) x2 ([x3, x4, x5, x0, x1] ++ pre) ?_
  refine pmx [x0, x1] ([x4, x5] ++ pre) x3 ([x4, x5, x0, x1] ++ pre) ?_
  refine pmx [x0, x1] ([x5] ++ pre) x4 ([x5, x0, x1] ++ pre) ?_
  refine pmx [x0, x1] ([] ++ pre) x5 ([x0, x1] ++ pre) ?_
  refine pmx [] ([x1] ++ pre) x0 ([x1] ++ pre) ?_
  refine pmx [] ([] ++ pre) x1 ([] ++ pre) ?_
  exact List.Perm.refl pre
def iN0 : Nat → Nat := fun _ => 0
def iZ0 : Nat → Int32 := fun i => [(-1 : Int32), 0, -1, 0, 0, 0, 0, 0, 0, 0, 4, 8, 0, 4, 8, 0, 4, 8, 0, 4, 8, 0].getD i 0
def iF0 : Nat → Nat → Int32 := fun i => if i = 11 then fillF (fillF (fun _ => 0) 65 91 1) 97 123 1 else fun _ => 0
theorem c_NameGuard {G : GT} {pre : va_W} {a8 : Nat} : JM G Y_X10_init 3 31 4453 [.ref a8] ((a8, .inr (10, [.null, .int 0, .null, .null, .null, .null, .int 0, .int 0, .null, .null, .int 0, .null, .null, .null, .null])) :: pre) (Qv (fun w => ∃ Q : Nat → Nat, Q 8 = a8 ∧ w = cW G Q iN0 iZ0 iF0 none (fun _ => none) (poolE G [] [] pre))) := by
  refine JM.of [(0, .ref a8)] rfl rfl (by simp) (Nat.le_of_ble_eq_true rfl) (by decide +kernel) ?_
  refine j_aload_n (n := 1) dX10_init_0 rfl rfl ?_
  refine j_objInit (n := 4) dX10_init_1 m_X10_3 rfl (by omega) (Nat.le_of_ble_eq_true rfl) ?_
  refine j_aload_n (n := 5) dX10_init_4 rfl rfl ?_
  refine j_sipush (n := 8) (200) dX10_init_5 rfl (by decide) ?_
  refine j_newi (n := 10) 200 dX10_init_8 rfl rfl (by decide) (by omega) (by omega) (fun a9 => ?_)
  refine j_perm _ (List.perm_append_singleton _ _) ?_
  refine j_putF (n := 13) 1 dX10_init_10 f_X10_9 rfl rfl rfl (fun q h => by cases h; rfl) rfl (Nat.le_of_ble_eq_true rfl) rfl rfl ?_
  refine j_aload_n (n := 14) dX10_init_13 rfl rfl ?_
  refine j_iconst (n := 15) (0) dX10_init_14 rfl (by decide) ?_
  refine j_put (n := 18) 1 dX10_init_15 f_X10_13 rfl rfl rfl (Nat.le_of_ble_eq_true rfl) rfl rfl ?_
  refine j_aload_n (n := 19) dX10_init_18 rfl rfl ?_
  refine j_new (n := 22) 7 3 dX10_init_19 n_X10_17 rfl rfl (by omega) (by omega) (fs := [.null, .null, .int 0]) rfl (fun a10 => ?_)
  refine j_perm _ (List.perm_append_singleton _ _) ?_
  refine j_dup (n := 23) dX10_init_22 rfl rfl ?_
  refine j_callIv (n := 26) (Y1 := Y_X7_init) dX10_init_23 m_X10_19 cy_X7_init ci_X7_init rfl rfl (c_SignTable) rfl rfl rfl (by omega) (by omega) (by omega) (Nat.le_of_ble_eq_true rfl) (fun w h => ?_)
  obtain ⟨a11, a12, rfl⟩ := h
  refine j_perm _ (pm3 _ _ _) ?_
  refine j_putF (n := 29) 4 dX10_init_26 f_X10_20 rfl rfl rfl (fun q h => by cases h; rfl) rfl (Nat.le_of_ble_eq_true rfl) rfl rfl ?_
  refine j_aload_n (n := 30) dX10_init_29 rfl rfl ?_
  refine j_new (n := 33) 6 2 dX10_init_30 n_X10_24 rfl rfl (by omega) (by omega) (fs := [.null, .int 0]) rfl (fun a13 => ?_)
  refine j_perm _ (List.perm_append_singleton _ _) ?_
  refine j_dup (n := 34) dX10_init_33 rfl rfl ?_
  refine j_callIv (n := 37) (Y1 := Y_X6_init) dX10_init_34 m_X10_26 cy_X6_init ci_X6_init rfl rfl (c_ScriptSets) rfl rfl rfl (by omega) (by omega) (by omega) (Nat.le_of_ble_eq_true rfl) (fun w h => ?_)
  obtain ⟨a14, rfl⟩ := h
  refine j_perm _ (pm3 _ _ _) ?_
  refine j_putF (n := 40) 6 dX10_init_37 f_X10_27 rfl rfl rfl (fun q h => by cases h; rfl) rfl (Nat.le_of_ble_eq_true rfl) rfl rfl ?_
  refine j_aload_n (n := 41) dX10_init_40 rfl rfl ?_
  refine j_new (n := 44) 4 11 dX10_init_41 n_X10_31 rfl rfl (by omega) (by omega) (fs := [.null, .null, .null, .int 0, .int 0, .int 0, .null, .int 0, .null, .null, .null]) rfl (fun a0 => ?_)
  refine j_perm _ (List.perm_append_singleton _ _) ?_
  refine j_dup (n := 45) dX10_init_44 rfl rfl ?_
  refine j_callIv (n := 48) (Y1 := Y_X4_init) dX10_init_45 m_X10_33 cy_X4_init ci_X4_init rfl rfl (c_PieceTable) rfl rfl rfl (by omega) (by omega) (by omega) (Nat.le_of_ble_eq_true rfl) (fun w h => ?_)
  obtain ⟨A, hA, rfl⟩ := h
  refine j_perm _ (pm3 _ _ _) ?_
  refine j_putF (n := 51) 14 dX10_init_48 f_X10_34 rfl rfl rfl (fun q h => by cases h; rfl) rfl (Nat.le_of_ble_eq_true rfl) rfl rfl ?_
  refine j_aload_n (n := 52) dX10_init_51 rfl rfl ?_
  refine j_null (n := 53) dX10_init_52 rfl ?_
  refine j_put (n := 56) 14 dX10_init_53 f_X10_38 rfl rfl rfl (Nat.le_of_ble_eq_true rfl) rfl rfl ?_
  refine j_aload_n (n := 57) dX10_init_56 rfl rfl ?_
  refine j_iconst (n := 58) (0) dX10_init_57 rfl (by decide) ?_
  refine j_put (n := 61) 14 dX10_init_58 f_X10_42 rfl rfl rfl (Nat.le_of_ble_eq_true rfl) rfl rfl ?_
  refine j_aload_n (n := 62) dX10_init_61 rfl rfl ?_
  refine j_iconst (n := 63) (-1) dX10_init_62 rfl (by decide) ?_
  refine j_put (n := 66) 14 dX10_init_63 f_X10_45 rfl rfl rfl (Nat.le_of_ble_eq_true rfl) rfl rfl ?_
  refine j_aload_n (n := 67) dX10_init_66 rfl rfl ?_
  refine j_iconst (n := 68) (4) dX10_init_67 rfl (by decide) ?_
  refine j_newR (n := 71) 4 dX10_init_68 a_X10_48 rfl rfl (by decide) (by omega) (by omega) (fun a15 => ?_)
  refine j_perm _ (List.perm_append_singleton _ _) ?_
  refine j_putF (n := 74) 15 dX10_init_71 f_X10_50 rfl rfl rfl (fun q h => by cases h; rfl) rfl (Nat.le_of_ble_eq_true rfl) rfl rfl ?_
  refine j_iconst (n := 75) (0) dX10_init_74 rfl (by decide) ?_
  refine j_istore_n (n := 76) dX10_init_75 rfl (by decide) ?_
  refine j_iload_n (n := 77) dX10_init_76 rfl rfl ?_
  refine j_iconst (n := 78) (4) dX10_init_77 rfl (by decide) ?_
  refine j_icmp_ge (n := 81) 100 dX10_init_78 (by decide) rfl (fun c => ?_) (fun c => ?_)
  · exact absurd c (by decide)
  · skip
    refine j_aload_n (n := 82) dX10_init_81 rfl rfl ?_
    refine j_get (n := 85) 15 dX10_init_82 f_X10_50 rfl rfl rfl ?_
    refine j_iload_n (n := 86) dX10_init_85 rfl rfl ?_
    refine j_new (n := 89) 5 3 dX10_init_86 n_X10_48 rfl rfl (by omega) (by omega) (fs := [.int 0, .int 0, .int 0]) rfl (fun b0 => ?_)
    refine j_perm _ (List.perm_append_singleton _ _) ?_
    refine j_dup (n := 90) dX10_init_89 rfl rfl ?_
    refine j_callIv (n := 93) (Y1 := Y_X5_init) dX10_init_90 m_X10_54 cy_X5_init ci_X5_init rfl rfl (c_Register) rfl rfl rfl (by omega) (by omega) (by omega) (Nat.le_of_ble_eq_true rfl) (fun w h => ?_)
    subst h
    refine j_aastR (n := 94) 1 0 0 dX10_init_93 rfl rfl rfl rfl (by omega) (by omega) ?_
    refine j_iinc (n := 97) 1 dX10_init_94 rfl rfl (by decide) (by decide) ?_
    refine j_goto 76 dX10_init_97 (by decide) ?_
    refine j_iload_n (n := 77) dX10_init_76 rfl rfl ?_
    refine j_iconst (n := 78) (4) dX10_init_77 rfl (by decide) ?_
    refine j_icmp_ge (n := 81) 100 dX10_init_78 (by decide) rfl (fun c => ?_) (fun c => ?_)
    · exact absurd c (by decide)
    · skip
      refine j_aload_n (n := 82) dX10_init_81 rfl rfl ?_
      refine j_get (n := 85) 16 dX10_init_82 f_X10_50 rfl rfl rfl ?_
      refine j_iload_n (n := 86) dX10_init_85 rfl rfl ?_
      refine j_new (n := 89) 5 3 dX10_init_86 n_X10_48 rfl rfl (by omega) (by omega) (fs := [.int 0, .int 0, .int 0]) rfl (fun b1 => ?_)
      refine j_perm _ (List.perm_append_singleton _ _) ?_
      refine j_dup (n := 90) dX10_init_89 rfl rfl ?_
      refine j_callIv (n := 93) (Y1 := Y_X5_init) dX10_init_90 m_X10_54 cy_X5_init ci_X5_init rfl rfl (c_Register) rfl rfl rfl (by omega) (by omega) (by omega) (Nat.le_of_ble_eq_true rfl) (fun w h => ?_)
      subst h
      refine j_aastR (n := 94) 2 1 0 dX10_init_93 rfl rfl rfl rfl (by omega) (by omega) ?_
      refine j_iinc (n := 97) 2 dX10_init_94 rfl rfl (by decide) (by decide) ?_
      refine j_goto 76 dX10_init_97 (by decide) ?_
      refine j_iload_n (n := 77) dX10_init_76 rfl rfl ?_
      refine j_iconst (n := 78) (4) dX10_init_77 rfl (by decide) ?_
      refine j_icmp_ge (n := 81) 100 dX10_init_78 (by decide) rfl (fun c => ?_) (fun c => ?_)
      · exact absurd c (by decide)
      · skip
        refine j_aload_n (n := 82) dX10_init_81 rfl rfl ?_
        refine j_get (n := 85) 17 dX10_init_82 f_X10_50 rfl rfl rfl ?_
        refine j_iload_n (n := 86) dX10_init_85 rfl rfl ?_
        refine j_new (n := 89) 5 3 dX10_init_86 n_X10_48 rfl rfl (by omega) (by omega) (fs := [.int 0, .int 0, .int 0]) rfl (fun b2 => ?_)
        refine j_perm _ (List.perm_append_singleton _ _) ?_
        refine j_dup (n := 90) dX10_init_89 rfl rfl ?_
        refine j_callIv (n := 93) (Y1 := Y_X5_init) dX10_init_90 m_X10_54 cy_X5_init ci_X5_init rfl rfl (c_Register) rfl rfl rfl (by omega) (by omega) (by omega) (Nat.le_of_ble_eq_true rfl) (fun w h => ?_)
        subst h
        refine j_aastR (n := 94) 3 2 0 dX10_init_93 rfl rfl rfl rfl (by omega) (by omega) ?_
        refine j_iinc (n := 97) 3 dX10_init_94 rfl rfl (by decide) (by decide) ?_
        refine j_goto 76 dX10_init_97 (by decide) ?_
        refine j_iload_n (n := 77) dX10_init_76 rfl rfl ?_
        refine j_iconst (n := 78) (4) dX10_init_77 rfl (by decide) ?_
        refine j_icmp_ge (n := 81) 100 dX10_init_78 (by decide) rfl (fun c => ?_) (fun c => ?_)
        · exact absurd c (by decide)
        · skip
          refine j_aload_n (n := 82) dX10_init_81 rfl rfl ?_
          refine j_get (n := 85) 18 dX10_init_82 f_X10_50 rfl rfl rfl ?_
          refine j_iload_n (n := 86) dX10_init_85 rfl rfl ?_
          refine j_new (n := 89) 5 3 dX10_init_86 n_X10_48 rfl rfl (by omega) (by omega) (fs := [.int 0, .int 0, .int 0]) rfl (fun b3 => ?_)
          refine j_perm _ (List.perm_append_singleton _ _) ?_
          refine j_dup (n := 90) dX10_init_89 rfl rfl ?_
          refine j_callIv (n := 93) (Y1 := Y_X5_init) dX10_init_90 m_X10_54 cy_X5_init ci_X5_init rfl rfl (c_Register) rfl rfl rfl (by omega) (by omega) (by omega) (Nat.le_of_ble_eq_true rfl) (fun w h => ?_)
          subst h
          refine j_aastR (n := 94) 4 3 0 dX10_init_93 rfl rfl rfl rfl (by omega) (by omega) ?_
          refine j_iinc (n := 97) 4 dX10_init_94 rfl rfl (by decide) (by decide) ?_
          refine j_goto 76 dX10_init_97 (by decide) ?_
          refine j_iload_n (n := 77) dX10_init_76 rfl rfl ?_
          refine j_iconst (n := 78) (4) dX10_init_77 rfl (by decide) ?_
          refine j_icmp_ge (n := 81) 100 dX10_init_78 (by decide) rfl (fun c => ?_) (fun c => ?_)
          · skip
            refine j_aload_n (n := 101) dX10_init_100 rfl rfl ?_
            refine j_sipush (n := 104) (200) dX10_init_101 rfl (by decide) ?_
            refine j_newE (n := 107) 200 dX10_init_104 a_X10_55 rfl rfl (by decide) (by omega) (by omega) (fun a20 => ?_)
            refine j_perm _ (List.perm_append_singleton _ _) ?_
            refine j_putF (n := 110) 20 dX10_init_107 f_X10_57 rfl rfl rfl (fun q h => by cases h; rfl) rfl (Nat.le_of_ble_eq_true rfl) rfl rfl ?_
            refine j_aload_n (n := 111) dX10_init_110 rfl rfl ?_
            refine j_iconst (n := 112) (0) dX10_init_111 rfl (by decide) ?_
            refine j_put (n := 115) 20 dX10_init_112 f_X10_61 rfl rfl rfl (Nat.le_of_ble_eq_true rfl) rfl rfl ?_
            refine j_aload_n (n := 116) dX10_init_115 rfl rfl ?_
            refine j_new (n := 119) 1 2 dX10_init_116 n_X10_64 rfl rfl (by omega) (by omega) (fs := [.null, .null]) rfl (fun a21 => ?_)
            refine j_perm _ (List.perm_append_singleton _ _) ?_
            refine j_dup (n := 120) dX10_init_119 rfl rfl ?_
            refine j_aload_n (n := 121) dX10_init_120 rfl rfl ?_
            refine j_get (n := 124) 21 dX10_init_121 f_X10_34 rfl rfl rfl ?_
            refine j_callIv (n := 127) (Y1 := Y_X1_init) dX10_init_124 m_X10_66 cy_X1_init ci_X1_init rfl rfl (c_Measure) rfl rfl rfl (by omega) (by omega) (by omega) (Nat.le_of_ble_eq_true rfl) (fun w h => ?_)
            obtain ⟨a22, rfl⟩ := h
            refine j_perm _ (pm3 _ _ _) ?_
            refine j_putF (n := 130) 22 dX10_init_127 f_X10_69 rfl rfl rfl (fun q h => by cases h; rfl) rfl (Nat.le_of_ble_eq_true rfl) rfl rfl ?_
            refine j_aload_n (n := 131) dX10_init_130 rfl rfl ?_
            refine j_new (n := 134) 2 3 dX10_init_131 n_X10_73 rfl rfl (by omega) (by omega) (fs := [.null, .null, .int 0]) rfl (fun a23 => ?_)
            refine j_perm _ (List.perm_append_singleton _ _) ?_
            refine j_dup (n := 135) dX10_init_134 rfl rfl ?_
            refine j_callIv (n := 138) (Y1 := Y_X2_init) dX10_init_135 m_X10_75 cy_X2_init ci_X2_init rfl rfl (c_NearList) rfl rfl rfl (by omega) (by omega) (by omega) (Nat.le_of_ble_eq_true rfl) (fun w h => ?_)
            obtain ⟨a24, a25, rfl⟩ := h
            refine j_perm _ (pm3 _ _ _) ?_
            refine j_putF (n := 141) 25 dX10_init_138 f_X10_76 rfl rfl rfl (fun q h => by cases h; rfl) rfl (Nat.le_of_ble_eq_true rfl) rfl rfl ?_
            refine j_aload_n (n := 142) dX10_init_141 rfl rfl ?_
            refine j_new (n := 145) 9 4 dX10_init_142 n_X10_80 rfl rfl (by omega) (by omega) (fs := [.null, .null, .null, .int 0]) rfl (fun a26 => ?_)
            refine j_perm _ (List.perm_append_singleton _ _) ?_
            refine j_dup (n := 146) dX10_init_145 rfl rfl ?_
            refine j_callIv (n := 149) (Y1 := Y_X9_init) dX10_init_146 m_X10_82 cy_X9_init ci_X9_init rfl rfl (c_Way) rfl rfl rfl (by omega) (by omega) (by omega) (Nat.le_of_ble_eq_true rfl) (fun w h => ?_)
            obtain ⟨a27, a28, a29, rfl⟩ := h
            refine j_perm _ (pm3 _ _ _) ?_
            refine j_putF (n := 152) 29 dX10_init_149 f_X10_83 rfl rfl rfl (fun q h => by cases h; rfl) rfl (Nat.le_of_ble_eq_true rfl) rfl rfl ?_
            refine j_aload_n (n := 153) dX10_init_152 rfl rfl ?_
            refine j_new (n := 156) 3 2 dX10_init_153 n_X10_87 rfl rfl (by omega) (by omega) (fs := [.null, .int 0]) rfl (fun a30 => ?_)
            refine j_perm _ (List.perm_append_singleton _ _) ?_
            refine j_dup (n := 157) dX10_init_156 rfl rfl ?_
            refine j_callIv (n := 160) (Y1 := Y_X3_init) dX10_init_157 m_X10_89 cy_X3_init ci_X3_init rfl rfl (c_PairList) rfl rfl rfl (by omega) (by omega) (by omega) (Nat.le_of_ble_eq_true rfl) (fun w h => ?_)
            obtain ⟨a31, rfl⟩ := h
            refine j_perm _ (pm3 _ _ _) ?_
            refine j_putF (n := 163) 31 dX10_init_160 f_X10_90 rfl rfl rfl (fun q h => by cases h; rfl) rfl (Nat.le_of_ble_eq_true rfl) rfl rfl ?_
            refine j_ws (ws' := [(a30, .inr (3, [.ref a31, .int 0])), (a31, arI G 1000 (fun _ => 0)), (a26, .inr (9, [.ref a27, .ref a28, .ref a29, .int 0])), (a27, arI G 40 (fun _ => 0)), (a28, arI G 40 (fun _ => 0)), (a29, arI G 40 (fun _ => 0)), (a23, .inr (2, [.ref a24, .ref a25, .int 0])), (a24, arI G 200 (fun _ => 0)), (a25, arI G 200 (fun _ => 0)), (a21, .inr (1, [.ref a0, .ref a22])), (a22, arI G 1681 (fun _ => 0)), (a20, .inl (gE G, 200, refs (fun _ => none))), (b3, .inr (5, [.int 4, .int 8, .int 0])), (b2, .inr (5, [.int 4, .int 8, .int 0])), (b1, .inr (5, [.int 4, .int 8, .int 0])), (b0, .inr (5, [.int 4, .int 8, .int 0])), (a15, .inl (gR G, 4, refs (va_up (va_up (va_up (va_up (fun _ => none) 0 (some b0)) 1 (some b1)) 2 (some b2)) 3 (some b3)))), (a0, ptO A 0 0 (-1) 0), (A 1, arI G 60 (fun _ => 0)), (A 2, arI G 60 (fun _ => 0)), (A 3, arI G 60 (fun _ => 0)), (A 4, arI G 120 (fun _ => 0)), (A 5, arI G 127 (fun _ => 0)), (A 6, arI G 120 (fun _ => 0)), (A 7, arI G 0 (fun _ => 0)), (a13, .inr (6, [.ref a14, .int 0])), (a14, arI G 8 (fun _ => 0)), (a10, stO a11 a12 0), (a11, arI G 127 (fillF (fillF (fun _ => 0) 65 91 1) 97 123 1)), (a12, arI G 127 (fun _ => 0)), (a9, arI G 200 (fun _ => 0)), (a8, .inr (10, [.ref a9, .int 0, .ref a10, .ref a13, .ref a0, .null, .int 0, .int (-1), .ref a15, .ref a20, .int 0, .ref a21, .ref a23, .ref a26, .ref a30]))] ++ pre) rfl ?_
            have hq : ∃ Q : Nat → Nat, Q = fun i => [a0, A 1, A 2, A 3, A 4, A 5, A 6, A 7, a8, a9, a10, a11, a12, a13, a14, a15, b0, b1, b2, b3, a20, a21, a22, a23, a24, a25, a26, a27, a28, a29, a30, a31].getD i 0 := ⟨_, rfl⟩
            obtain ⟨Q, hQ⟩ := hq
            refine j_world (fun G1 H1 hW => jw_same (G := G1) (H := H1) (k := 16) (.inl (gR G, 4, refs (fun j => some (Q (16 + j))))) rfl (fun D cl H h => by subst hQ; exact h) hW) ?_
            refine j_ws (ws' := [(a30, .inr (3, [.ref a31, .int 0])), (a31, arI G 1000 (fun _ => 0)), (a26, .inr (9, [.ref a27, .ref a28, .ref a29, .int 0])), (a27, arI G 40 (fun _ => 0)), (a28, arI G 40 (fun _ => 0)), (a29, arI G 40 (fun _ => 0)), (a23, .inr (2, [.ref a24, .ref a25, .int 0])), (a24, arI G 200 (fun _ => 0)), (a25, arI G 200 (fun _ => 0)), (a21, .inr (1, [.ref a0, .ref a22])), (a22, arI G 1681 (fun _ => 0)), (a20, .inl (gE G, 200, refs (fun _ => none))), (b3, .inr (5, [.int 4, .int 8, .int 0])), (b2, .inr (5, [.int 4, .int 8, .int 0])), (b1, .inr (5, [.int 4, .int 8, .int 0])), (b0, .inr (5, [.int 4, .int 8, .int 0])), (a15, .inl (gR G, 4, refs (fun j => some (Q (16 + j))))), (a0, ptO A 0 0 (-1) 0), (A 1, arI G 60 (fun _ => 0)), (A 2, arI G 60 (fun _ => 0)), (A 3, arI G 60 (fun _ => 0)), (A 4, arI G 120 (fun _ => 0)), (A 5, arI G 127 (fun _ => 0)), (A 6, arI G 120 (fun _ => 0)), (A 7, arI G 0 (fun _ => 0)), (a13, .inr (6, [.ref a14, .int 0])), (a14, arI G 8 (fun _ => 0)), (a10, stO a11 a12 0), (a11, arI G 127 (fillF (fillF (fun _ => 0) 65 91 1) 97 123 1)), (a12, arI G 127 (fun _ => 0)), (a9, arI G 200 (fun _ => 0)), (a8, .inr (10, [.ref a9, .int 0, .ref a10, .ref a13, .ref a0, .null, .int 0, .int (-1), .ref a15, .ref a20, .int 0, .ref a21, .ref a23, .ref a26, .ref a30]))] ++ pre) rfl ?_
            refine j_perm ([(a0, ptO A 0 0 (-1) 0), (A 1, arI G 60 (fun _ => 0)), (A 2, arI G 60 (fun _ => 0)), (A 3, arI G 60 (fun _ => 0)), (A 4, arI G 120 (fun _ => 0)), (A 5, arI G 127 (fun _ => 0)), (A 6, arI G 120 (fun _ => 0)), (A 7, arI G 0 (fun _ => 0)), (a8, .inr (10, [.ref a9, .int 0, .ref a10, .ref a13, .ref a0, .null, .int 0, .int (-1), .ref a15, .ref a20, .int 0, .ref a21, .ref a23, .ref a26, .ref a30])), (a9, arI G 200 (fun _ => 0)), (a10, stO a11 a12 0), (a11, arI G 127 (fillF (fillF (fun _ => 0) 65 91 1) 97 123 1)), (a12, arI G 127 (fun _ => 0)), (a13, .inr (6, [.ref a14, .int 0])), (a14, arI G 8 (fun _ => 0)), (a15, .inl (gR G, 4, refs (fun j => some (Q (16 + j))))), (b0, .inr (5, [.int 4, .int 8, .int 0])), (b1, .inr (5, [.int 4, .int 8, .int 0])), (b2, .inr (5, [.int 4, .int 8, .int 0])), (b3, .inr (5, [.int 4, .int 8, .int 0])), (a20, .inl (gE G, 200, refs (fun _ => none))), (a21, .inr (1, [.ref a0, .ref a22])), (a22, arI G 1681 (fun _ => 0)), (a23, .inr (2, [.ref a24, .ref a25, .int 0])), (a24, arI G 200 (fun _ => 0)), (a25, arI G 200 (fun _ => 0)), (a26, .inr (9, [.ref a27, .ref a28, .ref a29, .int 0])), (a27, arI G 40 (fun _ => 0)), (a28, arI G 40 (fun _ => 0)), (a29, arI G 40 (fun _ => 0)), (a30, .inr (3, [.ref a31, .int 0])), (a31, arI G 1000 (fun _ => 0))] ++ pre) (pm32 (a30, .inr (3, [.ref a31, .int 0])) (a31, arI G 1000 (fun _ => 0)) (a26, .inr (9, [.ref a27, .ref a28, .ref a29, .int 0])) (a27, arI G 40 (fun _ => 0)) (a28, arI G 40 (fun _ => 0)) (a29, arI G 40 (fun _ => 0)) (a23, .inr (2, [.ref a24, .ref a25, .int 0])) (a24, arI G 200 (fun _ => 0)) (a25, arI G 200 (fun _ => 0)) (a21, .inr (1, [.ref a0, .ref a22])) (a22, arI G 1681 (fun _ => 0)) (a20, .inl (gE G, 200, refs (fun _ => none))) (b3, .inr (5, [.int 4, .int 8, .int 0])) (b2, .inr (5, [.int 4, .int 8, .int 0])) (b1, .inr (5, [.int 4, .int 8, .int 0])) (b0, .inr (5, [.int 4, .int 8, .int 0])) (a15, .inl (gR G, 4, refs (fun j => some (Q (16 + j))))) (a0, ptO A 0 0 (-1) 0) (A 1, arI G 60 (fun _ => 0)) (A 2, arI G 60 (fun _ => 0)) (A 3, arI G 60 (fun _ => 0)) (A 4, arI G 120 (fun _ => 0)) (A 5, arI G 127 (fun _ => 0)) (A 6, arI G 120 (fun _ => 0)) (A 7, arI G 0 (fun _ => 0)) (a13, .inr (6, [.ref a14, .int 0])) (a14, arI G 8 (fun _ => 0)) (a10, stO a11 a12 0) (a11, arI G 127 (fillF (fillF (fun _ => 0) 65 91 1) 97 123 1)) (a12, arI G 127 (fun _ => 0)) (a9, arI G 200 (fun _ => 0)) (a8, .inr (10, [.ref a9, .int 0, .ref a10, .ref a13, .ref a0, .null, .int 0, .int (-1), .ref a15, .ref a20, .int 0, .ref a21, .ref a23, .ref a26, .ref a30])) pre) ?_
            refine j_ws (ws' := cW G Q iN0 iZ0 iF0 none (fun _ => none) (poolE G [] [] pre)) (by rw [hQ]; rfl) ?_
            exact j_vret dX10_init_163 rfl (by omega) (by omega) (⟨Q, by rw [hQ]; rfl, rfl⟩)
          · exact absurd (by decide) c

/-! constructors of the small classes; NearList, Way, PairList -/
theorem set2 {α : Type} {ws : List α} {k1 k2 : Nat} {a b a' b' : α} (h : k1 ≠ k2) : (((ws.set k1 a).set k2 b).set k1 a').set k2 b' = (ws.set k1 a').set k2 b' := by
  rw [List.set_comm _ _ (Ne.symm h), List.set_set, List.set_set]
def shF (f : Nat → Int32) (i n : Nat) : Nat → Int32 := fun k => if i < k ∧ k ≤ n then f (k - 1) else f k
theorem shF_n (f : Nat → Int32) (n : Nat) : shF f n n = f := by
  funext k; unfold shF; rw [if_neg (by omega)]
theorem shF_at (f : Nat → Int32) (i n : Nat) : shF f (i + 1) n i = f i := by
  unfold shF; rw [if_neg (by omega)]
theorem shF_s (f : Nat → Int32) (i n : Nat) (h : i + 1 ≤ n) : upd (shF f (i + 1) n) (i + 1) (f i) = shF f i n := by
  funext k; unfold upd shF
  by_cases hk : k = i + 1
  · subst hk; rw [if_pos rfl, if_pos (by omega)]; rfl
  · rw [if_neg hk]
    by_cases h2 : i + 1 < k ∧ k ≤ n
    · rw [if_pos h2, if_pos (by omega)]
    · rw [if_neg h2]
      rw [if_neg (by omega)]
def insP (c : Nat → Int32) (x : Int32) : Nat → Nat
  | 0 => 0
  | n + 1 => if c n ≤ x then n + 1 else insP c x n
theorem insP_le (c : Nat → Int32) (x : Int32) (n : Nat) : insP c x n ≤ n := by
  induction n with
  | zero => exact Nat.le_refl _
  | succ n ih => unfold insP; split <;> omega
def insF (f : Nat → Int32) (p n : Nat) (v : Int32) : Nat → Int32 := upd (shF f p n) p v
section LI
variable {G : GT} {ws : va_W} {pre : va_W}
theorem c_SignTable {a0 : Nat} : JM G Y_X7_init 2 2 254 [.ref a0] ((a0, .inr (7, [.null, .null, .int 0])) :: pre) (Qv (fun w => ∃ a1 a2 : Nat, w = (a0, .inr (7, [.ref a1, .ref a2, .int 0])) :: pre ++ [(a1, .inl (gI G, 127, .inl (fillF (fillF (fun _ => 0) 65 91 1) 97 123 1))), (a2, .inl (gI G, 127, .inl (fun _ => 0)))])) := by
  refine JM.of [(0, .ref a0)] rfl rfl (by simp) (Nat.le_of_ble_eq_true rfl) (by decide +kernel) ?_
  refine j_aload_n (n := 1) dX7_init_0 rfl rfl ?_
  refine j_objInit (n := 4) dX7_init_1 m_X7_3 rfl (by omega) (Nat.le_of_ble_eq_true rfl) ?_
  refine j_aload_n (n := 5) dX7_init_4 rfl rfl ?_
  refine j_bipush (n := 7) (127) dX7_init_5 rfl (by decide) ?_
  refine j_newi (n := 9) 127 dX7_init_7 rfl rfl (by decide) (by omega) (by omega) (fun a1 => ?_)
  refine j_putF (n := 12) 0 dX7_init_9 f_X7_9 rfl rfl rfl (fun q h => by cases h; rfl) rfl (Nat.le_of_ble_eq_true rfl) rfl rfl ?_
  refine j_aload_n (n := 13) dX7_init_12 rfl rfl ?_
  refine j_bipush (n := 15) (127) dX7_init_13 rfl (by decide) ?_
  refine j_newi (n := 17) 127 dX7_init_15 rfl rfl (by decide) (by omega) (by omega) (fun a2 => ?_)
  refine j_putF (n := 20) 0 dX7_init_17 f_X7_15 rfl rfl rfl (fun q h => by cases h; rfl) rfl (Nat.le_of_ble_eq_true rfl) rfl rfl ?_
  refine j_aload_n (n := 21) dX7_init_20 rfl rfl ?_
  refine j_iconst (n := 22) (0) dX7_init_21 rfl (by decide) ?_
  refine j_put (n := 25) 0 dX7_init_22 f_X7_18 rfl rfl rfl (Nat.le_of_ble_eq_true rfl) rfl rfl ?_
  refine j_aload_n (n := 26) dX7_init_25 rfl rfl ?_
  refine j_get (n := 29) 0 dX7_init_26 f_X7_9 rfl rfl rfl ?_
  refine j_bipush (n := 31) (65) dX7_init_29 rfl (by decide) ?_
  refine j_bipush (n := 33) (91) dX7_init_31 rfl (by decide) ?_
  refine j_iconst (n := 34) (1) dX7_init_33 rfl (by decide) ?_
  have e1 : ((a0, Sum.inr (7, [Value.ref a1, .ref a2, .int 0])) :: pre ++ [(a1, .inl (gI G, 127, .inl (fun _ => 0))), (a2, .inl (gI G, 127, .inl (fun _ => 0)))] : va_W)[pre.length + 1]? = some (a1, .inl (gI G, 127, .inl (fun _ => 0))) := by simp
  refine j_ws (ws' := (a0, Sum.inr (7, [Value.ref a1, .ref a2, .int 0])) :: pre ++ [(a1, .inl (gI G, 127, .inl (fun _ => 0))), (a2, .inl (gI G, 127, .inl (fun _ => 0)))]) (by simp) ?_
  refine j_callSv (n := 37) (Y1 := Y_J7_fill_fda19) dX7_init_34 m_X7_22 cy_J7_fill_fda19 cs_J7_fill_fda19 (c_fill4 (lo := 65) (hi := 91) _ e1 (by decide) (by decide) (by decide)) rfl rfl rfl (by omega) (by omega) (by omega) (Nat.le_of_ble_eq_true rfl) (fun w h => ?_)
  subst h
  refine j_ws (ws' := (a0, Sum.inr (7, [Value.ref a1, .ref a2, .int 0])) :: pre ++ [(a1, .inl (gI G, 127, .inl (fillF (fun _ => 0) 65 91 1))), (a2, .inl (gI G, 127, .inl (fun _ => 0)))]) (by simp) ?_
  have e2 : ((a0, Sum.inr (7, [Value.ref a1, .ref a2, .int 0])) :: pre ++ [(a1, .inl (gI G, 127, .inl (fillF (fun _ => 0) 65 91 1))), (a2, .inl (gI G, 127, .inl (fun _ => 0)))] : va_W)[pre.length + 1]? = some (a1, .inl (gI G, 127, .inl (fillF (fun _ => 0) 65 91 1))) := by simp
  refine j_aload_n (n := 38) dX7_init_37 rfl rfl ?_
  refine j_get (n := 41) 0 dX7_init_38 f_X7_9 rfl rfl rfl ?_
  refine j_bipush (n := 43) (97) dX7_init_41 rfl (by decide) ?_
  refine j_bipush (n := 45) (123) dX7_init_43 rfl (by decide) ?_
  refine j_iconst (n := 46) (1) dX7_init_45 rfl (by decide) ?_
  refine j_callSv (n := 49) (Y1 := Y_J7_fill_fda19) dX7_init_46 m_X7_22 cy_J7_fill_fda19 cs_J7_fill_fda19 (c_fill4 (lo := 97) (hi := 123) _ e2 (by decide) (by decide) (by decide)) rfl rfl rfl (by omega) (by omega) (by omega) (Nat.le_of_ble_eq_true rfl) (fun w h => ?_)
  subst h
  exact j_vret dX7_init_49 rfl (by omega) (by omega) (⟨a1, a2, by simp⟩)
theorem c_ScriptSets {a0 : Nat} : JM G Y_X6_init 1 1 8 [.ref a0] ((a0, .inr (6, [.null, .int 0])) :: pre) (Qv (fun w => ∃ a1 : Nat, w = (a0, .inr (6, [.ref a1, .int 0])) :: pre ++ [(a1, .inl (gI G, 8, .inl (fun _ => 0)))])) := by
  refine JM.of [(0, .ref a0)] rfl rfl (by simp) (Nat.le_of_ble_eq_true rfl) (by decide +kernel) ?_
  refine j_aload_n (n := 1) dX6_init_0 rfl rfl ?_
  refine j_objInit (n := 4) dX6_init_1 m_X6_3 rfl (by omega) (Nat.le_of_ble_eq_true rfl) ?_
  refine j_aload_n (n := 5) dX6_init_4 rfl rfl ?_
  refine j_bipush (n := 7) (8) dX6_init_5 rfl (by decide) ?_
  refine j_newi (n := 9) 8 dX6_init_7 rfl rfl (by decide) (by omega) (by omega) (fun a1 => ?_)
  refine j_putF (n := 12) 0 dX6_init_9 f_X6_9 rfl rfl rfl (fun q h => by cases h; rfl) rfl (Nat.le_of_ble_eq_true rfl) rfl rfl ?_
  refine j_aload_n (n := 13) dX6_init_12 rfl rfl ?_
  refine j_iconst (n := 14) (0) dX6_init_13 rfl (by decide) ?_
  refine j_put (n := 17) 0 dX6_init_14 f_X6_15 rfl rfl rfl (Nat.le_of_ble_eq_true rfl) rfl rfl ?_
  exact j_vret dX6_init_17 rfl (by omega) (by omega) (⟨a1, rfl⟩)
theorem c_Register {a0 : Nat} : JV G Y_X5_init 1 0 0 [.ref a0] ((a0, .inr (5, [.int 0, .int 0, .int 0])) :: pre) ((a0, .inr (5, [.int 4, .int 8, .int 0])) :: pre) := by
  refine JM.of [(0, .ref a0)] rfl rfl (by simp) (Nat.le_of_ble_eq_true rfl) (by decide +kernel) ?_
  refine j_aload_n (n := 1) dX5_init_0 rfl rfl ?_
  refine j_objInit (n := 4) dX5_init_1 m_X5_1 rfl (by omega) (Nat.le_of_ble_eq_true rfl) ?_
  refine j_aload_n (n := 5) dX5_init_4 rfl rfl ?_
  refine j_iconst (n := 6) (4) dX5_init_5 rfl (by decide) ?_
  refine j_put (n := 9) 0 dX5_init_6 f_X5_7 rfl rfl rfl (Nat.le_of_ble_eq_true rfl) rfl rfl ?_
  refine j_aload_n (n := 10) dX5_init_9 rfl rfl ?_
  refine j_bipush (n := 12) (8) dX5_init_10 rfl (by decide) ?_
  refine j_put (n := 15) 0 dX5_init_12 f_X5_13 rfl rfl rfl (Nat.le_of_ble_eq_true rfl) rfl rfl ?_
  refine j_aload_n (n := 16) dX5_init_15 rfl rfl ?_
  refine j_iconst (n := 17) (0) dX5_init_16 rfl (by decide) ?_
  refine j_put (n := 20) 0 dX5_init_17 f_X5_16 rfl rfl rfl (Nat.le_of_ble_eq_true rfl) rfl rfl ?_
  exact j_vret dX5_init_20 rfl (by omega) (by omega) (rfl)
theorem c_Entry {a0 at_ : Nat} {r o : Int32} : JV G Y_X0_init 1 0 0 [.ref a0, .int r, .int o, .ref at_] ((a0, .inr (0, [.int 0, .int 0, .null, .int 0])) :: pre) ((a0, .inr (0, [.int r, .int o, .ref at_, .int 1])) :: pre) := by
  refine JM.of [(0, .ref a0), (1, .int r), (2, .int o), (3, .ref at_)] rfl rfl (by simp) (Nat.le_of_ble_eq_true rfl) (by decide +kernel) ?_
  refine j_aload_n (n := 1) dX0_init_0 rfl rfl ?_
  refine j_objInit (n := 4) dX0_init_1 m_X0_1 rfl (by omega) (Nat.le_of_ble_eq_true rfl) ?_
  refine j_aload_n (n := 5) dX0_init_4 rfl rfl ?_
  refine j_iload_n (n := 6) dX0_init_5 rfl rfl ?_
  refine j_putF (n := 9) 0 dX0_init_6 f_X0_7 rfl rfl rfl (fun q h => by cases h; rfl) rfl (Nat.le_of_ble_eq_true rfl) rfl rfl ?_
  refine j_aload_n (n := 10) dX0_init_9 rfl rfl ?_
  refine j_iload_n (n := 11) dX0_init_10 rfl rfl ?_
  refine j_putF (n := 14) 0 dX0_init_11 f_X0_13 rfl rfl rfl (fun q h => by cases h; rfl) rfl (Nat.le_of_ble_eq_true rfl) rfl rfl ?_
  refine j_aload_n (n := 15) dX0_init_14 rfl rfl ?_
  refine j_aload_n (n := 16) dX0_init_15 rfl rfl ?_
  refine j_putF (n := 19) 0 dX0_init_16 f_X0_16 rfl rfl rfl (fun q h => by cases h; rfl) rfl (Nat.le_of_ble_eq_true rfl) rfl rfl ?_
  refine j_aload_n (n := 20) dX0_init_19 rfl rfl ?_
  refine j_iconst (n := 21) (1) dX0_init_20 rfl (by decide) ?_
  refine j_put (n := 24) 0 dX0_init_21 f_X0_20 rfl rfl rfl (Nat.le_of_ble_eq_true rfl) rfl rfl ?_
  exact j_vret dX0_init_24 rfl (by omega) (by omega) (rfl)
theorem c_NearList {a0 : Nat} : JM G Y_X2_init 1 2 400 [.ref a0] ((a0, .inr (2, [.null, .null, .int 0])) :: pre) (Qv (fun w => ∃ a1 a2 : Nat, w = (a0, .inr (2, [.ref a1, .ref a2, .int 0])) :: pre ++ [(a1, .inl (gI G, 200, .inl (fun _ => 0))), (a2, .inl (gI G, 200, .inl (fun _ => 0)))])) := by
  refine JM.of [(0, .ref a0)] rfl rfl (by simp) (Nat.le_of_ble_eq_true rfl) (by decide +kernel) ?_
  refine j_aload_n (n := 1) dX2_init_0 rfl rfl ?_
  refine j_objInit (n := 4) dX2_init_1 m_X2_3 rfl (by omega) (Nat.le_of_ble_eq_true rfl) ?_
  refine j_aload_n (n := 5) dX2_init_4 rfl rfl ?_
  refine j_sipush (n := 8) (200) dX2_init_5 rfl (by decide) ?_
  refine j_newi (n := 10) 200 dX2_init_8 rfl rfl (by decide) (by omega) (by omega) (fun a1 => ?_)
  refine j_putF (n := 13) 0 dX2_init_10 f_X2_9 rfl rfl rfl (fun q h => by cases h; rfl) rfl (Nat.le_of_ble_eq_true rfl) rfl rfl ?_
  refine j_aload_n (n := 14) dX2_init_13 rfl rfl ?_
  refine j_sipush (n := 17) (200) dX2_init_14 rfl (by decide) ?_
  refine j_newi (n := 19) 200 dX2_init_17 rfl rfl (by decide) (by omega) (by omega) (fun a2 => ?_)
  refine j_putF (n := 22) 0 dX2_init_19 f_X2_15 rfl rfl rfl (fun q h => by cases h; rfl) rfl (Nat.le_of_ble_eq_true rfl) rfl rfl ?_
  refine j_aload_n (n := 23) dX2_init_22 rfl rfl ?_
  refine j_iconst (n := 24) (0) dX2_init_23 rfl (by decide) ?_
  refine j_put (n := 27) 0 dX2_init_24 f_X2_18 rfl rfl rfl (Nat.le_of_ble_eq_true rfl) rfl rfl ?_
  exact j_vret dX2_init_27 rfl (by omega) (by omega) (⟨a1, a2, by simp⟩)
theorem c_Way {a0 : Nat} : JM G Y_X9_init 1 3 120 [.ref a0] ((a0, .inr (9, [.null, .null, .null, .int 0])) :: pre) (Qv (fun w => ∃ a1 a2 a3 : Nat, w = (a0, .inr (9, [.ref a1, .ref a2, .ref a3, .int 0])) :: pre ++ [(a1, .inl (gI G, 40, .inl (fun _ => 0))), (a2, .inl (gI G, 40, .inl (fun _ => 0))), (a3, .inl (gI G, 40, .inl (fun _ => 0)))])) := by
  refine JM.of [(0, .ref a0)] rfl rfl (by simp) (Nat.le_of_ble_eq_true rfl) (by decide +kernel) ?_
  refine j_aload_n (n := 1) dX9_init_0 rfl rfl ?_
  refine j_objInit (n := 4) dX9_init_1 m_X9_3 rfl (by omega) (Nat.le_of_ble_eq_true rfl) ?_
  refine j_aload_n (n := 5) dX9_init_4 rfl rfl ?_
  refine j_bipush (n := 7) (40) dX9_init_5 rfl (by decide) ?_
  refine j_newi (n := 9) 40 dX9_init_7 rfl rfl (by decide) (by omega) (by omega) (fun a1 => ?_)
  refine j_putF (n := 12) 0 dX9_init_9 f_X9_9 rfl rfl rfl (fun q h => by cases h; rfl) rfl (Nat.le_of_ble_eq_true rfl) rfl rfl ?_
  refine j_aload_n (n := 13) dX9_init_12 rfl rfl ?_
  refine j_bipush (n := 15) (40) dX9_init_13 rfl (by decide) ?_
  refine j_newi (n := 17) 40 dX9_init_15 rfl rfl (by decide) (by omega) (by omega) (fun a2 => ?_)
  refine j_putF (n := 20) 0 dX9_init_17 f_X9_15 rfl rfl rfl (fun q h => by cases h; rfl) rfl (Nat.le_of_ble_eq_true rfl) rfl rfl ?_
  refine j_aload_n (n := 21) dX9_init_20 rfl rfl ?_
  refine j_bipush (n := 23) (40) dX9_init_21 rfl (by decide) ?_
  refine j_newi (n := 25) 40 dX9_init_23 rfl rfl (by decide) (by omega) (by omega) (fun a3 => ?_)
  refine j_putF (n := 28) 0 dX9_init_25 f_X9_18 rfl rfl rfl (fun q h => by cases h; rfl) rfl (Nat.le_of_ble_eq_true rfl) rfl rfl ?_
  refine j_aload_n (n := 29) dX9_init_28 rfl rfl ?_
  refine j_iconst (n := 30) (0) dX9_init_29 rfl (by decide) ?_
  refine j_put (n := 33) 0 dX9_init_30 f_X9_21 rfl rfl rfl (Nat.le_of_ble_eq_true rfl) rfl rfl ?_
  exact j_vret dX9_init_33 rfl (by omega) (by omega) (⟨a1, a2, a3, by simp⟩)
theorem c_PairList {a0 : Nat} : JM G Y_X3_init 1 1 1000 [.ref a0] ((a0, .inr (3, [.null, .int 0])) :: pre) (Qv (fun w => ∃ a1 : Nat, w = (a0, .inr (3, [.ref a1, .int 0])) :: pre ++ [(a1, .inl (gI G, 1000, .inl (fun _ => 0)))])) := by
  refine JM.of [(0, .ref a0)] rfl rfl (by simp) (Nat.le_of_ble_eq_true rfl) (by decide +kernel) ?_
  refine j_aload_n (n := 1) dX3_init_0 rfl rfl ?_
  refine j_objInit (n := 4) dX3_init_1 m_X3_3 rfl (by omega) (Nat.le_of_ble_eq_true rfl) ?_
  refine j_aload_n (n := 5) dX3_init_4 rfl rfl ?_
  refine j_sipush (n := 8) (1000) dX3_init_5 rfl (by decide) ?_
  refine j_newi (n := 10) 1000 dX3_init_8 rfl rfl (by decide) (by omega) (by omega) (fun a1 => ?_)
  refine j_putF (n := 13) 0 dX3_init_10 f_X3_9 rfl rfl rfl (fun q h => by cases h; rfl) rfl (Nat.le_of_ble_eq_true rfl) rfl rfl ?_
  refine j_aload_n (n := 14) dX3_init_13 rfl rfl ?_
  refine j_iconst (n := 15) (0) dX3_init_14 rfl (by decide) ?_
  refine j_put (n := 18) 0 dX3_init_15 f_X3_15 rfl rfl rfl (Nat.le_of_ble_eq_true rfl) rfl rfl ?_
  exact j_vret dX3_init_18 rfl (by omega) (by omega) (⟨a1, rfl⟩)
theorem ins_end {a0 a1 a2 n p : Nat} {f g : Nat → Int32} {v x : Int32} {k0 k1 k2 : Nat} (h0 : ws[k0]? = some (a0, .inr (2, [.ref a1, .ref a2, .int (nI n)]))) (h1 : ws[k1]? = some (a1, .inl (gI G, 200, .inl f))) (h2 : ws[k2]? = some (a2, .inl (gI G, 200, .inl g))) (n01 : k0 ≠ k1) (n02 : k0 ≠ k2) (n12 : k1 ≠ k2) (hn : n < 200) (hp : p ≤ n) (he : insP g x n = p) : JJ G Y_X2_insert 0 0 0 (Qv (fun w => w = ((ws.set k1 (a1, .inl (gI G, 200, .inl (insF f (insP g x n) n v)))).set k2 (a2, .inl (gI G, 200, .inl (insF g (insP g x n) n x)))).set k0 (a0, .inr (2, [.ref a1, .ref a2, .int (nI (n + 1))])))) 66 [(0, .ref a0), (1, .int v), (2, .int x), (3, .int (nI p))] [] ((ws.set k1 (a1, .inl (gI G, 200, .inl (shF f p n)))).set k2 (a2, .inl (gI G, 200, .inl (shF g p n)))) 0 0 := by
  have h0' : ((ws.set k1 (a1, .inl (gI G, 200, .inl (shF f p n)))).set k2 (a2, .inl (gI G, 200, .inl (shF g p n))))[k0]? = some (a0, .inr (2, [.ref a1, .ref a2, .int (nI n)])) := gs_ne (by omega) (gs_ne (by omega) h0)
  have h1' : ((ws.set k1 (a1, .inl (gI G, 200, .inl (shF f p n)))).set k2 (a2, .inl (gI G, 200, .inl (shF g p n))))[k1]? = some (a1, .inl (gI G, 200, .inl (shF f p n))) := gs_ne (by omega) (gs_eq h1)
  have h2' : ((ws.set k1 (a1, .inl (gI G, 200, .inl (shF f p n)))).set k2 (a2, .inl (gI G, 200, .inl (shF g p n))))[k2]? = some (a2, .inl (gI G, 200, .inl (shF g p n))) := gs_eq (gs_ne (by omega) h2)
  refine j_aload_n (n := 67) dX2_insert_66 rfl rfl ?_
  refine j_get (n := 70) _ dX2_insert_67 f_X2_9 rfl h0' rfl ?_
  refine j_iload_n (n := 71) dX2_insert_70 rfl rfl ?_
  refine j_iload_n (n := 72) dX2_insert_71 rfl rfl ?_
  refine j_iast (n := 73) _ p dX2_insert_72 rfl h1' rfl (by omega) (by omega) ?_
  refine j_aload_n (n := 74) dX2_insert_73 rfl rfl ?_
  refine j_get (n := 77) _ dX2_insert_74 f_X2_15 rfl (gs_ne (by omega) h0') rfl ?_
  refine j_iload_n (n := 78) dX2_insert_77 rfl rfl ?_
  refine j_iload_n (n := 79) dX2_insert_78 rfl rfl ?_
  refine j_iast (n := 80) _ p dX2_insert_79 rfl (gs_ne (by omega) h2') rfl (by omega) (by omega) ?_
  refine j_aload_n (n := 81) dX2_insert_80 rfl rfl ?_
  refine j_dup (n := 82) dX2_insert_81 rfl rfl ?_
  refine j_get (n := 85) _ dX2_insert_82 f_X2_18 rfl (gs_ne (by omega) (gs_ne (by omega) h0')) rfl ?_
  refine j_iconst (n := 86) (1) dX2_insert_85 rfl (by decide) ?_
  refine j_iadd (n := 87) dX2_insert_86 rfl ?_
  refine j_top (nI (n + 1)) (nI_1 n) ?_
  refine j_put (n := 90) _ dX2_insert_87 f_X2_18 rfl rfl (gs_ne (by omega) (gs_ne (by omega) h0')) (Nat.le_of_ble_eq_true rfl) rfl rfl ?_
  exact j_vret dX2_insert_90 rfl (by omega) (by omega) (by rw [set2 n12, he]; rfl)
theorem ins_loop {a0 a1 a2 n : Nat} {f g : Nat → Int32} {v x : Int32} {k0 k1 k2 : Nat} (h0 : ws[k0]? = some (a0, .inr (2, [.ref a1, .ref a2, .int (nI n)]))) (h1 : ws[k1]? = some (a1, .inl (gI G, 200, .inl f))) (h2 : ws[k2]? = some (a2, .inl (gI G, 200, .inl g))) (n01 : k0 ≠ k1) (n02 : k0 ≠ k2) (n12 : k1 ≠ k2) (hn : n < 200) : ∀ (i : Nat), i ≤ n → insP g x n = insP g x i → JJ G Y_X2_insert 0 0 0 (Qv (fun w => w = ((ws.set k1 (a1, .inl (gI G, 200, .inl (insF f (insP g x n) n v)))).set k2 (a2, .inl (gI G, 200, .inl (insF g (insP g x n) n x)))).set k0 (a0, .inr (2, [.ref a1, .ref a2, .int (nI (n + 1))])))) 16 [(0, .ref a0), (1, .int v), (2, .int x), (3, .int (nI i))] [] ((ws.set k1 (a1, .inl (gI G, 200, .inl (shF f i n)))).set k2 (a2, .inl (gI G, 200, .inl (shF g i n)))) 0 0 := by
  intro i
  induction i with
  | zero =>
    intro hi he
    refine j_iload_n (n := 17) dX2_insert_16 rfl rfl ?_
    refine j_if_le (n := 20) 66 dX2_insert_17 (by decide) rfl (fun c => ?_) (fun c => ?_)
    · exact ins_end h0 h1 h2 n01 n02 n12 hn hi he
    · exact absurd (show nI 0 ≤ 0 by decide) c
  | succ i ih =>
    intro hi he
    have h0' : ((ws.set k1 (a1, .inl (gI G, 200, .inl (shF f (i + 1) n)))).set k2 (a2, .inl (gI G, 200, .inl (shF g (i + 1) n))))[k0]? = some (a0, .inr (2, [.ref a1, .ref a2, .int (nI n)])) := gs_ne (by omega) (gs_ne (by omega) h0)
    have h1' : ((ws.set k1 (a1, .inl (gI G, 200, .inl (shF f (i + 1) n)))).set k2 (a2, .inl (gI G, 200, .inl (shF g (i + 1) n))))[k1]? = some (a1, .inl (gI G, 200, .inl (shF f (i + 1) n))) := gs_ne (by omega) (gs_eq h1)
    have h2' : ((ws.set k1 (a1, .inl (gI G, 200, .inl (shF f (i + 1) n)))).set k2 (a2, .inl (gI G, 200, .inl (shF g (i + 1) n))))[k2]? = some (a2, .inl (gI G, 200, .inl (shF g (i + 1) n))) := gs_eq (gs_ne (by omega) h2)
    refine j_iload_n (n := 17) dX2_insert_16 rfl rfl ?_
    refine j_if_le (n := 20) 66 dX2_insert_17 (by decide) rfl (fun c => ?_) (fun c => ?_)
    · exact absurd c (nI_nle (by omega) (by omega))
    · refine j_aload_n (n := 21) dX2_insert_20 rfl rfl ?_
      refine j_get (n := 24) _ dX2_insert_21 f_X2_15 rfl h0' rfl ?_
      refine j_iload_n (n := 25) dX2_insert_24 rfl rfl ?_
      refine j_iconst (n := 26) (1) dX2_insert_25 rfl (by decide) ?_
      refine j_isub (n := 27) dX2_insert_26 rfl ?_
      refine j_iald (n := 28) _ i dX2_insert_27 rfl h2' (nI_sub1 i) (by omega) (by omega) ?_
      refine j_iload_n (n := 29) dX2_insert_28 rfl rfl ?_
      rw [shF_at]
      refine j_icmp_le (n := 32) 66 dX2_insert_29 (by decide) rfl (fun c2 => ?_) (fun c2 => ?_)
      · exact ins_end h0 h1 h2 n01 n02 n12 hn hi (by rw [he]; simp [insP, c2])
      · refine j_aload_n (n := 33) dX2_insert_32 rfl rfl ?_
        refine j_get (n := 36) _ dX2_insert_33 f_X2_9 rfl h0' rfl ?_
        refine j_iload_n (n := 37) dX2_insert_36 rfl rfl ?_
        refine j_aload_n (n := 38) dX2_insert_37 rfl rfl ?_
        refine j_get (n := 41) _ dX2_insert_38 f_X2_9 rfl h0' rfl ?_
        refine j_iload_n (n := 42) dX2_insert_41 rfl rfl ?_
        refine j_iconst (n := 43) (1) dX2_insert_42 rfl (by decide) ?_
        refine j_isub (n := 44) dX2_insert_43 rfl ?_
        refine j_iald (n := 45) _ i dX2_insert_44 rfl h1' (nI_sub1 i) (by omega) (by omega) ?_
        rw [shF_at]
        refine j_iast (n := 46) _ (i + 1) dX2_insert_45 rfl h1' rfl (by omega) (by omega) ?_
        refine j_aload_n (n := 47) dX2_insert_46 rfl rfl ?_
        refine j_get (n := 50) _ dX2_insert_47 f_X2_15 rfl (gs_ne (by omega) h0') rfl ?_
        refine j_iload_n (n := 51) dX2_insert_50 rfl rfl ?_
        refine j_aload_n (n := 52) dX2_insert_51 rfl rfl ?_
        refine j_get (n := 55) _ dX2_insert_52 f_X2_15 rfl (gs_ne (by omega) h0') rfl ?_
        refine j_iload_n (n := 56) dX2_insert_55 rfl rfl ?_
        refine j_iconst (n := 57) (1) dX2_insert_56 rfl (by decide) ?_
        refine j_isub (n := 58) dX2_insert_57 rfl ?_
        refine j_iald (n := 59) _ i dX2_insert_58 rfl (gs_ne (by omega) h2') (nI_sub1 i) (by omega) (by omega) ?_
        rw [shF_at]
        refine j_iast (n := 60) _ (i + 1) dX2_insert_59 rfl (gs_ne (by omega) h2') rfl (by omega) (by omega) ?_
        refine j_iinc (n := 63) (nI i) dX2_insert_60 rfl rfl (nI_dec i) (by decide) ?_
        refine j_goto 16 dX2_insert_63 (by decide) ?_
        refine j_ws (by rw [set2 n12, shF_s f i n hi, shF_s g i n hi]) ?_
        exact ih (by omega) (by rw [he]; simp [insP, c2])
theorem c_insert {a0 a1 a2 n : Nat} {f g : Nat → Int32} {v x : Int32} (k0 : Nat) (h0 : ws[k0]? = some (a0, .inr (2, [.ref a1, .ref a2, .int (nI n)]))) (k1 : Nat) (h1 : ws[k1]? = some (a1, .inl (gI G, 200, .inl f))) (k2 : Nat) (h2 : ws[k2]? = some (a2, .inl (gI G, 200, .inl g))) (n01 : k0 ≠ k1) (n02 : k0 ≠ k2) (n12 : k1 ≠ k2) (hn : n < 200) : JV G Y_X2_insert 0 0 0 [.ref a0, .int v, .int x] ws (((ws.set k1 (a1, .inl (gI G, 200, .inl (insF f (insP g x n) n v)))).set k2 (a2, .inl (gI G, 200, .inl (insF g (insP g x n) n x)))).set k0 (a0, .inr (2, [.ref a1, .ref a2, .int (nI (n + 1))]))) := by
  refine JM.of [(0, .ref a0), (1, .int v), (2, .int x)] rfl rfl (by simp) (Nat.le_of_ble_eq_true rfl) (by decide +kernel) ?_
  refine j_aload_n (n := 1) dX2_insert_0 rfl rfl ?_
  refine j_get (n := 4) _ dX2_insert_1 f_X2_18 rfl h0 rfl ?_
  refine j_sipush (n := 7) (200) dX2_insert_4 rfl (by decide) ?_
  refine j_icmp_lt (n := 10) 11 dX2_insert_7 (by decide) rfl (fun c => ?_) (fun c => ?_)
  · refine j_aload_n (n := 12) dX2_insert_11 rfl rfl ?_
    refine j_get (n := 15) _ dX2_insert_12 f_X2_18 rfl h0 rfl ?_
    refine j_istore_n (n := 16) dX2_insert_15 rfl (by decide) ?_
    refine j_ws (ws' := (ws.set k1 (a1, .inl (gI G, 200, .inl (shF f n n)))).set k2 (a2, .inl (gI G, 200, .inl (shF g n n)))) (by rw [shF_n, shF_n, set_self h1, set_self h2]) ?_
    exact ins_loop h0 h1 h2 n01 n02 n12 hn n (Nat.le_refl _) rfl
  · exact absurd (nI_lt (b := 200) hn (by omega)) c
theorem c_nearTell {a0 a1 a2 n : Nat} {f g : Nat → Int32} {i w : Int32} (k0 : Nat) (h0 : ws[k0]? = some (a0, .inr (2, [.ref a1, .ref a2, .int (nI n)]))) (k1 : Nat) (h1 : ws[k1]? = some (a1, .inl (gI G, 200, .inl f))) (k2 : Nat) (h2 : ws[k2]? = some (a2, .inl (gI G, 200, .inl g))) (hn : n ≤ 200) : JE G Y_X2_tell 0 0 0 [.ref a0, .int i, .int w] ws (tl2 n f g i w) ws := by
  refine JM.of [(0, .ref a0), (1, .int i), (2, .int w)] rfl rfl (by simp) (Nat.le_of_ble_eq_true rfl) (by decide +kernel) ?_
  refine j_iload_n (n := 1) dX2_tell_0 rfl rfl ?_
  refine j_if_lt (n := 4) 12 dX2_tell_1 (by decide) rfl (fun c => ?_) (fun c => ?_)
  · refine j_iconst (n := 13) (-1) dX2_tell_12 rfl (by decide) ?_
    exact j_iret dX2_tell_13 rfl rfl (by omega) (by omega) (⟨by simp [tl2, c], rfl⟩)
  · refine j_iload_n (n := 5) dX2_tell_4 rfl rfl ?_
    refine j_aload_n (n := 6) dX2_tell_5 rfl rfl ?_
    refine j_get (n := 9) _ dX2_tell_6 f_X2_18 rfl h0 rfl ?_
    refine j_icmp_lt (n := 12) 14 dX2_tell_9 (by decide) rfl (fun c2 => ?_) (fun c2 => ?_)
    · rcases ix3 i (show n < 2147483648 by omega) with h | h | ⟨j, hj, rfl⟩
      · exact absurd h c
      · exact absurd c2 (Int32.not_lt.mpr h)
      · have hc : (nI j).toNatClampNeg = j := nI_clamp (by omega)
        have hx : ¬ (nI j < 0 ∨ nI n ≤ nI j) := fun q => q.elim c (fun q => Int32.not_lt.mpr q c2)
        refine j_iload_n (n := 15) dX2_tell_14 rfl rfl ?_
        by_cases e0 : w = 0
        · subst e0
          refine j_lookup (off := 25) 40 dX2_tell_15 (by decide) (by decide) (by decide) ?_
          refine j_aload_n (n := 41) dX2_tell_40 rfl rfl ?_
          refine j_get (n := 44) _ dX2_tell_41 f_X2_9 rfl h0 rfl ?_
          refine j_iload_n (n := 45) dX2_tell_44 rfl rfl ?_
          refine j_iald (n := 46) _ j dX2_tell_45 rfl h1 rfl (by omega) (by omega) ?_
          exact j_iret dX2_tell_46 rfl rfl (by omega) (by omega) (⟨by simp [tl2, hx, hc], rfl⟩)
        · by_cases e1 : w = 1
          · subst e1
            refine j_lookup (off := 32) 47 dX2_tell_15 (by decide) (by decide) (by decide) ?_
            refine j_aload_n (n := 48) dX2_tell_47 rfl rfl ?_
            refine j_get (n := 51) _ dX2_tell_48 f_X2_15 rfl h0 rfl ?_
            refine j_iload_n (n := 52) dX2_tell_51 rfl rfl ?_
            refine j_iald (n := 53) _ j dX2_tell_52 rfl h2 rfl (by omega) (by omega) ?_
            exact j_iret dX2_tell_53 rfl rfl (by omega) (by omega) (⟨by simp [tl2, hx, hc], rfl⟩)
          · refine j_lookup (off := 39) 54 dX2_tell_15 (by decide) ((lv_osw e0 rfl).trans ((lv_osw e1 rfl).trans rfl)) (by decide) ?_
            refine j_iconst (n := 55) (-1) dX2_tell_54 rfl (by decide) ?_
            exact j_iret dX2_tell_55 rfl rfl (by omega) (by omega) (⟨by simp [tl2, e0, e1], rfl⟩)
    · refine j_iconst (n := 13) (-1) dX2_tell_12 rfl (by decide) ?_
      exact j_iret dX2_tell_13 rfl rfl (by omega) (by omega) (⟨by simp [tl2, Int32.not_lt.mp c2], rfl⟩)
theorem c_wayAdd {a0 a1 a2 a3 n : Nat} {f g h : Nat → Int32} {x y z : Int32} (k0 : Nat) (h0 : ws[k0]? = some (a0, .inr (9, [.ref a1, .ref a2, .ref a3, .int (nI n)]))) (k1 : Nat) (h1 : ws[k1]? = some (a1, .inl (gI G, 40, .inl f))) (k2 : Nat) (h2 : ws[k2]? = some (a2, .inl (gI G, 40, .inl g))) (k3 : Nat) (h3 : ws[k3]? = some (a3, .inl (gI G, 40, .inl h))) (n01 : k0 ≠ k1) (n02 : k0 ≠ k2) (n03 : k0 ≠ k3) (n12 : k1 ≠ k2) (n13 : k1 ≠ k3) (n23 : k2 ≠ k3) (hn : n < 40) : JV G Y_X9_add 0 0 0 [.ref a0, .int x, .int y, .int z] ws ((((ws.set k1 (a1, .inl (gI G, 40, .inl (upd f n x)))).set k2 (a2, .inl (gI G, 40, .inl (upd g n y)))).set k3 (a3, .inl (gI G, 40, .inl (upd h n z)))).set k0 (a0, .inr (9, [.ref a1, .ref a2, .ref a3, .int (nI (n + 1))]))) := by
  refine JM.of [(0, .ref a0), (1, .int x), (2, .int y), (3, .int z)] rfl rfl (by simp) (Nat.le_of_ble_eq_true rfl) (by decide +kernel) ?_
  refine j_aload_n (n := 1) dX9_add_0 rfl rfl ?_
  refine j_get (n := 4) _ dX9_add_1 f_X9_21 rfl h0 rfl ?_
  refine j_bipush (n := 6) (40) dX9_add_4 rfl (by decide) ?_
  refine j_icmp_lt (n := 9) 10 dX9_add_6 (by decide) rfl (fun c => ?_) (fun c => ?_)
  · refine j_aload_n (n := 11) dX9_add_10 rfl rfl ?_
    refine j_get (n := 14) _ dX9_add_11 f_X9_9 rfl h0 rfl ?_
    refine j_aload_n (n := 15) dX9_add_14 rfl rfl ?_
    refine j_get (n := 18) _ dX9_add_15 f_X9_21 rfl h0 rfl ?_
    refine j_iload_n (n := 19) dX9_add_18 rfl rfl ?_
    refine j_iast (n := 20) _ n dX9_add_19 rfl h1 rfl (by omega) (by omega) ?_
    refine j_aload_n (n := 21) dX9_add_20 rfl rfl ?_
    refine j_get (n := 24) _ dX9_add_21 f_X9_15 rfl (gs_ne (by omega) h0) rfl ?_
    refine j_aload_n (n := 25) dX9_add_24 rfl rfl ?_
    refine j_get (n := 28) _ dX9_add_25 f_X9_21 rfl (gs_ne (by omega) h0) rfl ?_
    refine j_iload_n (n := 29) dX9_add_28 rfl rfl ?_
    refine j_iast (n := 30) _ n dX9_add_29 rfl (gs_ne (by omega) h2) rfl (by omega) (by omega) ?_
    refine j_aload_n (n := 31) dX9_add_30 rfl rfl ?_
    refine j_get (n := 34) _ dX9_add_31 f_X9_18 rfl (gs_ne (by omega) (gs_ne (by omega) h0)) rfl ?_
    refine j_aload_n (n := 35) dX9_add_34 rfl rfl ?_
    refine j_get (n := 38) _ dX9_add_35 f_X9_21 rfl (gs_ne (by omega) (gs_ne (by omega) h0)) rfl ?_
    refine j_iload_n (n := 39) dX9_add_38 rfl rfl ?_
    refine j_iast (n := 40) _ n dX9_add_39 rfl (gs_ne (by omega) (gs_ne (by omega) h3)) rfl (by omega) (by omega) ?_
    refine j_aload_n (n := 41) dX9_add_40 rfl rfl ?_
    refine j_dup (n := 42) dX9_add_41 rfl rfl ?_
    refine j_get (n := 45) _ dX9_add_42 f_X9_21 rfl (gs_ne (by omega) (gs_ne (by omega) (gs_ne (by omega) h0))) rfl ?_
    refine j_iconst (n := 46) (1) dX9_add_45 rfl (by decide) ?_
    refine j_iadd (n := 47) dX9_add_46 rfl ?_
    refine j_top (nI (n + 1)) (nI_1 n) ?_
    refine j_put (n := 50) _ dX9_add_47 f_X9_21 rfl rfl (gs_ne (by omega) (gs_ne (by omega) (gs_ne (by omega) h0))) (Nat.le_of_ble_eq_true rfl) rfl rfl ?_
    exact j_vret dX9_add_50 rfl (by omega) (by omega) (rfl)
  · exact absurd (nI_lt (b := 40) hn (by omega)) c
theorem c_wayTell {a0 a1 a2 a3 n : Nat} {f g h : Nat → Int32} {i w : Int32} (k0 : Nat) (h0 : ws[k0]? = some (a0, .inr (9, [.ref a1, .ref a2, .ref a3, .int (nI n)]))) (k1 : Nat) (h1 : ws[k1]? = some (a1, .inl (gI G, 40, .inl f))) (k2 : Nat) (h2 : ws[k2]? = some (a2, .inl (gI G, 40, .inl g))) (k3 : Nat) (h3 : ws[k3]? = some (a3, .inl (gI G, 40, .inl h))) (hn : n ≤ 40) : JE G Y_X9_tell 0 0 0 [.ref a0, .int i, .int w] ws (tl3 n f g h i w) ws := by
  refine JM.of [(0, .ref a0), (1, .int i), (2, .int w)] rfl rfl (by simp) (Nat.le_of_ble_eq_true rfl) (by decide +kernel) ?_
  refine j_iload_n (n := 1) dX9_tell_0 rfl rfl ?_
  refine j_if_lt (n := 4) 12 dX9_tell_1 (by decide) rfl (fun c => ?_) (fun c => ?_)
  · refine j_iconst (n := 13) (-1) dX9_tell_12 rfl (by decide) ?_
    exact j_iret dX9_tell_13 rfl rfl (by omega) (by omega) (⟨by simp [tl3, c], rfl⟩)
  · refine j_iload_n (n := 5) dX9_tell_4 rfl rfl ?_
    refine j_aload_n (n := 6) dX9_tell_5 rfl rfl ?_
    refine j_get (n := 9) _ dX9_tell_6 f_X9_21 rfl h0 rfl ?_
    refine j_icmp_lt (n := 12) 14 dX9_tell_9 (by decide) rfl (fun c2 => ?_) (fun c2 => ?_)
    · rcases ix3 i (show n < 2147483648 by omega) with h | h | ⟨j, hj, rfl⟩
      · exact absurd h c
      · exact absurd c2 (Int32.not_lt.mpr h)
      · have hc : (nI j).toNatClampNeg = j := nI_clamp (by omega)
        have hx : ¬ (nI j < 0 ∨ nI n ≤ nI j) := fun q => q.elim c (fun q => Int32.not_lt.mpr q c2)
        refine j_iload_n (n := 15) dX9_tell_14 rfl rfl ?_
        by_cases e0 : w = 0
        · subst e0
          refine j_tableIn 40 dX9_tell_15 (by decide) (by decide) (off := 25) (by decide) (by decide) ?_
          refine j_aload_n (n := 41) dX9_tell_40 rfl rfl ?_
          refine j_get (n := 44) _ dX9_tell_41 f_X9_9 rfl h0 rfl ?_
          refine j_iload_n (n := 45) dX9_tell_44 rfl rfl ?_
          refine j_iald (n := 46) _ j dX9_tell_45 rfl h1 rfl (by omega) (by omega) ?_
          exact j_iret dX9_tell_46 rfl rfl (by omega) (by omega) (⟨by simp [tl3, hx, hc], rfl⟩)
        · by_cases e1 : w = 1
          · subst e1
            refine j_tableIn 47 dX9_tell_15 (by decide) (by decide) (off := 32) (by decide) (by decide) ?_
            refine j_aload_n (n := 48) dX9_tell_47 rfl rfl ?_
            refine j_get (n := 51) _ dX9_tell_48 f_X9_15 rfl h0 rfl ?_
            refine j_iload_n (n := 52) dX9_tell_51 rfl rfl ?_
            refine j_iald (n := 53) _ j dX9_tell_52 rfl h2 rfl (by omega) (by omega) ?_
            exact j_iret dX9_tell_53 rfl rfl (by omega) (by omega) (⟨by simp [tl3, hx, hc], rfl⟩)
          · by_cases e2 : w = 2
            · subst e2
              refine j_tableIn 54 dX9_tell_15 (by decide) (by decide) (off := 39) (by decide) (by decide) ?_
              refine j_aload_n (n := 55) dX9_tell_54 rfl rfl ?_
              refine j_get (n := 58) _ dX9_tell_55 f_X9_18 rfl h0 rfl ?_
              refine j_iload_n (n := 59) dX9_tell_58 rfl rfl ?_
              refine j_iald (n := 60) _ j dX9_tell_59 rfl h3 rfl (by omega) (by omega) ?_
              exact j_iret dX9_tell_60 rfl rfl (by omega) (by omega) (⟨by simp [tl3, hx, hc], rfl⟩)
            · refine j_tableOut 61 dX9_tell_15 (sw3 e0 e1 e2) (by decide) ?_
              refine j_iconst (n := 62) (-1) dX9_tell_61 rfl (by decide) ?_
              exact j_iret dX9_tell_62 rfl rfl (by omega) (by omega) (⟨by simp [tl3, e0, e1, e2], rfl⟩)
    · refine j_iconst (n := 13) (-1) dX9_tell_12 rfl (by decide) ?_
      exact j_iret dX9_tell_13 rfl rfl (by omega) (by omega) (⟨by simp [tl3, Int32.not_lt.mp c2], rfl⟩)
end LI

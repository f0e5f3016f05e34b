/-! enter, entry, about, chain, count -/
section EN
variable {G : GT} {Q N : Nat → Nat} {Z : Nat → Int32} {F : Nat → Nat → Int32} {nm : Option Nat} {Ef : Nat → Option Nat} {T : List TR} {E : List ER} {tail P : va_W} {er eo es : Nat → Int32} {el : Nat → Nat} {et : Nat → Nat → Int32} {rf rw : Nat → Nat} {rs : Nat → Int32} {ns : Option (Nat × (Nat → Int32))}
def entA (en : Nat) (v : Int32) : Int32 := if v < 0 then v else if 1 < v then -10 - v else if en < 200 then nI en else -3
def entB (en : Nat) (v : Int32) : Bool := decide (¬ v < 0) && decide (¬ 1 < v) && decide (en < 200)
theorem entB_f {en : Nat} {v : Int32} (h : v < 0 ∨ 1 < v ∨ ¬ en < 200) : entB en v = false := by
  unfold entB
  rcases h with h | h | h
  · rw [decide_eq_false (fun q => q h)]; rfl
  · rw [decide_eq_false (p := ¬ 1 < v) (fun q => q h), Bool.and_false]; rfl
  · rw [decide_eq_false h, Bool.and_false]
theorem ENT.snoc {x : ER} {q ow : Int32} {l : Nat} {t : Nat → Int32} {en : Nat} {i : Nat} {r : TR} (h : ENT E T en er eo es el et) (hn : en < 200) (hr : T[i]? = some r) (h1 : x.2.1 = q) (h2 : x.2.2.1 = ow) (h3 : r.1 0 = x.2.2.2.1) (h4 : x.2.2.2.2.1 = i) (h5 : x.2.2.2.2.2 = 1) (h6 : tLen r = l) (h7 : tT r = t) : ENT (E ++ [x]) T (en + 1) (va_up er en q) (va_up eo en ow) (va_up es en 1) (va_up el en l) (va_up et en t) := by
  refine ⟨by simp [h.1], by omega, fun e he => ?_⟩
  by_cases ee : e = en
  · subst ee
    refine ⟨x, r, by rw [← h.1]; simp, by rw [h4]; exact hr, h3, ?_⟩
    simp only [va_up_self]
    exact ⟨h1, h2, h5, h6, h7, by simp⟩
  · obtain ⟨y, r', g1, g2, g3, g4, g5, g6, g7, g8, g9⟩ := h.2.2 e (by omega)
    refine ⟨y, r', gs_app g1, g2, g3, ?_⟩
    simp only [va_up_ne _ _ ee]
    exact ⟨g4, g5, g6, g7, g8, g9⟩
theorem EFI.snoc {x : ER} {en : Nat} (h : EFI E Ef) (hl : E.length = en) : EFI (E ++ [x]) (va_up Ef en (some x.1)) := by
  intro e y hy
  by_cases ee : e = en
  · subst ee
    rw [va_up_self]
    have : x = y := by rw [← hl] at hy; simpa using hy
    rw [this]
  · rw [va_up_ne _ _ ee]
    have hlt := gs_lt hy
    rw [List.length_append, hl] at hlt
    have : e < E.length := by rw [hl]; simp at hlt; omega
    rw [List.getElem?_append_left this] at hy
    exact h e y hy
theorem c_enter {q ow : Int32} (hP : PInv N Z F) (hX : XInv N F T) (hE : ENT E T (N 7) er eo es el et) (hf : EFI E Ef) (hN : NMI nm T ns) (hG : RGI Z rf rw rs) (h6 : N 6 ≤ 8) : JM G Y_X10_enter 7 (mc0 N Z F + 1) (ms0 N Z F + 4) [.ref (Q 8), .int q, .int ow] (cW G Q N Z F nm Ef (poolE G T E tail)) (Qi (fun r w => r = entA (N 7) (vdS (cCT N F) (F 11) (F 12) (N 6) (F 14) (N 7) er eo es el et rf rw rs ns q ow) ∧ ∃ (Q' N' : Nat → Nat) (Z' : Nat → Int32) (F' : Nat → Nat → Int32) (T' : List TR), RUN Q N Z F T Q' N' Z' F' T' ∧ ((entB (N 7) (vdS (cCT N F) (F 11) (F 12) (N 6) (F 14) (N 7) er eo es el et rf rw rs ns q ow) = false ∧ w = cW G Q' N' Z' F' nm Ef (poolE G T' E tail)) ∨ (entB (N 7) (vdS (cCT N F) (F 11) (F 12) (N 6) (F 14) (N 7) er eo es el et rf rw rs ns q ow) = true ∧ ∃ (x : ER) (l : Nat) (t : Nat → Int32), ns = some (l, t) ∧ w = cW G Q' (va_up N' 7 (N 7 + 1)) Z' F' nm (va_up Ef (N 7) (some x.1)) (poolE G T' (E ++ [x]) tail) ∧ ENT (E ++ [x]) T' (N 7 + 1) (va_up er (N 7) q) (va_up eo (N 7) ow) (va_up es (N 7) 1) (va_up el (N 7) l) (va_up et (N 7) t) ∧ EFI (E ++ [x]) (va_up Ef (N 7) (some x.1)))))) := by
  have h7 := hE.2.1
  refine JM.of [(0, .ref (Q 8)), (1, .int q), (2, .int ow)] rfl rfl (by simp) (Nat.le_of_ble_eq_true rfl) (by decide +kernel) ?_
  refine j_aload_n (n := 1) dX10_enter_0 rfl rfl ?_
  refine j_iload_n (n := 2) dX10_enter_1 rfl rfl ?_
  refine j_iload_n (n := 3) dX10_enter_2 rfl rfl ?_
  refine j_callVi (n := 6) (Y1 := Y_X10_verdict) 8 dX10_enter_3 m_X10_206 cy_X10_verdict ci_X10_verdict (c_verdict hP hX hE hf hN hG h6) rfl rfl rfl rfl rfl (by omega) (by omega) (by omega) (Nat.le_of_ble_eq_true rfl) (fun z w h => ?_)
  obtain ⟨hz, Q', N', Z', F', T', rfl, hR⟩ := h
  obtain ⟨-, -, -, -, e7, -⟩ := hR.1.cct
  have e8 := hR.1.2.1 8 (by omega)
  have hns : ¬ z < 0 → ∃ n, ns = some n := by
    intro h
    cases hn : ns with
    | some n => exact ⟨n, rfl⟩
    | none =>
      rw [hz, hn] at h
      unfold vdS at h
      split at h
      · exact absurd (show (-2 : Int32) < 0 by decide) h
      · exact absurd (show (-1 : Int32) < 0 by decide) h
  rw [← hz]
  clear hz
  rw [← e8]
  refine j_istore_n (n := 7) dX10_enter_6 rfl (by decide) ?_
  refine j_iload_n (n := 8) dX10_enter_7 rfl rfl ?_
  refine j_if_ge (n := 11) 13 dX10_enter_8 (by decide) rfl (fun c => ?_) (fun c => ?_)
  · refine j_iload_n (n := 14) dX10_enter_13 rfl rfl ?_
    refine j_iconst (n := 15) (1) dX10_enter_14 rfl (by decide) ?_
    refine j_icmp_le (n := 18) 23 dX10_enter_15 (by decide) rfl (fun c1 => ?_) (fun c1 => ?_)
    · refine j_aload_n (n := 24) dX10_enter_23 rfl rfl ?_
      refine j_get (n := 27) 8 dX10_enter_24 f_X10_61 rfl rfl rfl ?_
      refine j_sipush (n := 30) (200) dX10_enter_27 rfl (by decide) ?_
      rw [e7]
      refine j_icmp_lt (n := 33) 36 dX10_enter_30 (by decide) rfl (fun c2 => ?_) (fun c2 => ?_)
      · have hb : N 7 < 200 := Decidable.byContradiction (fun q => absurd (show nI (N 7) < nI 200 from c2) (nI_nlt (by omega) (by omega)))
        have hen : entB (N 7) z = true := by
          unfold entB
          rw [decide_eq_true (p := ¬ z < 0) (Int32.not_lt.mpr c), decide_eq_true (p := ¬ 1 < z) (Int32.not_lt.mpr c1), decide_eq_true hb]; rfl
        have hea : entA (N 7) z = nI (N 7) := by
          unfold entA
          rw [if_neg (Int32.not_lt.mpr c), if_neg (Int32.not_lt.mpr c1), if_pos hb]
        obtain ⟨nn, hnn⟩ := hns (Int32.not_lt.mpr c)
        have hN' := hN.eqt hR.2.1
        rcases hN' with ⟨rfl, h0⟩ | ⟨ix, r, hr, rfl, h0⟩
        · rw [hnn] at h0; cases h0
        · refine j_aload_n (n := 37) dX10_enter_36 rfl rfl ?_
          refine j_get (n := 40) 8 dX10_enter_37 f_X10_57 rfl rfl rfl ?_
          refine j_aload_n (n := 41) dX10_enter_40 rfl rfl ?_
          refine j_get (n := 44) 8 dX10_enter_41 f_X10_61 rfl rfl rfl ?_
          refine j_new (n := 47) 0 4 dX10_enter_44 n_X10_55 rfl rfl (by omega) (by omega) (fs := [.int 0, .int 0, .null, .int 0]) rfl (fun a0 => ?_)
          refine j_perm _ (List.perm_append_singleton _ _) ?_
          refine j_dup (n := 48) dX10_enter_47 rfl rfl ?_
          refine j_iload_n (n := 49) dX10_enter_48 rfl rfl ?_
          refine j_iload_n (n := 50) dX10_enter_49 rfl rfl ?_
          refine j_aload_n (n := 51) dX10_enter_50 rfl rfl ?_
          refine j_get (n := 54) 9 dX10_enter_51 f_X10_38 rfl rfl rfl ?_
          refine j_callIv (n := 57) (Y1 := Y_X0_init) dX10_enter_54 m_X10_242 cy_X0_init ci_X0_init rfl rfl (c_Entry) rfl rfl rfl (by omega) (by omega) (by omega) (Nat.le_of_ble_eq_true rfl) (fun w h => ?_)
          subst h
          obtain ⟨x, hx⟩ : ∃ x : ER, x = (a0, q, ow, r.1 0, ix, 1) := ⟨_, rfl⟩
          have x0 : x.1 = a0 := by rw [hx]
          refine j_perm (cW G Q' N' Z' F' (some (r.1 0)) Ef (poolE G T' (E ++ [x]) tail)) (by rw [hx]; exact cw_ent (x := (a0, q, ow, r.1 0, ix, 1))) ?_
          have hxe : (E ++ [x])[N' 7]? = some x := by rw [e7, ← hE.1]; simp
          have hv := ep_get (G := G) (T := T') (tail := tail) hxe
          unfold eCell at hv
          rw [x0] at hv
          refine j_aastE (n := 58) 20 (N' 7) (5 * T'.length + N' 7 + 24 + 8) dX10_enter_57 rfl rfl hv rfl (by omega) (by omega) ?_
          refine j_ws (ws' := cW G Q' N' Z' F' (some (r.1 0)) (va_up Ef (N' 7) (some a0)) (poolE G T' (E ++ [x]) tail)) rfl ?_
          refine j_aload_n (n := 59) dX10_enter_58 rfl rfl ?_
          refine j_dup (n := 60) dX10_enter_59 rfl rfl ?_
          refine j_get (n := 63) 8 dX10_enter_60 f_X10_61 rfl rfl rfl ?_
          refine j_iconst (n := 64) (1) dX10_enter_63 rfl (by decide) ?_
          refine j_iadd (n := 65) dX10_enter_64 rfl ?_
          refine j_top (nI (N' 7 + 1)) (nI_inc _) ?_
          refine j_put (n := 68) 8 dX10_enter_65 f_X10_61 rfl rfl rfl (Nat.le_of_ble_eq_true rfl) rfl rfl ?_
          refine j_ws (ws' := cW G Q' (va_up N' 7 (N' 7 + 1)) Z' F' (some (r.1 0)) (va_up Ef (N' 7) (some a0)) (poolE G T' (E ++ [x]) tail)) rfl ?_
          refine j_aload_n (n := 69) dX10_enter_68 rfl rfl ?_
          refine j_get (n := 72) 8 dX10_enter_69 f_X10_61 rfl rfl rfl ?_
          refine j_iconst (n := 73) (1) dX10_enter_72 rfl (by decide) ?_
          refine j_isub (n := 74) dX10_enter_73 rfl ?_
          refine j_top (nI (N' 7)) (nI_sub1 (N' 7)) ?_
          exact j_iret dX10_enter_74 rfl rfl (by omega) (by omega) (⟨by rw [hea, e7], Q', N', Z', F', T', hR, Or.inr ⟨hen, x, tLen r, tT r, h0, by rw [e7, x0], ENT.snoc (hE.eqt hR.2.1) hb hr (by rw [hx]) (by rw [hx]) (by rw [hx]) (by rw [hx]) (by rw [hx]) rfl rfl, hf.snoc hE.1⟩⟩)
      · have hb : ¬ N 7 < 200 := fun q => c2 (show nI (N 7) < nI 200 from nI_lt q (by omega))
        refine j_bipush (n := 35) (-3) dX10_enter_33 rfl (by decide) ?_
        exact j_iret dX10_enter_35 rfl rfl (by omega) (by omega) (⟨by unfold entA; rw [if_neg (Int32.not_lt.mpr c), if_neg (Int32.not_lt.mpr c1), if_neg hb], Q', N', Z', F', T', hR, Or.inl ⟨entB_f (Or.inr (Or.inr hb)), rfl⟩⟩)
    · have c1' := Int32.not_le.mp c1
      refine j_bipush (n := 20) (-10) dX10_enter_18 rfl (by decide) ?_
      refine j_iload_n (n := 21) dX10_enter_20 rfl rfl ?_
      refine j_isub (n := 22) dX10_enter_21 rfl ?_
      exact j_iret dX10_enter_22 rfl rfl (by omega) (by omega) (⟨by unfold entA; rw [if_neg (Int32.not_lt.mpr c), if_pos c1'], Q', N', Z', F', T', hR, Or.inl ⟨entB_f (Or.inr (Or.inl c1')), rfl⟩⟩)
  · have c' := Int32.not_le.mp c
    refine j_iload_n (n := 12) dX10_enter_11 rfl rfl ?_
    exact j_iret dX10_enter_12 rfl rfl (by omega) (by omega) (⟨by unfold entA; rw [if_pos c'], Q', N', Z', F', T', hR, Or.inl ⟨entB_f (Or.inl c'), rfl⟩⟩)
end EN

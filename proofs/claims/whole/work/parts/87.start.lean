/-! the law's start: the machine's tables, the two objects -/
theorem in_all (ci : Nat) (q : vw_C) (h : vwCl[ci]? = some q) : Cond.instantiable q.1 q.2.2 ∈ lw_tbl := by
  match ci, h with
  | 0, h => cases h; decide +kernel
  | 1, h => cases h; decide +kernel
  | 2, h => cases h; decide +kernel
  | 3, h => cases h; decide +kernel
  | 4, h => cases h; decide +kernel
  | 5, h => cases h; decide +kernel
  | 6, h => cases h; decide +kernel
  | 7, h => cases h; decide +kernel
  | 8, h => cases h; decide +kernel
  | 9, h => cases h; decide +kernel
  | 10, h => cases h; decide +kernel
  | 11, h => cases h; decide +kernel
  | k + 12, h => simp [vwCl] at h
section MG
variable {s : State} {b : Nat}
theorem ar_of {ty : FieldType} (hty : ∀ cA, va_RA s cA ty = (s.vm.findClass ("[" ++ ty.toString) = some cA)) (h : (Cond.arrayClass ty).before #[Value.ref b] s = true) : ∃ cA : ClassId, ArrOfT s cA ty ∧ va_RA s cA ty := by
  obtain ⟨c, k, comp, h1, h2, h3⟩ := Cond.arrayClass_spec h
  exact ⟨c, fun n z => ⟨fun k h => (by cases h), k, h2, comp, h3⟩, by rw [hty]; exact h1⟩
theorem ar_ofO {C : String} (h : (Cond.arrayOver (.object C)).before #[Value.ref b] s = true) : ∃ cA : ClassId, ArrOfT s cA (.object C) ∧ va_RA s cA (.object C) := by
  obtain ⟨comp, c, k, h1, -, h3, h4, h5⟩ := Cond.arrayOver_spec h
  exact ⟨c, fun n z => ⟨fun k h => (by cases h), k, h3, comp, h4⟩, k, comp, h3, h4, h1, h5⟩
theorem mk_G (l : Launch) (hts : ∀ w ∈ lw_tbl, w.before #[Value.ref b] s = true) (hgv : (Jvm.Cond.and given_1 narrow_1).before #[Value.ref b] s = true) : ∃ G : GT, G.1 = l ∧ G.2.2.2.1 = s.heap.size ∧ JK G s s.heap := by
  have hbw : ∀ w ∈ BW, w.before #[Value.ref b] s = true := fun w hw => hts w (List.mem_filter.mp hw).1
  have hs := flat_of_before _ hgv
  have hA : ∀ a : Nat, a < s.heap.size → ¬ (fun q : Nat => s.heap.size ≤ q) a := fun a h1 h2 => absurd h1 (Nat.not_lt.mpr h2)
  have hcl : ∀ k : Nat, ∃ d : ClassId × (Nat → Nat), ∀ q : vw_C, vwCl[k]? = some q → u_Kn s q.1 q.2.1 q.2.2 d.1 d.2 := by
    intro k
    cases h : vwCl[k]? with
    | none => exact ⟨(0, fun _ => 0), fun q hq => by cases hq⟩
    | some q =>
      obtain ⟨c, iS, hk⟩ := u_known (C := q.1) (T := q.2.1) (N := q.2.2) (n := q.2.2) hbw (uw_all k q h) (hts _ (in_all k q h))
      exact ⟨(c, iS), fun q' hq => by cases hq; exact hk⟩
  obtain ⟨D, hD⟩ := Classical.axiomOfChoice hcl
  obtain ⟨cI, i1, i2⟩ := ar_of (ty := .int) (fun _ => rfl) (hts _ (by decide +kernel))
  obtain ⟨cB, b1, b2⟩ := ar_of (ty := .byte) (fun _ => rfl) (hts _ (by decide +kernel))
  obtain ⟨cZ, z1, z2⟩ := ar_of (ty := .boolean) (fun _ => rfl) (hts _ (by decide +kernel))
  have hR5 : (Cond.arrayOver (.object RX5)).before #[Value.ref b] s = true := hts _ (by decide +kernel)
  have hR0 : (Cond.arrayOver (.object RX0)).before #[Value.ref b] s = true := hts _ (by decide +kernel)
  obtain ⟨cR, r1, r2⟩ := ar_ofO hR5
  obtain ⟨cE, e1, e2⟩ := ar_ofO hR0
  obtain ⟨tx, hx1, hx2⟩ := va_Tof (tm := .static "NameGuard$Measure" "X_SIGNS" "[I") (ty := .int) (N := 4) (f := fXS) (A := fun q : Nat => s.heap.size ≤ q) (by omega) (hs _ (by decide +kernel)) (va_eqt (hs (Cond.eq (Term.length (.static "NameGuard$Measure" "X_SIGNS" "[I")) (.int 4)) (by decide +kernel)))
    (fun j hj => match j, hj with
      | 0, _ => va_eqt (hs (Cond.eq (Term.elem (.static "NameGuard$Measure" "X_SIGNS" "[I") (.int 0)) (.int 1)) (by decide +kernel))
      | 1, _ => va_eqt (hs (Cond.eq (Term.elem (.static "NameGuard$Measure" "X_SIGNS" "[I") (.int 1)) (.int 1)) (by decide +kernel))
      | 2, _ => va_eqt (hs (Cond.eq (Term.elem (.static "NameGuard$Measure" "X_SIGNS" "[I") (.int 2)) (.int 2)) (by decide +kernel))
      | 3, _ => va_eqt (hs (Cond.eq (Term.elem (.static "NameGuard$Measure" "X_SIGNS" "[I") (.int 3)) (.int 2)) (by decide +kernel))
      | j + 4, h => absurd h (by omega)) hA
  obtain ⟨ty, hy1, hy2⟩ := va_Tof (tm := .static "NameGuard$Measure" "Y_SIGNS" "[I") (ty := .int) (N := 4) (f := fYS) (A := fun q : Nat => s.heap.size ≤ q) (by omega) (hs _ (by decide +kernel)) (va_eqt (hs (Cond.eq (Term.length (.static "NameGuard$Measure" "Y_SIGNS" "[I")) (.int 4)) (by decide +kernel)))
    (fun j hj => match j, hj with
      | 0, _ => va_eqt (hs (Cond.eq (Term.elem (.static "NameGuard$Measure" "Y_SIGNS" "[I") (.int 0)) (.int 1)) (by decide +kernel))
      | 1, _ => va_eqt (hs (Cond.eq (Term.elem (.static "NameGuard$Measure" "Y_SIGNS" "[I") (.int 1)) (.int 2)) (by decide +kernel))
      | 2, _ => va_eqt (hs (Cond.eq (Term.elem (.static "NameGuard$Measure" "Y_SIGNS" "[I") (.int 2)) (.int 1)) (by decide +kernel))
      | 3, _ => va_eqt (hs (Cond.eq (Term.elem (.static "NameGuard$Measure" "Y_SIGNS" "[I") (.int 3)) (.int 2)) (by decide +kernel))
      | j + 4, h => absurd h (by omega)) hA
  have hini : (Cond.initialized "NameGuard$Measure").before #[Value.ref b] s = true := hts _ (by decide +kernel)
  have hzx := va_Zof (A := fun q : Nat => s.heap.size ≤ q) (hts (Cond.laysStatic "NameGuard$Measure" "X_SIGNS" "[I") (by decide +kernel)) hini hx1 hA
  have hzy := va_Zof (A := fun q : Nat => s.heap.size ≤ q) (hts (Cond.laysStatic "NameGuard$Measure" "Y_SIGNS" "[I") (by decide +kernel)) hini hy1 hA
  refine ⟨(l, (fun k => (D k).1, fun k => (D k).2), [(cI, .int), (cB, .byte), (cZ, .boolean), (cR, .object RX5), (cE, .object RX0)], s.heap.size, tx, ty), rfl, rfl, ⟨rfl, rfl, rfl, rfl, rfl⟩, ⟨fun k q hq => hD k q hq, fun k q hq => ?_⟩, fun w hw => ?_, va_AO.of hR5, va_AO.of hR0, hzx, hx2, hzy, hy2⟩
  · match k, hq with
    | 0, hq => cases hq; exact ⟨i1, i2⟩
    | 1, hq => cases hq; exact ⟨b1, b2⟩
    | 2, hq => cases hq; exact ⟨z1, z2⟩
    | 3, hq => cases hq; exact ⟨r1, r2⟩
    | 4, hq => cases hq; exact ⟨e1, e2⟩
    | k + 5, hq => simp at hq
  · obtain ⟨h1, h2⟩ := List.mem_filter.mp hw
    refine va_Nw.of (A := #[Value.ref b]) ?_ (hts w (List.mem_append_right _ h1))
    cases w <;> first | rfl | (simp [isNest] at h2)
end MG
section LS
variable {G : GT} {b L : Nat} {xs : Nat → Int32} {pc n : Nat} {lv : List (Nat × Value)} {st : List Value} {ws : va_W} {kc ks : Nat}
theorem l_new (ci N : Nat) {idx : Nat} (hd : decode code pc = .ok (.new idx, 3)) (hF : NC RL idx ci) (hn : pc + 3 = n) (hN : (vwCl[ci]?).map (fun q => q.2.2) = some N) (h1 : kc + 1 ≤ 600000) (h2 : ks + N ≤ 7302250) {fs : List Value} (hfs : dfl ci N = fs) (kk : ∀ a : Nat, LJ G b L xs n lv (.ref a :: st) (ws ++ [(a, .inr (ci, fs))]) (kc + 1) (ks + N)) : LJ G b L xs pc lv st ws kc ks := by
  subst hn
  subst hfs
  obtain ⟨⟨C0, T, M⟩, hc, w1, w2, w3⟩ := hF
  have hM : M = N := by rw [hc] at hN; exact Option.some.inj hN
  subst hM
  intro p e s m below meth c H locs ls C hS hW hlv
  have hK := C.2.2.2.2.2.2.2.1.2.1
  have hz := C.2.2.2.2.2.2.2.2.1
  have ht := C.2.2.2.2.2.2.1
  refine va_new (T := T) C.1 C.2.1 ht (uw_all ci _ hc) (tyq ci) (tyq_ok ci _ hc) C.2.2.2.2.2.1 (ht _ w1) (ht _ w2) (ht _ w3) hK hW.1 hW.2 hS (fun q h => by show G.2.2.2.1 ≤ q; rw [hz]; exact h) hc (fs := dfl ci M) (fun j hj => ?_) h1 h2 hd (fun q H1 hP hD hS1 => kk q p e s m below meth c H1 locs ls C hS1 ⟨hP, hD⟩ hlv)
  unfold vp_V dfl
  rw [List.getD_eq_getElem?_getD, List.getElem?_map, List.getElem?_range hj]
  rfl
theorem sy_0 {M : Nat → Nat} {R : Nat → Nat → Int32} (h : RI0 M R) : SY 0 iN0 iZ0 iF0 none (fun _ => none) [] [] M rZ0 R (fun _ => 0) (fun _ _ => 0) (fun _ => 4) (fun _ => 8) (fun _ => 0) none := by
  obtain ⟨hI, hM, h1, hR, h16, h17⟩ := h
  have r : ∀ i, i ≠ 1 → i ≠ 7 → i ≠ 8 → i ≠ 9 → i ≠ 16 → i ≠ 17 → R i = fun _ => 0 := hR
  refine ⟨⟨⟨⟨by show 0 ≤ 60; omega, fun k hk => absurd hk (Nat.not_lt_zero k)⟩, by show 0 ≤ 14400; omega, fun q => absurd (show (-1 : Int32) = nI 0 from q) (by decide), Or.inl rfl, by show 0 < 1000; omega, by show 0 < 1000; omega⟩, fun i r h => (by simp at h), ⟨rfl, by show 0 ≤ 200; omega, fun e he => absurd he (Nat.not_lt_zero e)⟩, fun e x h => (by simp at h), Or.inl ⟨rfl, rfl⟩, fun j hj => ?_, by show 0 ≤ 8; omega, by show 0 ≤ 200; omega, by show 0 ≤ 200; omega, by show 0 ≤ 40; omega, by show 0 < 1000000; omega, Nat.le_refl _, Nat.le_refl _⟩, ⟨hI, ⟨by rw [hM 27 (by omega)]; omega, fun e he => by rw [hM 27 (by omega)] at he; omega⟩, Or.inl ⟨rfl, rfl⟩, fun j hj => ?_⟩, ?_, h1, ?_, ?_, ?_, ?_, ?_, fun j hj => absurd hj (Nat.not_lt_zero j), rfl, rfl, ?_, ?_, ?_, ⟨?_, fun k hk => ?_⟩, ?_, fun j hj => ?_⟩
  · match j, hj with
    | 0, _ => exact ⟨rfl, rfl, rfl, by show 4 ≤ 8; omega, by show 8 ≤ 200; omega, Or.inl rfl⟩
    | 1, _ => exact ⟨rfl, rfl, rfl, by show 4 ≤ 8; omega, by show 8 ≤ 200; omega, Or.inl rfl⟩
    | 2, _ => exact ⟨rfl, rfl, rfl, by show 4 ≤ 8; omega, by show 8 ≤ 200; omega, Or.inl rfl⟩
    | 3, _ => exact ⟨rfl, rfl, rfl, by show 4 ≤ 8; omega, by show 8 ≤ 200; omega, Or.inl rfl⟩
    | j + 4, h => omega
  · rw [h16, h17, r 18 (by omega) (by omega) (by omega) (by omega) (by omega) (by omega)]
    unfold rgV
    rw [if_pos hj, if_pos hj]
    exact ⟨rfl, rfl, rfl, Or.inl rfl⟩
  · show (M 4, R 4, R 5, R 6) = _
    rw [hM 4 (by omega), r 4 (by omega) (by omega) (by omega) (by omega) (by omega) (by omega), r 5 (by omega) (by omega) (by omega) (by omega) (by omega) (by omega), r 6 (by omega) (by omega) (by omega) (by omega) (by omega) (by omega)]; rfl
  · rw [r 2 (by omega) (by omega) (by omega) (by omega) (by omega) (by omega)]; rfl
  · rw [r 10 (by omega) (by omega) (by omega) (by omega) (by omega) (by omega)]; rfl
  · rw [hM 12 (by omega)]; rfl
  · rw [hM 27 (by omega)]; rfl
  · rw [hM 3 (by omega)]; rfl
  · rw [hM 33 (by omega)]; rfl
  · rw [r 22 (by omega) (by omega) (by omega) (by omega) (by omega) (by omega)]; rfl
  · rw [r 23 (by omega) (by omega) (by omega) (by omega) (by omega) (by omega)]; rfl
  · show 0 = M 37
    rw [hM 37 (by omega)]
  · have hk : k < M 37 := hk
    rw [hM 37 (by omega)] at hk; omega
  · rw [hM 41 (by omega)]; rfl
  · rw [hM 41 (by omega)] at hj; omega
theorem law_start (hL : L ≤ 3072) : LJ G b L xs 0 [(0, .ref b)] [] [] 0 0 := by
  refine l_new (n := 3) 10 15 dL_law_0 n_L_7 rfl rfl (by omega) (by omega) (fs := [.null, .int 0, .null, .null, .null, .null, .int 0, .int 0, .null, .null, .int 0, .null, .null, .null, .null]) rfl (fun q8 => ?_)
  refine l_dup (n := 4) dL_law_3 rfl rfl ?_
  refine l_callIv (n := 7) (Y1 := Y_X10_init) dL_law_4 m_L_9 cy_X10_init ci_X10_init rfl rfl (c_NameGuard (pre := []) (a8 := q8)) rfl rfl rfl (by omega) (by omega) (by omega) (Nat.le_of_ble_eq_true rfl) (fun w h => ?_)
  obtain ⟨Q, hQ, rfl⟩ := h
  refine l_astore_n (n := 8) dL_law_7 rfl (by decide) ?_
  refine l_new (n := 11) 11 42 dL_law_8 n_L_10 rfl rfl (by omega) (by omega) (fs := [.null, .null, .null, .int 0, .int 0, .null, .null, .null, .int 0, .null, .null, .null, .int 0, .null, .null, .null, .int 0, .int 0, .int 0, .null, .null, .null, .int 0, .int 0, .null, .null, .null, .int 0, .null, .null, .null, .null, .null, .int 0, .null, .null, .null, .int 0, .null, .null, .null, .int 0]) rfl (fun a0 => ?_)
  refine l_perm _ (List.perm_append_singleton _ _) ?_
  refine l_dup (n := 12) dL_law_11 rfl rfl ?_
  refine l_callIv (n := 15) (Y1 := Y_X11_init) dL_law_12 m_L_12 cy_X11_init ci_X11_init rfl rfl (r_init (a0 := a0)) rfl rfl rfl (by omega) (by omega) (by omega) (Nat.le_of_ble_eq_true rfl) (fun w h => ?_)
  obtain ⟨A, M, R, hA, rfl, hI⟩ := h
  refine l_perm _ (cw_perm Q iN0 iZ0 iF0 none (fun _ => none) [] [] (rL G A M rZ0 R)).symm ?_
  refine l_astore_n (n := 16) dL_law_15 rfl (by decide) ?_
  refine l_iconst (n := 17) (0) dL_law_16 rfl (by decide) ?_
  refine l_top (nI (6 * 0)) rfl ?_
  refine l_istore_n (n := 18) dL_law_17 rfl (by decide) ?_
  exact law_loop hL L 0 0 _ _ _ (by omega) (by omega) ⟨Q, iN0, iZ0, iF0, none, fun _ => none, [], [], A, M, rZ0, R, _, _, _, _, _, _, hQ, hA, Nat.le_refl _, rfl, sy_0 hI⟩ ⟨Nat.le_refl _, by omega, Or.inl ⟨by omega, by omega⟩⟩
end LS
/-- THE LAW, from its entry -/
theorem whole_start {p : Program} {e : Env} {s : State} {m : MethodId} {below : List Frame} {meth : Method} {c : Code} (l : Launch) (hflags : l.flags = flags0) {b L : Nat} {xs : Nat → Int32} (hL : L ≤ 3072) (C0 : lw_At p s m meth c b L xs) : W p l e room_1 s m #[Value.ref b] below meth c s.heap [] 0 0 (lw_Z below #[Value.ref b] s) (entryFrame m ([Value.ref b] : List Value).toArray 4) := by
  obtain ⟨hx, hb, hr, hml, hown, hts, hX, hbl, hlocks, hgv⟩ := C0
  obtain ⟨G, rfl, hbase, hG⟩ := mk_G l hts hgv
  have C : LC G p s m meth c b L xs := ⟨hx, hb, hml, hr, hlocks, hown, fun w hw => hts w (List.mem_filter.mp hw).1, hG, hbase, hX, hbl⟩
  have hl := lv_entry ([.ref b]) (n := 4) (Nat.le_of_ble_eq_true rfl)
  rw [lg_entry_eq]
  generalize (lg_sl ([.ref b]) ++ List.replicate (4 - (lg_sl ([.ref b])).length) Slot.unset).toArray = ls at hl ⊢
  have hl : lv_has ls 4 [(0, .ref b)] := hl
  exact law_start hL p e s m below meth c s.heap [] ls C va_S.rf ⟨fun k q h => by simp at h, fun i j p q h => by simp at h, fun k q h => by simp at h⟩ ⟨hl, fun q hq => by cases List.mem_singleton.mp hq; rfl, List.pairwise_singleton _ _⟩

/-! worlds in another order; the tape: judgeTape, name, putBytes, feed; rule -/
theorem jw_perm {G : GT} {ws ws' : va_W} {H : Heap} (hp : ws.Perm ws') (h : JW G ws H) : JW G ws' H := by
  have hm : ∀ (k : Nat) (q : Nat × va_E), ws'[k]? = some q → ∃ i, ws[i]? = some q := fun k q hq => by
    have h1 : q ∈ ws' := List.mem_of_getElem? hq
    exact List.getElem?_of_mem (hp.mem_iff.mpr h1)
  have hw : ws.Pairwise (fun p q => p.1 ≠ q.1) := by
    rw [List.pairwise_iff_getElem]
    intro i j hi hj hij e
    have := h.2.1 i j _ _ (List.getElem?_eq_getElem hi) (List.getElem?_eq_getElem hj) e
    omega
  have hw' : ws'.Pairwise (fun p q => p.1 ≠ q.1) := (hp.pairwise_iff (fun h => Ne.symm h)).mp hw
  rw [List.pairwise_iff_getElem] at hw'
  refine ⟨fun k q hq => ?_, fun i j p q hp' hq e => ?_, fun k q hq => ?_⟩
  · obtain ⟨i, hi⟩ := hm k q hq
    exact h.1 i q hi
  · have hi := gs_lt hp'
    have hj := gs_lt hq
    have e1 : ws'[i] = p := Option.some.inj ((List.getElem?_eq_getElem hi).symm.trans hp')
    have e2 : ws'[j] = q := Option.some.inj ((List.getElem?_eq_getElem hj).symm.trans hq)
    rcases Nat.lt_trichotomy i j with h1 | h1 | h1
    · exact absurd (by rw [e1, e2]; exact e) (hw' i j hi hj h1)
    · exact h1
    · exact absurd (by rw [e1, e2]; exact e.symm) (hw' j i hj hi h1)
  · obtain ⟨i, hi⟩ := hm k q hq
    exact h.2.2 i q hi
theorem j_perm {G : GT} {Y : YT} {d mc ms : Nat} {post : OT} {pc : Nat} {lv : List (Nat × Value)} {st : List Value} {ws : va_W} (ws' : va_W) {kc ks : Nat} (hp : ws.Perm ws') (kk : JJ G Y d mc ms post pc lv st ws' kc ks) : JJ G Y d mc ms post pc lv st ws kc ks :=
  j_world (fun _ _ h => jw_perm hp h) kk
theorem pm1 {α : Type} (A B l : List α) : ((A ++ B) ++ l).Perm (A ++ (l ++ B)) := by
  rw [List.append_assoc]; exact List.Perm.append_left A List.perm_append_comm
theorem pm2 {α : Type} (x : α) (A B l : List α) : (x :: (A ++ B) ++ l).Perm (A ++ ((x :: l) ++ B)) :=
  (List.perm_middle (a := x) (l₁ := A ++ B) (l₂ := l)).symm.trans (pm1 A B (x :: l))
/-- what is wrong with the tape: kind and place -/
def jdL (hw tp : Nat → Int32) : Nat → Nat → Nat → Int32 × Int32
  | 0, i, c => if c = 0 then (3, nI i) else if 24 < c then (4, nI i) else (0, -1)
  | n + 1, i, c => if sgB (tp i) = false then (1, nI i) else if 40 ≤ i then (2, nI i) else jdL hw tp n (i + 1) (if howF hw (tp i) = 0 then c + 1 else c)
theorem jd_ok {hw tp : Nat → Int32} : ∀ (n i c : Nat), c ≤ i → i ≤ 40 → (jdL hw tp n i c).1 = 0 → (∀ k, i ≤ k → k < i + n → sgB (tp k) = true) ∧ 1 ≤ i + n ∧ i + n ≤ 40 := by
  intro n
  induction n with
  | zero =>
    intro i c hc hi h
    unfold jdL at h
    split at h
    · cases h
    · exact ⟨fun k h1 h2 => absurd h1 (by omega), by omega, by omega⟩
  | succ n ih =>
    intro i c hc hi h
    unfold jdL at h
    split at h
    · cases h
    · rename_i h1
      split at h
      · cases h
      · obtain ⟨g1, g2, g3⟩ := ih (i + 1) _ (by split <;> omega) (by omega) h
        refine ⟨fun k h2 h3 => ?_, by omega, by omega⟩
        by_cases e : k = i
        · subst e; simpa using h1
        · exact g1 k (by omega) (by omega)
section TA
variable {G : GT} {Q N : Nat → Nat} {Z : Nat → Int32} {F : Nat → Nat → Int32} {nm : Option Nat} {Ef : Nat → Option Nat} {T : List TR} {E : List ER} {tail P : va_W}
theorem c_setFault {a b : Int32} : JV G Y_X10_setFault 0 0 0 [.ref (Q 8), .int a, .int b] (cW G Q N Z F nm Ef P) (cW G Q N (va_up (va_up Z 1 a) 2 b) F nm Ef P) := by
  refine JM.of [(0, .ref (Q 8)), (1, .int a), (2, .int b)] rfl rfl (by simp) (Nat.le_of_ble_eq_true rfl) (by decide +kernel) ?_
  refine j_aload_n (n := 1) dX10_setFault_0 rfl rfl ?_
  refine j_iload_n (n := 2) dX10_setFault_1 rfl rfl ?_
  refine j_put (n := 5) 8 dX10_setFault_2 f_X10_42 rfl rfl rfl (Nat.le_of_ble_eq_true rfl) rfl rfl ?_
  refine j_aload_n (n := 6) dX10_setFault_5 rfl rfl ?_
  refine j_iload_n (n := 7) dX10_setFault_6 rfl rfl ?_
  refine j_put (n := 10) 8 dX10_setFault_7 f_X10_45 rfl rfl rfl (Nat.le_of_ble_eq_true rfl) rfl rfl ?_
  exact j_vret dX10_setFault_10 rfl (by omega) (by omega) (rfl)
theorem jd_loop {tl : Nat} (ht : tl ≤ 200) : ∀ (n i c : Nat), i + n = tl → c ≤ i → i ≤ 40 → JJ G Y_X10_judgeTape 2 0 0 (Qv (fun w => w = cW G Q N (va_up (va_up Z 1 (jdL (F 12) (F 9) n i c).1) 2 (jdL (F 12) (F 9) n i c).2) F nm Ef P)) 4 [(0, .ref (Q 8)), (1, .int (nI tl)), (2, .int (nI c)), (3, .int (nI i))] [] (cW G Q N Z F nm Ef P) 0 0 := by
  intro n
  induction n with
  | zero =>
    intro i c hi hc h40
    have hfin : JJ G Y_X10_judgeTape 2 0 0 (Qv (fun w => w = cW G Q N (va_up (va_up Z 1 (jdL (F 12) (F 9) 0 i c).1) 2 (jdL (F 12) (F 9) 0 i c).2) F nm Ef P)) 78 [(0, .ref (Q 8)), (1, .int (nI tl)), (2, .int (nI c)), (3, .int (nI i))] [] (cW G Q N Z F nm Ef P) 0 0 := by
      obtain rfl : i = tl := by omega
      unfold jdL
      refine j_iload_n (n := 79) dX10_judgeTape_78 rfl rfl ?_
      refine j_if_ne (n := 82) 91 dX10_judgeTape_79 (by decide) rfl (fun d => ?_) (fun d => ?_)
      · have d0 : ¬ c = 0 := fun q => d (by rw [q]; rfl)
        rw [if_neg d0]
        refine j_iload_n (n := 92) dX10_judgeTape_91 rfl rfl ?_
        refine j_bipush (n := 94) (24) dX10_judgeTape_92 rfl (by decide) ?_
        refine j_icmp_le (n := 97) 106 dX10_judgeTape_94 (by decide) rfl (fun d2 => ?_) (fun d2 => ?_)
        · have d3 : ¬ 24 < c := fun q => absurd d2 (Int32.not_le.mpr (show nI 24 < nI c from nI_lt q (by omega)))
          rw [if_neg d3]
          refine j_aload_n (n := 107) dX10_judgeTape_106 rfl rfl ?_
          refine j_iconst (n := 108) (0) dX10_judgeTape_107 rfl (by decide) ?_
          refine j_iconst (n := 109) (-1) dX10_judgeTape_108 rfl (by decide) ?_
          refine j_callVw (n := 112) (Y1 := Y_X10_setFault) 8 dX10_judgeTape_109 m_X10_151 cy_X10_setFault ci_X10_setFault (c_setFault) rfl rfl rfl rfl rfl (by omega) (by omega) (by omega) (Nat.le_of_ble_eq_true rfl) ?_
          exact j_vret dX10_judgeTape_112 rfl (by omega) (by omega) (rfl)
        · have d3 : 24 < c := Decidable.byContradiction (fun q => d2 (show nI c ≤ nI 24 from nI_le (by omega) (by omega)))
          rw [if_pos d3]
          refine j_aload_n (n := 98) dX10_judgeTape_97 rfl rfl ?_
          refine j_iconst (n := 99) (4) dX10_judgeTape_98 rfl (by decide) ?_
          refine j_iload_n (n := 100) dX10_judgeTape_99 rfl rfl ?_
          refine j_callVw (n := 103) (Y1 := Y_X10_setFault) 8 dX10_judgeTape_100 m_X10_151 cy_X10_setFault ci_X10_setFault (c_setFault) rfl rfl rfl rfl rfl (by omega) (by omega) (by omega) (Nat.le_of_ble_eq_true rfl) ?_
          refine j_goto 112 dX10_judgeTape_103 (by decide) ?_
          exact j_vret dX10_judgeTape_112 rfl (by omega) (by omega) (rfl)
      · have d0 : c = 0 := (nI_eq (b := 0) (by omega) (by omega)).mp d
        rw [if_pos d0]
        refine j_aload_n (n := 83) dX10_judgeTape_82 rfl rfl ?_
        refine j_iconst (n := 84) (3) dX10_judgeTape_83 rfl (by decide) ?_
        refine j_iload_n (n := 85) dX10_judgeTape_84 rfl rfl ?_
        refine j_callVw (n := 88) (Y1 := Y_X10_setFault) 8 dX10_judgeTape_85 m_X10_151 cy_X10_setFault ci_X10_setFault (c_setFault) rfl rfl rfl rfl rfl (by omega) (by omega) (by omega) (Nat.le_of_ble_eq_true rfl) ?_
        refine j_goto 112 dX10_judgeTape_88 (by decide) ?_
        exact j_vret dX10_judgeTape_112 rfl (by omega) (by omega) (rfl)
    refine j_iload_n (n := 5) dX10_judgeTape_4 rfl rfl ?_
    refine j_iload_n (n := 6) dX10_judgeTape_5 rfl rfl ?_
    refine j_icmp_ge (n := 9) 78 dX10_judgeTape_6 (by decide) rfl (fun c1 => ?_) (fun c1 => ?_)
    · exact hfin
    · exact absurd (nI_le (show tl ≤ i by omega) (by omega)) c1
  | succ n ih =>
    intro i c hi hc h40
    unfold jdL
    refine j_iload_n (n := 5) dX10_judgeTape_4 rfl rfl ?_
    refine j_iload_n (n := 6) dX10_judgeTape_5 rfl rfl ?_
    refine j_icmp_ge (n := 9) 78 dX10_judgeTape_6 (by decide) rfl (fun c1 => ?_) (fun c1 => ?_)
    · exact absurd c1 (nI_ge (show i < tl by omega) (by omega))
    · refine j_iload_n (n := 10) dX10_judgeTape_9 rfl rfl ?_
      refine j_sipush (n := 13) (200) dX10_judgeTape_10 rfl (by decide) ?_
      refine j_icmp_ge (n := 16) 78 dX10_judgeTape_13 (by decide) rfl (fun c2 => ?_) (fun c2 => ?_)
      · exact absurd c2 (nI_ge (b := 200) (show i < 200 by omega) (by omega))
      · refine j_aload_n (n := 17) dX10_judgeTape_16 rfl rfl ?_
        refine j_get (n := 20) 8 dX10_judgeTape_17 f_X10_9 rfl rfl rfl ?_
        refine j_iload_n (n := 21) dX10_judgeTape_20 rfl rfl ?_
        refine j_iald (n := 22) 9 i dX10_judgeTape_21 rfl rfl rfl (by omega) (by omega) ?_
        refine j_istore (n := 24) dX10_judgeTape_22 rfl (by decide) ?_
        refine j_iload (n := 26) dX10_judgeTape_24 rfl rfl ?_
        refine j_callSe (n := 29) (Y1 := Y_X10_isSign) dX10_judgeTape_26 m_X10_98 cy_X10_isSign cs_X10_isSign (c_isSign) rfl rfl rfl (by omega) (by omega) (by omega) (Nat.le_of_ble_eq_true rfl) ?_
        refine j_if_ne (n := 32) 39 dX10_judgeTape_29 (by decide) rfl (fun c3 => ?_) (fun c3 => ?_)
        · have h1 := b01_n0 c3
          rw [if_neg (by rw [h1]; exact Bool.noConfusion)]
          refine j_iload_n (n := 40) dX10_judgeTape_39 rfl rfl ?_
          refine j_bipush (n := 42) (40) dX10_judgeTape_40 rfl (by decide) ?_
          refine j_icmp_lt (n := 45) 52 dX10_judgeTape_42 (by decide) rfl (fun c4 => ?_) (fun c4 => ?_)
          · have h2 : ¬ 40 ≤ i := fun q => absurd (show nI i < nI 40 from c4) (nI_nlt (by omega) (by omega))
            rw [if_neg h2]
            refine j_iload_n (n := 53) dX10_judgeTape_52 rfl rfl ?_
            refine j_aload_n (n := 54) dX10_judgeTape_53 rfl rfl ?_
            refine j_get (n := 57) 8 dX10_judgeTape_54 f_X10_20 rfl rfl rfl ?_
            refine j_iload (n := 59) dX10_judgeTape_57 rfl rfl ?_
            refine j_callVe (n := 62) (Y1 := Y_X7_howOf) 10 dX10_judgeTape_59 m_X10_155 cy_X7_howOf ci_X7_howOf (c_howOf 10 rfl 12 rfl) rfl rfl rfl rfl rfl (by omega) (by omega) (by omega) (Nat.le_of_ble_eq_true rfl) ?_
            refine j_if_ne (n := 65) 69 dX10_judgeTape_62 (by decide) rfl (fun c5 => ?_) (fun c5 => ?_)
            · rw [if_neg c5]
              refine j_iconst (n := 70) (0) dX10_judgeTape_69 rfl (by decide) ?_
              refine j_iadd (n := 71) dX10_judgeTape_70 rfl ?_
              refine j_top (nI c) (Int32.add_zero _) ?_
              refine j_istore_n (n := 72) dX10_judgeTape_71 rfl (by decide) ?_
              refine j_iinc (n := 75) (nI (i + 1)) dX10_judgeTape_72 rfl rfl (nI_inc i) (by decide) ?_
              refine j_goto 4 dX10_judgeTape_75 (by decide) ?_
              refine j_keep [0, 1, 2, 3] rfl ?_
              exact ih (i + 1) c (by omega) (by omega) (by omega)
            · rw [if_pos c5]
              refine j_iconst (n := 66) (1) dX10_judgeTape_65 rfl (by decide) ?_
              refine j_goto 70 dX10_judgeTape_66 (by decide) ?_
              refine j_iadd (n := 71) dX10_judgeTape_70 rfl ?_
              refine j_top (nI (c + 1)) (nI_inc c) ?_
              refine j_istore_n (n := 72) dX10_judgeTape_71 rfl (by decide) ?_
              refine j_iinc (n := 75) (nI (i + 1)) dX10_judgeTape_72 rfl rfl (nI_inc i) (by decide) ?_
              refine j_goto 4 dX10_judgeTape_75 (by decide) ?_
              refine j_keep [0, 1, 2, 3] rfl ?_
              exact ih (i + 1) (c + 1) (by omega) (by omega) (by omega)
          · have h2 : 40 ≤ i := Decidable.byContradiction (fun q => c4 (show nI i < nI 40 from nI_lt (by omega) (by omega)))
            rw [if_pos h2]
            refine j_aload_n (n := 46) dX10_judgeTape_45 rfl rfl ?_
            refine j_iconst (n := 47) (2) dX10_judgeTape_46 rfl (by decide) ?_
            refine j_iload_n (n := 48) dX10_judgeTape_47 rfl rfl ?_
            refine j_callVw (n := 51) (Y1 := Y_X10_setFault) 8 dX10_judgeTape_48 m_X10_151 cy_X10_setFault ci_X10_setFault (c_setFault) rfl rfl rfl rfl rfl (by omega) (by omega) (by omega) (Nat.le_of_ble_eq_true rfl) ?_
            exact j_vret dX10_judgeTape_51 rfl (by omega) (by omega) (rfl)
        · rw [if_pos (b01_0 c3)]
          refine j_aload_n (n := 33) dX10_judgeTape_32 rfl rfl ?_
          refine j_iconst (n := 34) (1) dX10_judgeTape_33 rfl (by decide) ?_
          refine j_iload_n (n := 35) dX10_judgeTape_34 rfl rfl ?_
          refine j_callVw (n := 38) (Y1 := Y_X10_setFault) 8 dX10_judgeTape_35 m_X10_151 cy_X10_setFault ci_X10_setFault (c_setFault) rfl rfl rfl rfl rfl (by omega) (by omega) (by omega) (Nat.le_of_ble_eq_true rfl) ?_
          exact j_vret dX10_judgeTape_38 rfl (by omega) (by omega) (rfl)
theorem c_judgeTape {tl : Nat} (ht : tl ≤ 200) : JV G Y_X10_judgeTape 2 0 0 [.ref (Q 8), .int (nI tl)] (cW G Q N Z F nm Ef P) (cW G Q N (va_up (va_up Z 1 (jdL (F 12) (F 9) tl 0 0).1) 2 (jdL (F 12) (F 9) tl 0 0).2) F nm Ef P) := by
  refine JM.of [(0, .ref (Q 8)), (1, .int (nI tl))] rfl rfl (by simp) (Nat.le_of_ble_eq_true rfl) (by decide +kernel) ?_
  refine j_iconst (n := 1) (0) dX10_judgeTape_0 rfl (by decide) ?_
  refine j_istore_n (n := 2) dX10_judgeTape_1 rfl (by decide) ?_
  refine j_iconst (n := 3) (0) dX10_judgeTape_2 rfl (by decide) ?_
  refine j_istore_n (n := 4) dX10_judgeTape_3 rfl (by decide) ?_
  exact jd_loop ht tl 0 0 (by omega) (by omega) (by omega)
def byF (x s : Int32) : Int32 := (x.toUInt32 >>> (s.toUInt32 &&& Int32.toUInt32 31)).toInt32 &&& 255
def pbF (f : Nat → Int32) (n : Nat) (x : Int32) : Nat → Int32 := upd (upd (upd (upd f n (byF x 24)) (n + 1) (byF x 16)) (n + 2) (byF x 8)) (n + 3) (byF x 0)
theorem c_putBytes {x : Int32} (h4 : N 4 + 4 ≤ 200) : JV G Y_X10_putBytes 0 0 0 [.ref (Q 8), .int x] (cW G Q N Z F nm Ef P) (cW G Q (va_up N 4 (N 4 + 4)) Z (va_up F 9 (pbF (F 9) (N 4) x)) nm Ef P) := by
  refine JM.of [(0, .ref (Q 8)), (1, .int x)] rfl rfl (by simp) (Nat.le_of_ble_eq_true rfl) (by decide +kernel) ?_
  refine j_bipush (n := 2) (24) dX10_putBytes_0 rfl (by decide) ?_
  refine j_istore_n (n := 3) dX10_putBytes_2 rfl (by decide) ?_
  refine j_iload_n (n := 4) dX10_putBytes_3 rfl rfl ?_
  refine j_if_lt (n := 7) 49 dX10_putBytes_4 (by decide) rfl (fun c => ?_) (fun c => ?_)
  · exact absurd c (by decide)
  · refine j_aload_n (n := 8) dX10_putBytes_7 rfl rfl ?_
    refine j_get (n := 11) 8 dX10_putBytes_8 f_X10_13 rfl rfl rfl ?_
    refine j_sipush (n := 14) (200) dX10_putBytes_11 rfl (by decide) ?_
    refine j_icmp_ge (n := 17) 49 dX10_putBytes_14 (by decide) rfl (fun c1 => ?_) (fun c1 => ?_)
    · exact absurd c1 (nI_ge (b := 200) (show N 4 < 200 by omega) (by omega))
    · refine j_aload_n (n := 18) dX10_putBytes_17 rfl rfl ?_
      refine j_get (n := 21) 8 dX10_putBytes_18 f_X10_9 rfl rfl rfl ?_
      refine j_aload_n (n := 22) dX10_putBytes_21 rfl rfl ?_
      refine j_get (n := 25) 8 dX10_putBytes_22 f_X10_13 rfl rfl rfl ?_
      refine j_iload_n (n := 26) dX10_putBytes_25 rfl rfl ?_
      refine j_iload_n (n := 27) dX10_putBytes_26 rfl rfl ?_
      refine j_iushr (n := 28) dX10_putBytes_27 rfl ?_
      refine j_sipush (n := 31) (255) dX10_putBytes_28 rfl (by decide) ?_
      refine j_iand (n := 32) dX10_putBytes_31 rfl ?_
      refine j_iast (n := 33) 9 (N 4) dX10_putBytes_32 rfl rfl rfl (by omega) (by omega) ?_
      refine j_aload_n (n := 34) dX10_putBytes_33 rfl rfl ?_
      refine j_dup (n := 35) dX10_putBytes_34 rfl rfl ?_
      refine j_get (n := 38) 8 dX10_putBytes_35 f_X10_13 rfl rfl rfl ?_
      refine j_iconst (n := 39) (1) dX10_putBytes_38 rfl (by decide) ?_
      refine j_iadd (n := 40) dX10_putBytes_39 rfl ?_
      refine j_top (nI (N 4 + 1)) (nI_inc (N 4)) ?_
      refine j_put (n := 43) 8 dX10_putBytes_40 f_X10_13 rfl rfl rfl (Nat.le_of_ble_eq_true rfl) rfl rfl ?_
      refine j_iinc (n := 46) 16 dX10_putBytes_43 rfl rfl (by decide) (by decide) ?_
      refine j_goto 3 dX10_putBytes_46 (by decide) ?_
      refine j_iload_n (n := 4) dX10_putBytes_3 rfl rfl ?_
      refine j_if_lt (n := 7) 49 dX10_putBytes_4 (by decide) rfl (fun c => ?_) (fun c => ?_)
      · exact absurd c (by decide)
      · refine j_aload_n (n := 8) dX10_putBytes_7 rfl rfl ?_
        refine j_get (n := 11) 8 dX10_putBytes_8 f_X10_13 rfl rfl rfl ?_
        refine j_sipush (n := 14) (200) dX10_putBytes_11 rfl (by decide) ?_
        refine j_icmp_ge (n := 17) 49 dX10_putBytes_14 (by decide) rfl (fun c2 => ?_) (fun c2 => ?_)
        · exact absurd c2 (nI_ge (b := 200) (show N 4 + 1 < 200 by omega) (by omega))
        · refine j_aload_n (n := 18) dX10_putBytes_17 rfl rfl ?_
          refine j_get (n := 21) 8 dX10_putBytes_18 f_X10_9 rfl rfl rfl ?_
          refine j_aload_n (n := 22) dX10_putBytes_21 rfl rfl ?_
          refine j_get (n := 25) 8 dX10_putBytes_22 f_X10_13 rfl rfl rfl ?_
          refine j_iload_n (n := 26) dX10_putBytes_25 rfl rfl ?_
          refine j_iload_n (n := 27) dX10_putBytes_26 rfl rfl ?_
          refine j_iushr (n := 28) dX10_putBytes_27 rfl ?_
          refine j_sipush (n := 31) (255) dX10_putBytes_28 rfl (by decide) ?_
          refine j_iand (n := 32) dX10_putBytes_31 rfl ?_
          refine j_iast (n := 33) 9 (N 4 + 1) dX10_putBytes_32 rfl rfl rfl (by omega) (by omega) ?_
          refine j_aload_n (n := 34) dX10_putBytes_33 rfl rfl ?_
          refine j_dup (n := 35) dX10_putBytes_34 rfl rfl ?_
          refine j_get (n := 38) 8 dX10_putBytes_35 f_X10_13 rfl rfl rfl ?_
          refine j_iconst (n := 39) (1) dX10_putBytes_38 rfl (by decide) ?_
          refine j_iadd (n := 40) dX10_putBytes_39 rfl ?_
          refine j_top (nI (N 4 + 1 + 1)) (nI_inc (N 4 + 1)) ?_
          refine j_put (n := 43) 8 dX10_putBytes_40 f_X10_13 rfl rfl rfl (Nat.le_of_ble_eq_true rfl) rfl rfl ?_
          refine j_iinc (n := 46) 8 dX10_putBytes_43 rfl rfl (by decide) (by decide) ?_
          refine j_goto 3 dX10_putBytes_46 (by decide) ?_
          refine j_iload_n (n := 4) dX10_putBytes_3 rfl rfl ?_
          refine j_if_lt (n := 7) 49 dX10_putBytes_4 (by decide) rfl (fun c => ?_) (fun c => ?_)
          · exact absurd c (by decide)
          · refine j_aload_n (n := 8) dX10_putBytes_7 rfl rfl ?_
            refine j_get (n := 11) 8 dX10_putBytes_8 f_X10_13 rfl rfl rfl ?_
            refine j_sipush (n := 14) (200) dX10_putBytes_11 rfl (by decide) ?_
            refine j_icmp_ge (n := 17) 49 dX10_putBytes_14 (by decide) rfl (fun c3 => ?_) (fun c3 => ?_)
            · exact absurd c3 (nI_ge (b := 200) (show N 4 + 1 + 1 < 200 by omega) (by omega))
            · refine j_aload_n (n := 18) dX10_putBytes_17 rfl rfl ?_
              refine j_get (n := 21) 8 dX10_putBytes_18 f_X10_9 rfl rfl rfl ?_
              refine j_aload_n (n := 22) dX10_putBytes_21 rfl rfl ?_
              refine j_get (n := 25) 8 dX10_putBytes_22 f_X10_13 rfl rfl rfl ?_
              refine j_iload_n (n := 26) dX10_putBytes_25 rfl rfl ?_
              refine j_iload_n (n := 27) dX10_putBytes_26 rfl rfl ?_
              refine j_iushr (n := 28) dX10_putBytes_27 rfl ?_
              refine j_sipush (n := 31) (255) dX10_putBytes_28 rfl (by decide) ?_
              refine j_iand (n := 32) dX10_putBytes_31 rfl ?_
              refine j_iast (n := 33) 9 (N 4 + 1 + 1) dX10_putBytes_32 rfl rfl rfl (by omega) (by omega) ?_
              refine j_aload_n (n := 34) dX10_putBytes_33 rfl rfl ?_
              refine j_dup (n := 35) dX10_putBytes_34 rfl rfl ?_
              refine j_get (n := 38) 8 dX10_putBytes_35 f_X10_13 rfl rfl rfl ?_
              refine j_iconst (n := 39) (1) dX10_putBytes_38 rfl (by decide) ?_
              refine j_iadd (n := 40) dX10_putBytes_39 rfl ?_
              refine j_top (nI (N 4 + 1 + 1 + 1)) (nI_inc (N 4 + 1 + 1)) ?_
              refine j_put (n := 43) 8 dX10_putBytes_40 f_X10_13 rfl rfl rfl (Nat.le_of_ble_eq_true rfl) rfl rfl ?_
              refine j_iinc (n := 46) 0 dX10_putBytes_43 rfl rfl (by decide) (by decide) ?_
              refine j_goto 3 dX10_putBytes_46 (by decide) ?_
              refine j_iload_n (n := 4) dX10_putBytes_3 rfl rfl ?_
              refine j_if_lt (n := 7) 49 dX10_putBytes_4 (by decide) rfl (fun c => ?_) (fun c => ?_)
              · exact absurd c (by decide)
              · refine j_aload_n (n := 8) dX10_putBytes_7 rfl rfl ?_
                refine j_get (n := 11) 8 dX10_putBytes_8 f_X10_13 rfl rfl rfl ?_
                refine j_sipush (n := 14) (200) dX10_putBytes_11 rfl (by decide) ?_
                refine j_icmp_ge (n := 17) 49 dX10_putBytes_14 (by decide) rfl (fun c4 => ?_) (fun c4 => ?_)
                · exact absurd c4 (nI_ge (b := 200) (show N 4 + 1 + 1 + 1 < 200 by omega) (by omega))
                · refine j_aload_n (n := 18) dX10_putBytes_17 rfl rfl ?_
                  refine j_get (n := 21) 8 dX10_putBytes_18 f_X10_9 rfl rfl rfl ?_
                  refine j_aload_n (n := 22) dX10_putBytes_21 rfl rfl ?_
                  refine j_get (n := 25) 8 dX10_putBytes_22 f_X10_13 rfl rfl rfl ?_
                  refine j_iload_n (n := 26) dX10_putBytes_25 rfl rfl ?_
                  refine j_iload_n (n := 27) dX10_putBytes_26 rfl rfl ?_
                  refine j_iushr (n := 28) dX10_putBytes_27 rfl ?_
                  refine j_sipush (n := 31) (255) dX10_putBytes_28 rfl (by decide) ?_
                  refine j_iand (n := 32) dX10_putBytes_31 rfl ?_
                  refine j_iast (n := 33) 9 (N 4 + 1 + 1 + 1) dX10_putBytes_32 rfl rfl rfl (by omega) (by omega) ?_
                  refine j_aload_n (n := 34) dX10_putBytes_33 rfl rfl ?_
                  refine j_dup (n := 35) dX10_putBytes_34 rfl rfl ?_
                  refine j_get (n := 38) 8 dX10_putBytes_35 f_X10_13 rfl rfl rfl ?_
                  refine j_iconst (n := 39) (1) dX10_putBytes_38 rfl (by decide) ?_
                  refine j_iadd (n := 40) dX10_putBytes_39 rfl ?_
                  refine j_top (nI (N 4 + 1 + 1 + 1 + 1)) (nI_inc (N 4 + 1 + 1 + 1)) ?_
                  refine j_put (n := 43) 8 dX10_putBytes_40 f_X10_13 rfl rfl rfl (Nat.le_of_ble_eq_true rfl) rfl rfl ?_
                  refine j_iinc (n := 46) (-8) dX10_putBytes_43 rfl rfl (by decide) (by decide) ?_
                  refine j_goto 3 dX10_putBytes_46 (by decide) ?_
                  refine j_iload_n (n := 4) dX10_putBytes_3 rfl rfl ?_
                  refine j_if_lt (n := 7) 49 dX10_putBytes_4 (by decide) rfl (fun c => ?_) (fun c => ?_)
                  · exact j_vret dX10_putBytes_49 rfl (by omega) (by omega) (rfl)
                  · exact absurd (by decide) c
def fdF (f : Nat → Int32) (n : Nat) (a b c d e : Int32) : Nat → Int32 := pbF (pbF (pbF (pbF (pbF f n a) (n + 4) b) (n + 8) c) (n + 12) d) (n + 16) e
theorem c_feed {a b c d e : Int32} (h4 : N 4 ≤ 200) : JE G Y_X10_feed 1 0 0 [.ref (Q 8), .int a, .int b, .int c, .int d, .int e] (cW G Q N Z F nm Ef P) (if N 4 ≤ 180 then nI (N 4 + 20) else -3) (cW G Q (if N 4 ≤ 180 then va_up N 4 (N 4 + 20) else N) Z (if N 4 ≤ 180 then va_up F 9 (fdF (F 9) (N 4) a b c d e) else F) nm Ef P) := by
  refine JM.of [(0, .ref (Q 8)), (1, .int a), (2, .int b), (3, .int c), (4, .int d), (5, .int e)] rfl rfl (by simp) (Nat.le_of_ble_eq_true rfl) (by decide +kernel) ?_
  refine j_aload_n (n := 1) dX10_feed_0 rfl rfl ?_
  refine j_get (n := 4) 8 dX10_feed_1 f_X10_13 rfl rfl rfl ?_
  refine j_sipush (n := 7) (180) dX10_feed_4 rfl (by decide) ?_
  refine j_icmp_le (n := 10) 13 dX10_feed_7 (by decide) rfl (fun h => ?_) (fun h => ?_)
  · have h1 : N 4 ≤ 180 := Decidable.byContradiction (fun q => absurd h (Int32.not_le.mpr (show nI 180 < nI (N 4) from nI_lt (by omega) (by omega))))
    rw [if_pos h1, if_pos h1, if_pos h1]
    refine j_aload_n (n := 14) dX10_feed_13 rfl rfl ?_
    refine j_iload_n (n := 15) dX10_feed_14 rfl rfl ?_
    refine j_callVw (n := 18) (Y1 := Y_X10_putBytes) 8 dX10_feed_15 m_X10_94 cy_X10_putBytes ci_X10_putBytes (c_putBytes (by first | omega | (simp only [va_up_self]; omega))) rfl rfl rfl rfl rfl (by omega) (by omega) (by omega) (Nat.le_of_ble_eq_true rfl) ?_
    refine j_aload_n (n := 19) dX10_feed_18 rfl rfl ?_
    refine j_iload_n (n := 20) dX10_feed_19 rfl rfl ?_
    refine j_callVw (n := 23) (Y1 := Y_X10_putBytes) 8 dX10_feed_20 m_X10_94 cy_X10_putBytes ci_X10_putBytes (c_putBytes (by first | omega | (simp only [va_up_self]; omega))) rfl rfl rfl rfl rfl (by omega) (by omega) (by omega) (Nat.le_of_ble_eq_true rfl) ?_
    refine j_aload_n (n := 24) dX10_feed_23 rfl rfl ?_
    refine j_iload_n (n := 25) dX10_feed_24 rfl rfl ?_
    refine j_callVw (n := 28) (Y1 := Y_X10_putBytes) 8 dX10_feed_25 m_X10_94 cy_X10_putBytes ci_X10_putBytes (c_putBytes (by first | omega | (simp only [va_up_self]; omega))) rfl rfl rfl rfl rfl (by omega) (by omega) (by omega) (Nat.le_of_ble_eq_true rfl) ?_
    refine j_aload_n (n := 29) dX10_feed_28 rfl rfl ?_
    refine j_iload (n := 31) dX10_feed_29 rfl rfl ?_
    refine j_callVw (n := 34) (Y1 := Y_X10_putBytes) 8 dX10_feed_31 m_X10_94 cy_X10_putBytes ci_X10_putBytes (c_putBytes (by first | omega | (simp only [va_up_self]; omega))) rfl rfl rfl rfl rfl (by omega) (by omega) (by omega) (Nat.le_of_ble_eq_true rfl) ?_
    refine j_aload_n (n := 35) dX10_feed_34 rfl rfl ?_
    refine j_iload (n := 37) dX10_feed_35 rfl rfl ?_
    refine j_callVw (n := 40) (Y1 := Y_X10_putBytes) 8 dX10_feed_37 m_X10_94 cy_X10_putBytes ci_X10_putBytes (c_putBytes (by first | omega | (simp only [va_up_self]; omega))) rfl rfl rfl rfl rfl (by omega) (by omega) (by omega) (Nat.le_of_ble_eq_true rfl) ?_
    refine j_aload_n (n := 41) dX10_feed_40 rfl rfl ?_
    refine j_get (n := 44) 8 dX10_feed_41 f_X10_13 rfl rfl rfl ?_
    exact j_iret dX10_feed_44 rfl rfl (by omega) (by omega) (⟨rfl, rfl⟩)
  · have h1 : ¬ N 4 ≤ 180 := fun q => h (show nI (N 4) ≤ nI 180 from nI_le q (by omega))
    rw [if_neg h1, if_neg h1, if_neg h1]
    refine j_bipush (n := 12) (-3) dX10_feed_10 rfl (by decide) ?_
    exact j_iret dX10_feed_12 rfl rfl (by omega) (by omega) (⟨rfl, rfl⟩)
def okRul (q a b : Int32) : Bool := decide (¬ (q < 0 ∨ 4 ≤ q)) && decide (¬ (a < 0 ∨ b < a ∨ 200 < b))
theorem c_rule {q a b s : Int32} (hs : s = 0 ∨ s = 1) : JE G Y_X10_rule 1 0 0 [.ref (Q 8), .int q, .int a, .int b, .int s] (cW G Q N Z F nm Ef P) (if okRul q a b = true then 1 else -2) (cW G Q N (if okRul q a b = true then va_up (va_up (va_up Z (10 + 3 * q.toNatClampNeg) a) (11 + 3 * q.toNatClampNeg) b) (12 + 3 * q.toNatClampNeg) s else Z) F nm Ef P) := by
  refine JM.of [(0, .ref (Q 8)), (1, .int q), (2, .int a), (3, .int b), (4, .int s)] rfl rfl (by simp) (Nat.le_of_ble_eq_true rfl) (by decide +kernel) ?_
  refine j_aload_n (n := 1) dX10_rule_0 rfl rfl ?_
  refine j_iload_n (n := 2) dX10_rule_1 rfl rfl ?_
  refine j_callVq (n := 5) (Y1 := Y_X10_registerAt) 8 dX10_rule_2 m_X10_192 cy_X10_registerAt ci_X10_registerAt (c_registerAt) rfl rfl rfl rfl rfl (by omega) (by omega) (by omega) (Nat.le_of_ble_eq_true rfl) ?_
  rcases ix3 q (n := 4) (by omega) with h | h | ⟨j, hj, rfl⟩
  · have hb : ¬ okRul q a b = true := by unfold okRul; rw [decide_eq_false (fun c => c (Or.inl h))]; exact Bool.noConfusion
    rw [rgF_none (Or.inl h), if_neg hb, if_neg hb]
    refine j_astoreN (n := 7) dX10_rule_5 rfl (by decide) ?_
    refine j_aloadN (n := 9) dX10_rule_7 rfl rfl ?_
    refine j_ifnullN 28 dX10_rule_9 (by decide) ?_
    refine j_bipush (n := 30) (-2) dX10_rule_28 rfl (by decide) ?_
    exact j_iret dX10_rule_30 rfl rfl (by omega) (by omega) (⟨rfl, rfl⟩)
  · have hb : ¬ okRul q a b = true := by unfold okRul; rw [decide_eq_false (fun c => c (Or.inr (show 4 ≤ q from h)))]; exact Bool.noConfusion
    rw [rgF_none (Or.inr h), if_neg hb, if_neg hb]
    refine j_astoreN (n := 7) dX10_rule_5 rfl (by decide) ?_
    refine j_aloadN (n := 9) dX10_rule_7 rfl rfl ?_
    refine j_ifnullN 28 dX10_rule_9 (by decide) ?_
    refine j_bipush (n := 30) (-2) dX10_rule_28 rfl (by decide) ?_
    exact j_iret dX10_rule_30 rfl rfl (by omega) (by omega) (⟨rfl, rfl⟩)
  · have hq : ¬ (nI j < 0 ∨ 4 ≤ nI j) := fun q => q.elim (nI_pos (by omega)) (nI_ge (b := 4) hj (by omega))
    have hok : okRul (nI j) a b = decide (¬ (a < 0 ∨ b < a ∨ 200 < b)) := by unfold okRul; rw [decide_eq_true hq]; rfl
    rw [rgF_some hj, nI_clamp (show j < 2 ^ 31 by omega), hok]
    have hset := fun x y z => rg_set (G := G) (Q := Q) (N := N) (Z := Z) (F := F) (nm := nm) (Ef := Ef) (P := P) (a := x) (b := y) (c := z) hj
    have hreg := rg_get (G := G) (Q := Q) (N := N) (Z := Z) (F := F) (nm := nm) (Ef := Ef) (P := P) hj
    generalize Q (16 + j) = qa at hreg hset ⊢
    refine j_astore (n := 7) dX10_rule_5 rfl (by decide) ?_
    refine j_aload (n := 9) dX10_rule_7 rfl rfl ?_
    refine j_ifnull (n := 12) dX10_rule_9 rfl ?_
    refine j_iload_n (n := 13) dX10_rule_12 rfl rfl ?_
    refine j_if_lt (n := 16) 28 dX10_rule_13 (by decide) rfl (fun c1 => ?_) (fun c1 => ?_)
    · have hb : ¬ decide (¬ (a < 0 ∨ b < a ∨ 200 < b)) = true := by rw [decide_eq_false (fun c => c (Or.inl c1))]; exact Bool.noConfusion
      rw [if_neg hb, if_neg hb]
      refine j_bipush (n := 30) (-2) dX10_rule_28 rfl (by decide) ?_
      exact j_iret dX10_rule_30 rfl rfl (by omega) (by omega) (⟨rfl, rfl⟩)
    · refine j_iload_n (n := 17) dX10_rule_16 rfl rfl ?_
      refine j_iload_n (n := 18) dX10_rule_17 rfl rfl ?_
      refine j_icmp_lt (n := 21) 28 dX10_rule_18 (by decide) rfl (fun c2 => ?_) (fun c2 => ?_)
      · have hb : ¬ decide (¬ (a < 0 ∨ b < a ∨ 200 < b)) = true := by rw [decide_eq_false (fun c => c (Or.inr (Or.inl c2)))]; exact Bool.noConfusion
        rw [if_neg hb, if_neg hb]
        refine j_bipush (n := 30) (-2) dX10_rule_28 rfl (by decide) ?_
        exact j_iret dX10_rule_30 rfl rfl (by omega) (by omega) (⟨rfl, rfl⟩)
      · refine j_iload_n (n := 22) dX10_rule_21 rfl rfl ?_
        refine j_sipush (n := 25) (200) dX10_rule_22 rfl (by decide) ?_
        refine j_icmp_le (n := 28) 31 dX10_rule_25 (by decide) rfl (fun c3 => ?_) (fun c3 => ?_)
        · have hb : decide (¬ (a < 0 ∨ b < a ∨ 200 < b)) = true := decide_eq_true (fun c => c.elim c1 (fun c => c.elim c2 (fun c => Int32.not_lt.mpr c3 c)))
          rw [if_pos hb, if_pos hb]
          refine j_aload (n := 33) dX10_rule_31 rfl rfl ?_
          refine j_iload_n (n := 34) dX10_rule_33 rfl rfl ?_
          refine j_putN (n := 37) _ dX10_rule_34 f_X10_196 rfl rfl hreg (Nat.le_of_ble_eq_true rfl) rfl rfl ?_
          refine j_aload (n := 39) dX10_rule_37 rfl rfl ?_
          refine j_iload_n (n := 40) dX10_rule_39 rfl rfl ?_
          refine j_putN (n := 43) _ dX10_rule_40 f_X10_199 rfl rfl (gs_eq hreg) (Nat.le_of_ble_eq_true rfl) rfl rfl ?_
          refine j_aload (n := 45) dX10_rule_43 rfl rfl ?_
          refine j_iload (n := 47) dX10_rule_45 rfl rfl ?_
          refine j_putN (n := 50) _ dX10_rule_47 f_X10_202 rfl rfl (gs_eq (gs_eq hreg)) (Nat.le_of_ble_eq_true rfl) (by rcases hs with rfl | rfl <;> rfl) (by rcases hs with rfl | rfl <;> rfl) ?_
          refine j_iconst (n := 51) (1) dX10_rule_50 rfl (by decide) ?_
          exact j_iret dX10_rule_51 rfl rfl (by omega) (by omega) (⟨rfl, by rw [List.set_set, List.set_set]; exact hset a b s⟩)
        · have hb : ¬ decide (¬ (a < 0 ∨ b < a ∨ 200 < b)) = true := by rw [decide_eq_false (fun c => c (Or.inr (Or.inr (Int32.not_le.mp c3))))]; exact Bool.noConfusion
          rw [if_neg hb, if_neg hb]
          refine j_bipush (n := 30) (-2) dX10_rule_28 rfl (by decide) ?_
          exact j_iret dX10_rule_30 rfl rfl (by omega) (by omega) (⟨rfl, rfl⟩)
end TA
section NMX
variable {G : GT} {Q N : Nat → Nat} {Z : Nat → Int32} {F : Nat → Nat → Int32} {nm : Option Nat} {Ef : Nat → Option Nat} {T : List TR} {E : List ER} {tail P X : va_W}
theorem poolT_snoc (r : TR) : poolT G (T ++ [r]) X = T.flatMap (tC G) ++ (tC G r ++ X) := by
  unfold poolT
  rw [List.flatMap_append, List.append_assoc]
  congr 1
theorem cw_text {r : TR} {x : Nat × va_E} {l : va_W} (h : x :: l = tC G r) : (x :: cW G Q N Z F nm Ef (poolT G T X) ++ l).Perm (cW G Q N Z F nm Ef (poolT G (T ++ [r]) X)) := by
  have e1 : cW G Q N Z F nm Ef (poolT G T X) = (cPT G Q N Z F ++ (cRest G Q N Z F nm Ef ++ T.flatMap (tC G))) ++ X := by
    unfold poolT; rw [List.append_assoc, List.append_assoc]
  have e2 : cW G Q N Z F nm Ef (poolT G (T ++ [r]) X) = (cPT G Q N Z F ++ (cRest G Q N Z F nm Ef ++ T.flatMap (tC G))) ++ ((x :: l) ++ X) := by
    rw [poolT_snoc, h, List.append_assoc, List.append_assoc]
  rw [e1, e2]
  exact pm2 x _ X l
theorem cw_ent {x : ER} : (eCell x :: cW G Q N Z F nm Ef (poolE G T E tail)).Perm (cW G Q N Z F nm Ef (poolE G T (E ++ [x]) tail)) := by
  have e1 : cW G Q N Z F nm Ef (poolE G T E tail) = (cPT G Q N Z F ++ (cRest G Q N Z F nm Ef ++ (T.flatMap (tC G) ++ E.map eCell))) ++ tail := by
    unfold poolE poolT; rw [List.append_assoc, List.append_assoc, List.append_assoc]
  have e2 : cW G Q N Z F nm Ef (poolE G T (E ++ [x]) tail) = (cPT G Q N Z F ++ (cRest G Q N Z F nm Ef ++ (T.flatMap (tC G) ++ E.map eCell))) ++ ([eCell x] ++ tail) := by
    unfold poolE poolT; rw [List.map_append, List.append_assoc, List.append_assoc, List.append_assoc, List.append_assoc]; rfl
  rw [e1, e2]
  have := pm2 (eCell x) (cPT G Q N Z F ++ (cRest G Q N Z F nm Ef ++ (T.flatMap (tC G) ++ E.map eCell))) tail []
  rw [List.append_nil] at this
  exact this
/-- what is told: the tape's first n bytes -/
def tdF (f : Nat → Int32) (n : Nat) : Nat → Int32 := fun k => if k < n then f k else 0
theorem tdF_cpy (f : Nat → Int32) (n : Nat) : va_cpy f (fun _ => 0) 0 0 n = tdF f n := by
  funext k
  unfold va_cpy tdF
  by_cases h : k < n
  · rw [if_pos h, if_pos ⟨by omega, by omega⟩]; simp
  · rw [if_neg h, if_neg (fun q => h (by omega))]
theorem c_name (h4 : N 4 ≤ 200) (h1 : N 1 < 1000) (h5 : N 5 < 1000) : JM G Y_X10_name 3 5 168 [.ref (Q 8)] (cW G Q N Z F nm Ef (poolE G T E tail)) (Qi (fun r w => (¬ (jdL (F 12) (F 9) (N 4) 0 0).1 = 0 ∧ r = -1 ∧ w = cW G Q (va_up N 4 0) (va_up (va_up Z 1 (jdL (F 12) (F 9) (N 4) 0 0).1) 2 (jdL (F 12) (F 9) (N 4) 0 0).2) F nm Ef (poolE G T E tail)) ∨ ((jdL (F 12) (F 9) (N 4) 0 0).1 = 0 ∧ r = nI (seeN (F 12) (tdF (F 9) (N 4)) (N 4)) ∧ ∃ rn : TR, w = cW G Q (va_up N 4 0) (va_up (va_up Z 1 (jdL (F 12) (F 9) (N 4) 0 0).1) 2 (jdL (F 12) (F 9) (N 4) 0 0).2) F (some (rn.1 0)) Ef (poolE G (T ++ [rn]) E tail) ∧ TOK (F 12) (N 5) (N 1) (cCT N F) rn ∧ tLen rn = N 4 ∧ tT rn = tdF (F 9) (N 4)))) := by
  refine JM.of [(0, .ref (Q 8))] rfl rfl (by simp) (Nat.le_of_ble_eq_true rfl) (by decide +kernel) ?_
  refine j_aload_n (n := 1) dX10_name_0 rfl rfl ?_
  refine j_get (n := 4) 8 dX10_name_1 f_X10_13 rfl rfl rfl ?_
  refine j_istore_n (n := 5) dX10_name_4 rfl (by decide) ?_
  refine j_aload_n (n := 6) dX10_name_5 rfl rfl ?_
  refine j_iconst (n := 7) (0) dX10_name_6 rfl (by decide) ?_
  refine j_put (n := 10) 8 dX10_name_7 f_X10_13 rfl rfl rfl (Nat.le_of_ble_eq_true rfl) rfl rfl ?_
  refine j_aload_n (n := 11) dX10_name_10 rfl rfl ?_
  refine j_iload_n (n := 12) dX10_name_11 rfl rfl ?_
  refine j_callVw (n := 15) (Y1 := Y_X10_judgeTape) 8 dX10_name_12 m_X10_136 cy_X10_judgeTape ci_X10_judgeTape (c_judgeTape (N := va_up N 4 0) h4) rfl rfl rfl rfl rfl (by omega) (by omega) (by omega) (Nat.le_of_ble_eq_true rfl) ?_
  refine j_aload_n (n := 16) dX10_name_15 rfl rfl ?_
  refine j_get (n := 19) 8 dX10_name_16 f_X10_42 rfl rfl rfl ?_
  refine j_if_eq (n := 22) 24 dX10_name_19 (by decide) rfl (fun c => ?_) (fun c => ?_)
  · obtain ⟨g1, g2, g3⟩ := jd_ok (N 4) 0 0 (by omega) (by omega) c
    refine j_aload_n (n := 25) dX10_name_24 rfl rfl ?_
    refine j_new (n := 28) 8 8 dX10_name_25 n_X10_139 rfl rfl (by omega) (by omega) (fs := [.null, .int 0, .null, .int 0, .int 0, .null, .null, .int 0]) rfl (fun a0 => ?_)
    refine j_perm _ (List.perm_append_singleton _ _) ?_
    refine j_dup (n := 29) dX10_name_28 rfl rfl ?_
    refine j_aload_n (n := 30) dX10_name_29 rfl rfl ?_
    refine j_get (n := 33) 9 dX10_name_30 f_X10_9 rfl rfl rfl ?_
    refine j_iload_n (n := 34) dX10_name_33 rfl rfl ?_
    refine j_callIv (n := 37) (Y1 := Y_X8_init) dX10_name_34 m_X10_141 cy_X8_init ci_X8_init rfl rfl (c_Text (q := 9) rfl (by omega)) rfl rfl rfl (by omega) (by omega) (by omega) (Nat.le_of_ble_eq_true rfl) (fun w h => ?_)
    obtain ⟨a1, a2, a3, a4, rfl⟩ := h
    rw [tdF_cpy]
    obtain ⟨r0, hr0⟩ : ∃ r : TR, r = ((fun i => [a0, a1, a2, a3, a4].getD i 0), N 4, tdF (F 9) (N 4), (fun _ => 0), 0, -1, (fun _ => 0), (fun _ => 0), -1) := ⟨_, rfl⟩
    have hsg : SGT (tdF (F 9) (N 4)) (N 4) := fun k hk => by
      obtain ⟨n, e1, e2, e3⟩ := sg_nat (g1 k (by omega) (by omega))
      exact ⟨n, by unfold tdF; rw [if_pos hk]; exact e1, e2, e3⟩
    have tk : TOK (F 12) (N 5) (N 1) (cCT N F) r0 := by
      rw [hr0]
      exact ⟨by show N 4 ≤ 40; omega, by show 1 ≤ N 4; omega, hsg, Nat.zero_le _, Or.inl rfl, fun h => absurd (show nI (N 5) = -1 from h.symm) (nI_nm1 (by omega)), Or.inl rfl, fun h => absurd (show nI (N 1) = -1 from h.symm) (nI_nm1 (by omega))⟩
    have k0 : r0.1 0 = a0 := by rw [hr0]; rfl
    have k1 : tLen r0 = N 4 := by rw [hr0]
    have k2 : tT r0 = tdF (F 9) (N 4) := by rw [hr0]
    refine j_perm _ (cw_text (r := r0) (by rw [hr0]; rfl)) ?_
    clear hr0
    subst k0
    have hT : (T ++ [r0])[T.length]? = some r0 := by simp
    refine j_put (n := 40) 8 dX10_name_37 f_X10_38 rfl rfl rfl (Nat.le_of_ble_eq_true rfl) rfl rfl ?_
    refine j_ws (ws' := cW G Q (va_up N 4 0) (va_up (va_up Z 1 (jdL (F 12) (F 9) (N 4) 0 0).1) 2 (jdL (F 12) (F 9) (N 4) 0 0).2) F (some (r0.1 0)) Ef (poolE G (T ++ [r0]) E tail)) rfl ?_
    refine j_aload_n (n := 41) dX10_name_40 rfl rfl ?_
    refine j_get (n := 44) 8 dX10_name_41 f_X10_38 rfl rfl rfl ?_
    refine j_aload_n (n := 45) dX10_name_44 rfl rfl ?_
    refine j_get (n := 48) 8 dX10_name_45 f_X10_20 rfl rfl rfl ?_
    refine j_callVv (n := 51) (Y1 := Y_X8_look) (5 * T.length + 0 + 24 + 8) dX10_name_48 m_X10_144 cy_X8_look ci_X8_look (c_lookT hT tk.1) rfl rfl rfl (tp_get (G := G) (tail := E.map eCell ++ tail) (c := 0) (by omega) (T ++ [r0]) T.length r0 hT) rfl (by omega) (by omega) (by omega) (Nat.le_of_ble_eq_true rfl) (fun w h => ?_)
    subst h
    obtain ⟨l1, l2⟩ := tk.look h1
    have kl := lookR_keep (F 12) (N 5) r0
    rw [show lookR (F 12) (va_up N 4 0 5) r0 = lookR (F 12) (N 5) r0 from rfl]
    generalize lookR (F 12) (N 5) r0 = r1 at l1 l2 kl ⊢
    rw [show (T ++ [r0]).set T.length r1 = T ++ [r1] by simp, ← kl.1]
    have hT1 : (T ++ [r1])[T.length]? = some r1 := by simp
    obtain ⟨s1, -⟩ := l1.2.2.2.2.2.1 l2
    refine j_aload_n (n := 52) dX10_name_51 rfl rfl ?_
    refine j_get (n := 55) 8 dX10_name_52 f_X10_38 rfl rfl rfl ?_
    refine j_getN (n := 58) (5 * T.length + 0 + 24 + 8) dX10_name_55 f_X10_148 rfl (tp_get (G := G) (tail := E.map eCell ++ tail) (c := 0) (by omega) (T ++ [r1]) T.length r1 hT1) rfl ?_
    have e1 : nI (tN r1) = nI (seeN (F 12) (tdF (F 9) (N 4)) (N 4)) := by rw [s1, kl.2.1, kl.2.2, k1, k2]
    exact j_iret dX10_name_58 rfl rfl (by omega) (by omega) (Or.inr ⟨c, e1, r1, rfl, l1, kl.2.1.trans k1, kl.2.2.trans k2⟩)
  · refine j_iconst (n := 23) (-1) dX10_name_22 rfl (by decide) ?_
    exact j_iret dX10_name_23 rfl rfl (by omega) (by omega) (Or.inl ⟨c, rfl, rfl⟩)
end NMX

/-! worlds in another order; the tape: judgeTape, name, putBytes, feed; rule -/
theorem jw_perm {G : GT} {ws ws' : va_W} {H : Heap} (hp : ws.Perm ws') (h : JW G ws H) : JW G ws' H := by
  have hm : ∀ (k : Nat) (q : Nat × va_E), ws'[k]? = some q → ∃ i, ws[i]? = some q := fun k q hq => by
    have h1 : q ∈ ws' := List.mem_of_getElem? hq
    exact List.getElem?_of_mem (hp.mem_iff.mpr h1)
  have hw : ws.Pairwise (fun p q => p.1 ≠ q.1) := by
    rw [List.pairwise_iff_getElem]
    intro i j hi hj hij e
    have := h.2.1 i j _ _ (List.getElem?_eq_getElem hi) (List.getElem?_eq_getElem hj) e
    omega
  have hw' : ws'.Pairwise (fun p q => p.1 ≠ q.1) := (hp.pairwise_iff (fun h => Ne.symm h)).mp hw
  rw [List.pairwise_iff_getElem] at hw'
  refine ⟨fun k q hq => ?_, fun i j p q hp' hq e => ?_, fun k q hq => ?_⟩
  · obtain ⟨i, hi⟩ := hm k q hq
    exact h.1 i q hi
  · have hi := gs_lt hp'
    have hj := gs_lt hq
    have e1 : ws'[i] = p := Option.some.inj ((List.getElem?_eq_getElem hi).symm.trans hp')
    have e2 : ws'[j] = q := Option.some.inj ((List.getElem?_eq_getElem hj).symm.trans hq)
    rcases Nat.lt_trichotomy i j with h1 | h1 | h1
    · exact absurd (by rw [e1, e2]; exact e) (hw' i j hi hj h1)
    · exact h1
    · exact absurd (by rw [e1, e2]; exact e.symm) (hw' j i hj hi h1)
  · obtain ⟨i, hi⟩ := hm k q hq
    exact h.2.2 i q hi
theorem j_perm {G : GT} {Y : YT} {d mc ms : Nat} {post : OT} {pc : Nat} {lv : List (Nat × Value)} {st : List Value} {ws : va_W} (ws' : va_W) {kc ks : Nat} (hp : ws.Perm ws') (kk : JJ G Y d mc ms post pc lv st ws' kc ks) : JJ G Y d mc ms post pc lv st ws kc ks :=
  j_world (fun _ _ h => jw_perm hp h) kk
theorem pm1 {α : Type} (A B l : List α) : ((A ++ B) ++ l).Perm (A ++ (l ++ B)) := by
  rw [List.append_assoc]; exact List.Perm.append_left A List.perm_append_comm
theorem pm2 {α : Type} (x : α) (A B l : List α) : (x :: (A ++ B) ++ l).Perm (A ++ ((x :: l) ++ B)) :=
  (List.perm_middle (a := x) (l₁ := A ++ B) (l₂ := l)).symm.trans (pm1 A B (x :: l))
/-- what is wrong with the tape: kind and place -/
def jdL (hw tp : Nat → Int32) : Nat → Nat → Nat → Int32 × Int32
  | 0, i, c => if c = 0 then (3, nI i) else if 24 < c then (4, nI i) else (0, -1)
  | n + 1, i, c => if sgB (tp i) = false then (1, nI i) else if 40 ≤ i then (2, nI i) else jdL hw tp n (i + 1) (if howF hw (tp i) = 0 then c + 1 else c)
theorem jd_ok {hw tp : Nat → Int32} : ∀ (n i c : Nat), c ≤ i → i ≤ 40 → (jdL hw tp n i c).1 = 0 → (∀ k, i ≤ k → k < i + n → sgB (tp k) = true) ∧ 1 ≤ i + n ∧ i + n ≤ 40 := by
  intro n
  induction n with
  | zero =>
    intro i c hc hi h
    unfold jdL at h
    split at h
    · cases h
    · exact ⟨fun k h1 h2 => absurd h1 (by omega), by omega, by omega⟩
  | succ n ih =>
    intro i c hc hi h
    unfold jdL at h
    split at h
    · cases h
    · rename_i h1
      split at h
      · cases h
      · obtain ⟨g1, g2, g3⟩ := ih (i + 1) _ (by split <;> omega) (by omega) h
        refine ⟨fun k h2 h3 => ?_, by omega, by omega⟩
        by_cases e : k = i
        · subst e; simpa using h1
        · exact g1 k (by omega) (by omega)
section TA
variable {G : GT} {Q N : Nat → Nat} {Z : Nat → Int32} {F : Nat → Nat → Int32} {nm : Option Nat} {Ef : Nat → Option Nat} {T : List TR} {E : List ER} {tail P : va_W}
theorem c_setFault {a b : Int32} : JV G Y_X10_setFault 0 0 0 [.ref (Q 8), .int a, .int b] (cW G Q N Z F nm Ef P) (cW G Q N (va_up (va_up Z 1 a) 2 b) F nm Ef P) := by
  refine JM.of [(0, .ref (Q 8)), (1, .int a), (2, .int b)] rfl rfl (by simp) (Nat.le_of_ble_eq_true rfl) (by decide +kernel) ?_
  refine j_aload_n (n := 1) dX10_setFault_0 rfl rfl ?_
  refine j_iload_n (n := 2) dX10_setFault_1 rfl rfl ?_
  refine j_put (n := 5) 8 dX10_setFault_2 f_X10_42 rfl rfl rfl (Nat.le_of_ble_eq_true rfl) rfl rfl ?_
  refine j_aload_n (n := 6) dX10_setFault_5 rfl rfl ?_
  refine j_iload_n (n := 7) dX10_setFault_6 rfl rfl ?_
  refine j_put (n := 10) 8 dX10_setFault_7 f_X10_45 rfl rfl rfl (Nat.le_of_ble_eq_true rfl) rfl rfl ?_
  exact j_vret dX10_setFault_10 rfl (by omega) (by omega) (rfl)
theorem jd_loop {tl : Nat} (ht : tl ≤ 200) : ∀ (n i c : Nat), i + n = tl → c ≤ i → i ≤ 40 → JJ G Y_X10_judgeTape 2 0 0 (Qv (fun w => w = cW G Q N (va_up (va_up Z 1 (jdL (F 12) (F 9) n i c).1) 2 (jdL (F 12) (F 9) n i c).2) F nm Ef P)) 4 [(0, .ref (Q 8)), (1, .int (nI tl)), (2, .int (nI c)), (3, .int (nI i))] [] (cW G Q N Z F nm Ef P) 0 0 := by
  intro n
  induction n with
  | zero =>
    intro i c hi hc h40
    have hfin : JJ G Y_X10_judgeTape 2 0 0 (Qv (fun w => w = cW G Q N (va_up (va_up Z 1 (jdL (F 12) (F 9) 0 i c).1) 2 (jdL (F 12) (F 9) 0 i c).2) F nm Ef P)) 78 [(0, .ref (Q 8)), (1, .int (nI tl)), (2, .int (nI c)), (3, .int (nI i))] [] (cW G Q N Z F nm Ef P) 0 0 := by
      obtain rfl : i = tl := by omega
      unfold jdL
      refine j_iload_n (n := 79) dX10_judgeTape_78 rfl rfl ?_
      refine j_if_ne (n := 82) 91 dX10_judgeTape_79 (by decide) rfl (fun d => ?_) (fun d => ?_)
      · have d0 : ¬ c = 0 := fun q => d (by rw [q]; rfl)
        rw [if_neg d0]
        refine j_iload_n (n := 92) dX10_judgeTape_91 rfl rfl ?_
        refine j_bipush (n := 94) (24) dX10_judgeTape_92 rfl (by decide) ?_
        refine j_icmp_le (n := 97) 106 dX10_judgeTape_94 (by decide) rfl (fun d2 => ?_) (fun d2 => ?_)
        · have d3 : ¬ 24 < c := fun q => absurd d2 (Int32.not_le.mpr (show nI 24 < nI c from nI_lt q (by omega)))
          rw [if_neg d3]
          refine j_aload_n (n := 107) dX10_judgeTape_106 rfl rfl ?_
          refine j_iconst (n := 108) (0) dX10_judgeTape_107 rfl (by decide) ?_
          refine j_iconst (n := 109) (-1) dX10_judgeTape_108 rfl (by decide) ?_
          refine j_callVw (n := 112) (Y1 := Y_X10_setFault) 8 dX10_judgeTape_109 m_X10_151 cy_X10_setFault ci_X10_setFault (c_setFault) rfl rfl rfl rfl rfl (by omega) (by omega) (by omega) (Nat.le_of_ble_eq_true rfl) ?_
          exact j_vret dX10_judgeTape_112 rfl (by omega) (by omega) (rfl)
        · have d3 : 24 < c := Decidable.byContradiction (fun q => d2 (show nI c ≤ nI 24 from nI_le (by omega) (by omega)))
          rw [if_pos d3]
          refine j_aload_n (n := 98) dX10_judgeTape_97 rfl rfl ?_
          refine j_iconst (n := 99) (4) dX10_judgeTape_98 rfl (by decide) ?_
          refine j_iload_n (n := 100) dX10_judgeTape_99 rfl rfl ?_
          refine j_callVw (n := 103) (Y1 := Y_X10_setFault) 8 dX10_judgeTape_100 m_X10_151 cy_X10_setFault ci_X10_setFault (c_setFault) rfl rfl rfl rfl rfl (by omega) (by omega) (by omega) (Nat.le_of_ble_eq_true rfl) ?_
          refine j_goto 112 dX10_judgeTape_103 (by decide) ?_
          exact j_vret dX10_judgeTape_112 rfl (by omega) (by omega) (rfl)
      · have d0 : c = 0 := (nI_eq (b := 0) (by omega) (by omega)).mp d
        rw [if_pos d0]
        refine j_aload_n (n := 83) dX10_judgeTape_82 rfl rfl ?_
        refine j_iconst (n := 84) (3) dX10_judgeTape_83 rfl (by decide) ?_
        refine j_iload_n (n := 85) dX10_judgeTape_84 rfl rfl ?_
        refine j_callVw (n := 88) (Y1 := Y_X10_setFault) 8 dX10_judgeTape_85 m_X10_151 cy_X10_setFault ci_X10_setFault (c_setFault) rfl rfl rfl rfl rfl (by omega) (by omega) (by omega) (Nat.le_of_ble_eq_true rfl) ?_
        refine j_goto 112 dX10_judgeTape_88 (by decide) ?_
        exact j_vret dX10_judgeTape_112 rfl (by omega) (by omega) (rfl)
    refine j_iload_n (n := 5) dX10_judgeTape_4 rfl rfl ?_
    refine j_iload_n (n := 6) dX10_judgeTape_5 rfl rfl ?_
    refine j_icmp_ge (n := 9) 78 dX10_judgeTape_6 (by decide) rfl (fun c1 => ?_) (fun c1 => ?_)
    · exact hfin
    · exact absurd (nI_le (show tl ≤ i by omega) (by omega)) c1
  | succ n ih =>
    intro i c hi hc h40
    unfold jdL
    refine j_iload_n (n := 5) dX10_judgeTape_4 rfl rfl ?_
    refine j_iload_n (n := 6) dX10_judgeTape_5 rfl rfl ?_
    refine j_icmp_ge (n := 9) 78 dX10_judgeTape_6 (by decide) rfl (fun c1 => ?_) (fun c1 => ?_)
    · exact absurd c1 (nI_ge (show i < tl by omega) (by omega))
    · refine j_iload_n (n := 10) dX10_judgeTape_9 rfl rfl ?_
      refine j_sipush (n := 13) (200) dX10_judgeTape_10 rfl (by decide) ?_
      refine j_icmp_ge (n := 16) 78 dX10_judgeTape_13 (by decide) rfl (fun c2 => ?_) (fun c2 => ?_)
      · exact absurd c2 (nI_ge (b := 200) (show i < 200 by omega) (by omega))
      · refine j_aload_n (n := 17) dX10_judgeTape_16 rfl rfl ?_
        refine j_get (n := 20) 8 dX10_judgeTape_17 f_X10_9 rfl rfl rfl ?_
        refine j_iload_n (n := 21) dX10_judgeTape_20 rfl rfl ?_
        refine j_iald (n := 22) 9 i dX10_judgeTape_21 rfl rfl rfl (by omega) (by omega) ?_
        refine j_istore (n := 24) dX10_judgeTape_22 rfl (by decide) ?_
        refine j_iload (n := 26) dX10_judgeTape_24 rfl rfl ?_
        refine j_callSe (n := 29) (Y1 := Y_X10_isSign) dX10_judgeTape_26 m_X10_98 cy_X10_isSign cs_X10_isSign (c_isSign) rfl rfl rfl (by omega) (by omega) (by omega) (Nat.le_of_ble_eq_true rfl) ?_
        refine j_if_ne (n := 32) 39 dX10_judgeTape_29 (by decide) rfl (fun c3 => ?_) (fun c3 => ?_)
        · have h1 := b01_n0 c3
          rw [if_neg (by rw [h1]; exact Bool.noConfusion)]
          refine j_iload_n (n := 40) dX10_judgeTape_39 rfl rfl ?_
          refine j_bipush (n := 42) (40) dX10_judgeTape_40 rfl (by decide) ?_
          refine j_icmp_lt (n := 45) 52 dX10_judgeTape_42 (by decide) rfl (fun c4 => ?_) (fun c4 => ?_)
          · have h2 : ¬ 40 ≤ i := fun q => absurd (show nI i < nI 40 from c4) (nI_nlt (by omega) (by omega))
            rw [if_neg h2]
            refine j_iload_n (n := 53) dX10_judgeTape_52 rfl rfl ?_
            refine j_aload_n (n := 54) dX10_judgeTape_53 rfl rfl ?_
            refine j_get (n := 57) 8 dX10_judgeTape_54 f_X10_20 rfl rfl rfl ?_
            refine j_iload (n := 59) dX10_judgeTape_57 rfl rfl ?_
            refine j_callVe (n := 62) (Y1 := Y_X7_howOf) 10 dX10_judgeTape_59 m_X10_155 cy_X7_howOf ci_X7_howOf (c_howOf 10 rfl 12 rfl) rfl rfl rfl rfl rfl (by omega) (by omega) (by omega) (Nat.le_of_ble_eq_true rfl) ?_
            refine j_if_ne (n := 65) 69 dX10_judgeTape_62 (by decide) rfl (fun c5 => ?_) (fun c5 => ?_)
            · rw [if_neg c5]
              refine j_iconst (n := 70) (0) dX10_judgeTape_69 rfl (by decide) ?_
              refine j_iadd (n := 71) dX10_judgeTape_70 rfl ?_
              refine j_top (nI c) (Int32.add_zero _) ?_
              refine j_istore_n (n := 72) dX10_judgeTape_71 rfl (by decide) ?_
              refine j_iinc (n := 75) (nI (i + 1)) dX10_judgeTape_72 rfl rfl (nI_inc i) (by decide) ?_
              refine j_goto 4 dX10_judgeTape_75 (by decide) ?_
              refine j_keep [0, 1, 2, 3] rfl ?_
              exact ih (i + 1) c (by omega) (by omega) (by omega)
            · rw [if_pos c5]
              refine j_iconst (n := 66) (1) dX10_judgeTape_65 rfl (by decide) ?_
              refine j_goto 70 dX10_judgeTape_66 (by decide) ?_
              refine j_iadd (n := 71) dX10_judgeTape_70 rfl ?_
              refine j_top (nI (c + 1)) (nI_inc c) ?_
              refine j_istore_n (n := 72) dX10_judgeTape_71 rfl (by decide) ?_
              refine j_iinc (n := 75) (nI (i + 1)) dX10_judgeTape_72 rfl rfl (nI_inc i) (by decide) ?_
              refine j_goto 4 dX10_judgeTape_75 (by decide) ?_
              refine j_keep [0, 1, 2, 3] rfl ?_
              exact ih (i + 1) (c + 1) (by omega) (by omega) (by omega)
          · have h2 : 40 ≤ i := Decidable.byContradiction (fun q => c4 (show nI i < nI 40 from nI_lt (by omega) (by omega)))
            rw [if_pos h2]
            refine j_aload_n (n := 46) dX10_judgeTape_45 rfl rfl ?_
            refine j_iconst (n := 47) (2) dX10_judgeTape_46 rfl (by decide) ?_
            refine j_iload_n (n := 48) dX10_judgeTape_47 rfl rfl ?_
            refine j_callVw (n := 51) (Y1 := Y_X10_setFault) 8 dX10_judgeTape_48 m_X10_151 cy_X10_setFault ci_X10_setFault (c_setFault) rfl rfl rfl rfl rfl (by omega) (by omega) (by omega) (Nat.le_of_ble_eq_true rfl) ?_
            exact j_vret dX10_judgeTape_51 rfl (by omega) (by omega) (rfl)
        · rw [if_pos (b01_0 c3)]
          refine j_aload_n (n := 33) dX10_judgeTape_32 rfl rfl ?_
          refine j_iconst (n := 34) (1) dX10_judgeTape_33 rfl (by decide) ?_
          refine j_iload_n (n := 35) dX10_judgeTape_34 rfl rfl ?_
          refine j_callVw (n := 38) (Y1 := Y_X10_setFault) 8 dX10_judgeTape_35 m_X10_151 cy_X10_setFault ci_X10_setFault (c_setFault) rfl rfl rfl rfl rfl (by omega) (by omega) (by omega) (Nat.le_of_ble_eq_true rfl) ?_
          exact j_vret dX10_judgeTape_38 rfl (by omega) (by omega) (rfl)
theorem c_judgeTape {tl : Nat} (ht : tl ≤ 200) : JV G Y_X10_judgeTape 2 0 0 [.ref (Q 8), .int (nI tl)] (cW G Q N Z F nm Ef P) (cW G Q N (va_up (va_up Z 1 (jdL (F 12) (F 9) tl 0 0).1) 2 (jdL (F 12) (F 9) tl 0 0).2) F nm Ef P) := by
  refine JM.of [(0, .ref (Q 8)), (1, .int (nI tl))] rfl rfl (by simp) (Nat.le_of_ble_eq_true rfl) (by decide +kernel) ?_
  refine j_iconst (n := 1) (0) dX10_judgeTape_0 rfl (by decide) ?_
  refine j_istore_n (n := 2) dX10_judgeTape_1 rfl (by decide) ?_
  refine j_iconst (n := 3) (0) dX10_judgeTape_2 rfl (by decide) ?_
  refine j_istore_n (n := 4) dX10_judgeTape_3 rfl (by decide) ?_
  exact jd_loop ht tl 0 0 (by omega) (by omega) (by omega)
end TA

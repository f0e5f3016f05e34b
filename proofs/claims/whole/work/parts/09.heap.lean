theorem uw0 : ∀ w ∈ u_ws RX0 TX0 4, w ∈ lw_tbl ∧ goodWord w = true := by decide +kernel
theorem uw1 : ∀ w ∈ u_ws RX1 TX1 2, w ∈ lw_tbl ∧ goodWord w = true := by decide +kernel
theorem uw2 : ∀ w ∈ u_ws RX2 TX2 3, w ∈ lw_tbl ∧ goodWord w = true := by decide +kernel
theorem uw3 : ∀ w ∈ u_ws RX3 TX3 2, w ∈ lw_tbl ∧ goodWord w = true := by decide +kernel
theorem uw4 : ∀ w ∈ u_ws RX4 TX4 11, w ∈ lw_tbl ∧ goodWord w = true := by decide +kernel
theorem uw5 : ∀ w ∈ u_ws RX5 TX5 3, w ∈ lw_tbl ∧ goodWord w = true := by decide +kernel
theorem uw6 : ∀ w ∈ u_ws RX6 TX6 2, w ∈ lw_tbl ∧ goodWord w = true := by decide +kernel
theorem uw7 : ∀ w ∈ u_ws RX7 TX7 3, w ∈ lw_tbl ∧ goodWord w = true := by decide +kernel
theorem uw8 : ∀ w ∈ u_ws RX8 TX8 8, w ∈ lw_tbl ∧ goodWord w = true := by decide +kernel
theorem uw9 : ∀ w ∈ u_ws RX9 TX9 4, w ∈ lw_tbl ∧ goodWord w = true := by decide +kernel
theorem uw10 : ∀ w ∈ u_ws RX10 TX10 15, w ∈ lw_tbl ∧ goodWord w = true := by decide +kernel
theorem uw11 : ∀ w ∈ u_ws RX11 TX11 42, w ∈ lw_tbl ∧ goodWord w = true := by decide +kernel
theorem uw_all (ci : Nat) (q : vw_C) (h : vwCl[ci]? = some q) : ∀ w ∈ u_ws q.1 q.2.1 q.2.2, w ∈ BW := by
  have key : ∀ w ∈ u_ws q.1 q.2.1 q.2.2, w ∈ lw_tbl ∧ goodWord w = true := by
    match ci, h with
    | 0, h => cases h; exact uw0
    | 1, h => cases h; exact uw1
    | 2, h => cases h; exact uw2
    | 3, h => cases h; exact uw3
    | 4, h => cases h; exact uw4
    | 5, h => cases h; exact uw5
    | 6, h => cases h; exact uw6
    | 7, h => cases h; exact uw7
    | 8, h => cases h; exact uw8
    | 9, h => cases h; exact uw9
    | 10, h => cases h; exact uw10
    | 11, h => cases h; exact uw11
    | k + 12, h => simp [vwCl] at h
  exact fun w hw => List.mem_filter.mpr (key w hw)
def tyq (ci : Nat) : Nat → FieldType := match ci with
  | 0 => tyX0
  | 1 => tyX1
  | 2 => tyX2
  | 3 => tyX3
  | 4 => tyX4
  | 5 => tyX5
  | 6 => tyX6
  | 7 => tyX7
  | 8 => tyX8
  | 9 => tyX9
  | 10 => tyX10
  | 11 => tyX11
  | _ => fun _ => .int
theorem tyq_ok (ci : Nat) (q : vw_C) (h : vwCl[ci]? = some q) : ∀ k, k < q.2.2 → parseFieldDescriptor (q.2.1 k).2.2.1 = some (tyq ci k) := by
  match ci, h with
  | 0, h => cases h; exact tyX0_ok
  | 1, h => cases h; exact tyX1_ok
  | 2, h => cases h; exact tyX2_ok
  | 3, h => cases h; exact tyX3_ok
  | 4, h => cases h; exact tyX4_ok
  | 5, h => cases h; exact tyX5_ok
  | 6, h => cases h; exact tyX6_ok
  | 7, h => cases h; exact tyX7_ok
  | 8, h => cases h; exact tyX8_ok
  | 9, h => cases h; exact tyX9_ok
  | 10, h => cases h; exact tyX10_ok
  | 11, h => cases h; exact tyX11_ok
  | k + 12, h => simp [vwCl] at h
theorem nmq_ok (ci : Nat) (q : vw_C) (h : vwCl[ci]? = some q) : ∀ a, a < q.2.2 → ∀ b, b < q.2.2 → a ≠ b → (q.2.1 a).2.1 ≠ (q.2.1 b).2.1 := by
  match ci, h with
  | 0, h => cases h; exact nmX0
  | 1, h => cases h; exact nmX1
  | 2, h => cases h; exact nmX2
  | 3, h => cases h; exact nmX3
  | 4, h => cases h; exact nmX4
  | 5, h => cases h; exact nmX5
  | 6, h => cases h; exact nmX6
  | 7, h => cases h; exact nmX7
  | 8, h => cases h; exact nmX8
  | 9, h => cases h; exact nmX9
  | 10, h => cases h; exact nmX10
  | 11, h => cases h; exact nmX11
  | k + 12, h => simp [vwCl] at h
/-- the field of a class that a pool entry names -/
def FG (own : String) (idx ci k : Nat) : Prop := ∃ q : vw_C, vwCl[ci]? = some q ∧ k < q.2.2 ∧ Cond.fieldLink own idx (q.2.1 k).1 (q.2.1 k).2.1 (q.2.1 k).2.2.1 ∈ BW
def FGN (own : String) (idx ci k : Nat) : Prop := ∃ (q : vw_C) (host : String), vwCl[ci]? = some q ∧ k < q.2.2 ∧ Cond.fieldLinkNest own idx (q.2.1 k).1 (q.2.1 k).2.1 (q.2.1 k).2.2.1 host ∈ NW
/-- it is final (declared here), or not -/
def fin (ci k : Nat) : Option Bool := (vwCl[ci]?).map (fun q => (q.2.1 k).2.2.2)
section JH
variable {G : GT} {Y : YT} {d mc ms : Nat} {post : OT} {pc n : Nat} {lv : List (Nat × Value)} {st : List Value} {ws : va_W} {kc ks : Nat}
theorem j_get {idx ci k a : Nat} (q : Nat) {fs : List Value} {v : Value} (hd : decode Y.2.1 pc = .ok (.getfield idx, 3)) (hF : FG Y.1.cls idx ci k) (hn : pc + 3 = n) (he : ws[q]? = some (a, .inr (ci, fs))) (hv : fs[k]? = some v) (kk : JJ G Y d mc ms post n lv (v :: st) ws kc ks) : JJ G Y d mc ms post pc lv (.ref a :: st) ws kc ks := by
  subst hn
  obtain ⟨⟨C0, T, N⟩, hc, hk, hl⟩ := hF
  intro p e s m args below meth c H locs ls C hS hW hlv
  exact va_get (T := T) C.1 C.2.1 C.2.2.2.2.2.2.2.1 (uw_all ci _ hc) C.2.2.2.2.2.2.1 C.2.2.2.2.2.2.2.2.1.2.1 hW.1 q he hc k hk (C.2.2.2.2.2.2.2.1 _ hl) (fun _ h => h) hv hd (kk p e s m args below meth c H locs ls C hS hW hlv)
theorem j_getN {idx ci k a : Nat} (q : Nat) {fs : List Value} {v : Value} (hd : decode Y.2.1 pc = .ok (.getfield idx, 3)) (hF : FGN Y.1.cls idx ci k) (hn : pc + 3 = n) (he : ws[q]? = some (a, .inr (ci, fs))) (hv : fs[k]? = some v) (kk : JJ G Y d mc ms post n lv (v :: st) ws kc ks) : JJ G Y d mc ms post pc lv (.ref a :: st) ws kc ks := by
  subst hn
  obtain ⟨⟨C0, T, N⟩, host, hc, hk, hl⟩ := hF
  intro p e s m args below meth c H locs ls C hS hW hlv
  exact va_getN (T := T) (host := host) C.1 C.2.1 C.2.2.2.2.2.2.2.1 (uw_all ci _ hc) C.2.2.2.2.2.2.1 C.2.2.2.2.2.2.2.2.1.2.1 hW.1 q he hc k hk (va_Nw.use rfl (C.2.2.2.2.2.2.2.2.1.2.2.1 _ hl)) (fun _ h => h) hv hd (kk p e s m args below meth c H locs ls C hS hW hlv)
theorem j_put {idx ci k a : Nat} (q : Nat) {fs : List Value} {v : Value} (hd : decode Y.2.1 pc = .ok (.putfield idx, 3)) (hF : FG Y.1.cls idx ci k) (hn : pc + 3 = n) (hf : fin ci k = some false) (he : ws[q]? = some (a, .inr (ci, fs))) (hl : k < fs.length) (hnr : narrow (tyq ci k) v = v) (hft : fits (tyq ci k) v = true) (kk : JJ G Y d mc ms post n lv st (ws.set q (a, .inr (ci, fs.set k v))) kc ks) : JJ G Y d mc ms post pc lv (v :: .ref a :: st) ws kc ks := by
  subst hn
  obtain ⟨⟨C0, T, N⟩, hc, hk, hlk⟩ := hF
  have hf : (T k).2.2.2 = false := by unfold fin at hf; rw [hc] at hf; exact Option.some.inj hf
  intro p e s m args below meth c H locs ls C hS hW hlv
  exact va_put (T := T) C.1 C.2.1 C.2.2.2.2.2.2.2.1 (uw_all ci _ hc) (tyq ci) (tyq_ok ci _ hc) (nmq_ok ci _ hc) C.2.2.2.2.2.2.1 C.2.2.2.2.2.2.2.2.1.2.1 hW.1 hW.2 hS q he hc k hk (C.2.2.2.2.2.2.2.1 _ hlk) (fun _ h => h) hf (tyq_ok ci _ hc k hk) hnr hft hl hd (fun H1 locs1 hP hD hS1 => kk p e s m args below meth c H1 locs1 ls C hS1 ⟨hP, hD⟩ hlv)
theorem j_putN {idx ci k a : Nat} (q : Nat) {fs : List Value} {v : Value} (hd : decode Y.2.1 pc = .ok (.putfield idx, 3)) (hF : FGN Y.1.cls idx ci k) (hn : pc + 3 = n) (hf : fin ci k = some false) (he : ws[q]? = some (a, .inr (ci, fs))) (hl : k < fs.length) (hnr : narrow (tyq ci k) v = v) (hft : fits (tyq ci k) v = true) (kk : JJ G Y d mc ms post n lv st (ws.set q (a, .inr (ci, fs.set k v))) kc ks) : JJ G Y d mc ms post pc lv (v :: .ref a :: st) ws kc ks := by
  subst hn
  obtain ⟨⟨C0, T, N⟩, host, hc, hk, hlk⟩ := hF
  have hf : (T k).2.2.2 = false := by unfold fin at hf; rw [hc] at hf; exact Option.some.inj hf
  intro p e s m args below meth c H locs ls C hS hW hlv
  exact va_putN (T := T) (host := host) C.1 C.2.1 C.2.2.2.2.2.2.2.1 (uw_all ci _ hc) (tyq ci) (tyq_ok ci _ hc) (nmq_ok ci _ hc) C.2.2.2.2.2.2.1 C.2.2.2.2.2.2.2.2.1.2.1 hW.1 hW.2 hS q he hc k hk (va_Nw.use rfl (C.2.2.2.2.2.2.2.2.1.2.2.1 _ hlk)) (fun _ h => h) hf (tyq_ok ci _ hc k hk) hnr hft hl hd (fun H1 locs1 hP hD hS1 => kk p e s m args below meth c H1 locs1 ls C hS1 ⟨hP, hD⟩ hlv)
/-- a final field, in its class's own constructor -/
theorem j_putF {idx ci k a : Nat} (q : Nat) {fs : List Value} {v : Value} (hd : decode Y.2.1 pc = .ok (.putfield idx, 3)) (hF : FG Y.1.cls idx ci k) (hn : pc + 3 = n) (hf : fin ci k = some true) (hin : Y.1.name = "<init>") (ho : ∀ q : vw_C, vwCl[ci]? = some q → (q.2.1 k).1 = Y.1.cls) (he : ws[q]? = some (a, .inr (ci, fs))) (hl : k < fs.length) (hnr : narrow (tyq ci k) v = v) (hft : fits (tyq ci k) v = true) (kk : JJ G Y d mc ms post n lv st (ws.set q (a, .inr (ci, fs.set k v))) kc ks) : JJ G Y d mc ms post pc lv (v :: .ref a :: st) ws kc ks := by
  subst hn
  obtain ⟨⟨C0, T, N⟩, hc, hk, hlk⟩ := hF
  have hf : (T k).2.2.2 = true := by unfold fin at hf; rw [hc] at hf; exact Option.some.inj hf
  intro p e s m args below meth c H locs ls C hS hW hlv
  exact va_putF (T := T) C.1 C.2.1 C.2.2.2.2.2.2.2.1 (uw_all ci _ hc) (tyq ci) (tyq_ok ci _ hc) (nmq_ok ci _ hc) C.2.2.2.2.2.2.1 C.2.2.2.2.2.2.2.2.1.2.1 hW.1 hW.2 hS q he hc k hk (C.2.2.2.2.2.2.2.1 _ hlk) (fun _ h => h) hf (C.2.2.2.2.2.1.trans hin) (ho _ hc) (tyq_ok ci _ hc k hk) hnr hft hl hd (fun H1 locs1 hP hD hS1 => kk p e s m args below meth c H1 locs1 ls C hS1 ⟨hP, hD⟩ hlv)
theorem nI_ix {i : Int32} {j N : Nat} (hi : i = nI j) (hj : j < N) (hN : N < 2147483648) : vp_in i N ∧ i.toNatClampNeg = j := by
  subst hi
  exact ⟨vp_in_nI hj hN, nI_clamp (Nat.lt_trans hj hN)⟩
theorem j_iald (q j : Nat) {a N : Nat} {f : Nat → Int32} {i : Int32} (hd : decode Y.2.1 pc = .ok (.iaload, 1)) (hn : pc + 1 = n) (he : ws[q]? = some (a, .inl (gI G, N, .inl f))) (hi : i = nI j) (hj : j < N) (hN : N < 2147483648) (kk : JJ G Y d mc ms post n lv (.int (f j) :: st) ws kc ks) : JJ G Y d mc ms post pc lv (.int i :: .ref a :: st) ws kc ks := by
  subst hn
  obtain ⟨h1, h2⟩ := nI_ix hi hj hN
  intro p e s m args below meth c H locs ls C hS hW hlv
  exact va_iald C.1 C.2.1 C.2.2.2.2.2.2.2.2.1.2.1 hW.1 q 0 he C.2.2.2.2.2.2.2.2.1.1.1 h1 hd (by rw [h2]; exact kk p e s m args below meth c H locs ls C hS hW hlv)
theorem j_bald (q j : Nat) {a N : Nat} {f : Nat → Int32} {i : Int32} (hd : decode Y.2.1 pc = .ok (.baload, 1)) (hn : pc + 1 = n) (he : ws[q]? = some (a, .inl (gB G, N, .inl f))) (hi : i = nI j) (hj : j < N) (hN : N < 2147483648) (kk : JJ G Y d mc ms post n lv (.int (f j) :: st) ws kc ks) : JJ G Y d mc ms post pc lv (.int i :: .ref a :: st) ws kc ks := by
  subst hn
  obtain ⟨h1, h2⟩ := nI_ix hi hj hN
  intro p e s m args below meth c H locs ls C hS hW hlv
  exact va_bald C.1 C.2.1 C.2.2.2.2.2.2.2.2.1.2.1 hW.1 q 1 he C.2.2.2.2.2.2.2.2.1.1.2.1 h1 hd (by rw [h2]; exact kk p e s m args below meth c H locs ls C hS hW hlv)
theorem j_zald (q j : Nat) {a N : Nat} {f : Nat → Int32} {i : Int32} (hd : decode Y.2.1 pc = .ok (.baload, 1)) (hn : pc + 1 = n) (he : ws[q]? = some (a, .inl (gZ G, N, .inl f))) (hi : i = nI j) (hj : j < N) (hN : N < 2147483648) (kk : JJ G Y d mc ms post n lv (.int (f j) :: st) ws kc ks) : JJ G Y d mc ms post pc lv (.int i :: .ref a :: st) ws kc ks := by
  subst hn
  obtain ⟨h1, h2⟩ := nI_ix hi hj hN
  intro p e s m args below meth c H locs ls C hS hW hlv
  exact va_zald C.1 C.2.1 C.2.2.2.2.2.2.2.2.1.2.1 hW.1 q 2 he C.2.2.2.2.2.2.2.2.1.1.2.2.1 h1 hd (by rw [h2]; exact kk p e s m args below meth c H locs ls C hS hW hlv)
theorem j_iast (q j : Nat) {a N : Nat} {f : Nat → Int32} {i x : Int32} (hd : decode Y.2.1 pc = .ok (.iastore, 1)) (hn : pc + 1 = n) (he : ws[q]? = some (a, .inl (gI G, N, .inl f))) (hi : i = nI j) (hj : j < N) (hN : N < 2147483648) (kk : JJ G Y d mc ms post n lv st (ws.set q (a, .inl (gI G, N, .inl (upd f j x)))) kc ks) : JJ G Y d mc ms post pc lv (.int x :: .int i :: .ref a :: st) ws kc ks := by
  subst hn
  obtain ⟨h1, h2⟩ := nI_ix hi hj hN
  intro p e s m args below meth c H locs ls C hS hW hlv
  exact va_iast C.1 C.2.1 C.2.2.2.2.2.2.2.2.1.2.1 hW.1 hW.2 hS q 0 he C.2.2.2.2.2.2.2.2.1.1.1 h1 hd (by rw [h2]; exact fun H1 locs1 hP hD hS1 => kk p e s m args below meth c H1 locs1 ls C hS1 ⟨hP, hD⟩ hlv)
theorem j_bast (q j : Nat) {a N : Nat} {f : Nat → Int32} {i x : Int32} (hd : decode Y.2.1 pc = .ok (.bastore, 1)) (hn : pc + 1 = n) (he : ws[q]? = some (a, .inl (gB G, N, .inl f))) (hi : i = nI j) (hj : j < N) (hN : N < 2147483648) (kk : JJ G Y d mc ms post n lv st (ws.set q (a, .inl (gB G, N, .inl (upd f j (vp_nar .byte x))))) kc ks) : JJ G Y d mc ms post pc lv (.int x :: .int i :: .ref a :: st) ws kc ks := by
  subst hn
  obtain ⟨h1, h2⟩ := nI_ix hi hj hN
  intro p e s m args below meth c H locs ls C hS hW hlv
  exact va_bast C.1 C.2.1 C.2.2.2.2.2.2.2.2.1.2.1 hW.1 hW.2 hS q 1 he C.2.2.2.2.2.2.2.2.1.1.2.1 h1 hd (by rw [h2]; exact fun H1 locs1 hP hD hS1 => kk p e s m args below meth c H1 locs1 ls C hS1 ⟨hP, hD⟩ hlv)
theorem j_zast (q j : Nat) {a N : Nat} {f : Nat → Int32} {i x : Int32} (hd : decode Y.2.1 pc = .ok (.bastore, 1)) (hn : pc + 1 = n) (he : ws[q]? = some (a, .inl (gZ G, N, .inl f))) (hi : i = nI j) (hj : j < N) (hN : N < 2147483648) (kk : JJ G Y d mc ms post n lv st (ws.set q (a, .inl (gZ G, N, .inl (upd f j (vp_nar .boolean x))))) kc ks) : JJ G Y d mc ms post pc lv (.int x :: .int i :: .ref a :: st) ws kc ks := by
  subst hn
  obtain ⟨h1, h2⟩ := nI_ix hi hj hN
  intro p e s m args below meth c H locs ls C hS hW hlv
  exact va_zast C.1 C.2.1 C.2.2.2.2.2.2.2.2.1.2.1 hW.1 hW.2 hS q 2 he C.2.2.2.2.2.2.2.2.1.1.2.2.1 h1 hd (by rw [h2]; exact fun H1 locs1 hP hD hS1 => kk p e s m args below meth c H1 locs1 ls C hS1 ⟨hP, hD⟩ hlv)
theorem j_aaldR (q j : Nat) {a N : Nat} {f : Nat → Option Nat} {i : Int32} (hd : decode Y.2.1 pc = .ok (.aaload, 1)) (hn : pc + 1 = n) (he : ws[q]? = some (a, .inl (gR G, N, .inr (.inr (.inr (.inr f)))))) (hi : i = nI j) (hj : j < N) (hN : N < 2147483648) (kk : JJ G Y d mc ms post n lv (va_rf (f j) :: st) ws kc ks) : JJ G Y d mc ms post pc lv (.int i :: .ref a :: st) ws kc ks := by
  subst hn
  obtain ⟨h1, h2⟩ := nI_ix hi hj hN
  intro p e s m args below meth c H locs ls C hS hW hlv
  exact va_aldq C.1 C.2.1 C.2.2.2.2.2.2.2.2.1.2.1 hW.1 q 3 he C.2.2.2.2.2.2.2.2.1.1.2.2.2.1 h1 hd (by rw [h2]; exact kk p e s m args below meth c H locs ls C hS hW hlv)
theorem j_aastR (q j qk : Nat) {a N v : Nat} {vs : List Value} {f : Nat → Option Nat} {i : Int32} (hd : decode Y.2.1 pc = .ok (.aastore, 1)) (hn : pc + 1 = n) (he : ws[q]? = some (a, .inl (gR G, N, .inr (.inr (.inr (.inr f)))))) (hv : ws[qk]? = some (v, .inr (5, vs))) (hi : i = nI j) (hj : j < N) (hN : N < 2147483648) (kk : JJ G Y d mc ms post n lv st (ws.set q (a, .inl (gR G, N, .inr (.inr (.inr (.inr (va_up f j (some v)))))))) kc ks) : JJ G Y d mc ms post pc lv (.ref v :: .int i :: .ref a :: st) ws kc ks := by
  subst hn
  obtain ⟨h1, h2⟩ := nI_ix hi hj hN
  intro p e s m args below meth c H locs ls C hS hW hlv
  exact va_astq (r := (RX5, TX5, 3)) C.1 C.2.1 C.2.2.2.2.2.2.2.2.1.2.1 hW.1 hW.2 hS q 3 qk 5 he C.2.2.2.2.2.2.2.2.1.1.2.2.2.1 hv rfl h1 hd (by rw [h2]; exact fun H1 locs1 hP hD hS1 => kk p e s m args below meth c H1 locs1 ls C hS1 ⟨hP, hD⟩ hlv)
theorem j_aaldE (q j : Nat) {a N : Nat} {f : Nat → Option Nat} {i : Int32} (hd : decode Y.2.1 pc = .ok (.aaload, 1)) (hn : pc + 1 = n) (he : ws[q]? = some (a, .inl (gE G, N, .inr (.inr (.inr (.inr f)))))) (hi : i = nI j) (hj : j < N) (hN : N < 2147483648) (kk : JJ G Y d mc ms post n lv (va_rf (f j) :: st) ws kc ks) : JJ G Y d mc ms post pc lv (.int i :: .ref a :: st) ws kc ks := by
  subst hn
  obtain ⟨h1, h2⟩ := nI_ix hi hj hN
  intro p e s m args below meth c H locs ls C hS hW hlv
  exact va_aldq C.1 C.2.1 C.2.2.2.2.2.2.2.2.1.2.1 hW.1 q 4 he C.2.2.2.2.2.2.2.2.1.1.2.2.2.2 h1 hd (by rw [h2]; exact kk p e s m args below meth c H locs ls C hS hW hlv)
theorem j_aastE (q j qk : Nat) {a N v : Nat} {vs : List Value} {f : Nat → Option Nat} {i : Int32} (hd : decode Y.2.1 pc = .ok (.aastore, 1)) (hn : pc + 1 = n) (he : ws[q]? = some (a, .inl (gE G, N, .inr (.inr (.inr (.inr f)))))) (hv : ws[qk]? = some (v, .inr (0, vs))) (hi : i = nI j) (hj : j < N) (hN : N < 2147483648) (kk : JJ G Y d mc ms post n lv st (ws.set q (a, .inl (gE G, N, .inr (.inr (.inr (.inr (va_up f j (some v)))))))) kc ks) : JJ G Y d mc ms post pc lv (.ref v :: .int i :: .ref a :: st) ws kc ks := by
  subst hn
  obtain ⟨h1, h2⟩ := nI_ix hi hj hN
  intro p e s m args below meth c H locs ls C hS hW hlv
  exact va_astq (r := (RX0, TX0, 4)) C.1 C.2.1 C.2.2.2.2.2.2.2.2.1.2.1 hW.1 hW.2 hS q 4 qk 0 he C.2.2.2.2.2.2.2.2.1.1.2.2.2.2 hv rfl h1 hd (by rw [h2]; exact fun H1 locs1 hP hD hS1 => kk p e s m args below meth c H1 locs1 ls C hS1 ⟨hP, hD⟩ hlv)
theorem j_alen (q : Nat) {a N : Nat} {f : Nat → Int32} (hd : decode Y.2.1 pc = .ok (.arraylength, 1)) (hn : pc + 1 = n) (he : ws[q]? = some (a, .inl (gI G, N, .inl f))) (kk : JJ G Y d mc ms post n lv (.int (nI N) :: st) ws kc ks) : JJ G Y d mc ms post pc lv (.ref a :: st) ws kc ks := by
  subst hn
  intro p e s m args below meth c H locs ls C hS hW hlv
  exact va_alen C.1 C.2.1 C.2.2.2.2.2.2.2.2.1.2.1 hW.1 q 0 he C.2.2.2.2.2.2.2.2.1.1.1 rfl hd (kk p e s m args below meth c H locs ls C hS hW hlv)
theorem nI_new {N : Nat} (h : N < 134217728) : ¬ nI N < 0 ∧ (nI N).toNatClampNeg = N := ⟨nI_pos (by omega), nI_clamp (by omega)⟩
theorem aw_newi : Cond.arrayClass .int ∈ BW := by
  refine List.mem_filter.mpr ⟨?_, rfl⟩
  decide +kernel
theorem j_newi (N : Nat) {i : Int32} (hd : decode Y.2.1 pc = .ok (.newarray .int, 2)) (hn : pc + 2 = n) (hi : i = nI N) (hN : N < 134217728) (h1 : kc + 1 ≤ mc) (h2 : ks + N ≤ ms) (kk : ∀ a : Nat, JJ G Y d mc ms post n lv (.ref a :: st) (ws ++ [(a, .inl (gI G, N, .inl (fun _ => 0)))]) (kc + 1) (ks + N)) : JJ G Y d mc ms post pc lv (.int i :: st) ws kc ks := by
  subst hn
  subst hi
  intro p e s m args below meth c H locs ls C hS hW hlv
  have hK := C.2.2.2.2.2.2.2.2.1.2.1
  have hz := C.2.2.2.2.2.2.2.2.2
  have ht := C.2.2.2.2.2.2.2.2.1.1.1
  refine va_newa (atype := .int) (ty := .int) (a0 := (N, .inl (fun _ => 0))) C.1 C.2.1 (C.2.2.2.2.2.2.2.1 _ aw_newi) rfl hK hW.1 hW.2 hS (fun q h => Nat.le_trans hz h) (fun _ => rfl) (nI_new hN).1 (nI_new hN).2 (by simp only [componentBytes]; omega) h1 h2 hd (fun q cA H1 hK1 hP hD hS1 => ?_)
  have e1 := (hK1.2 G.2.2.1.length (cA, .int) (by rw [List.getElem?_append_right (Nat.le_refl _), Nat.sub_self]; rfl)).2
  have e2 := (hK.2 0 _ ht).2
  have e3 : cA = gI G := Option.some.inj (Eq.trans (Eq.symm e1) e2)
  subst e3
  exact kk q p e s m args below meth c H1 locs ls C hS1 ⟨hP, hD⟩ hlv
theorem aw_newb : Cond.arrayClass .byte ∈ BW := by
  refine List.mem_filter.mpr ⟨?_, rfl⟩
  decide +kernel
theorem j_newb (N : Nat) {i : Int32} (hd : decode Y.2.1 pc = .ok (.newarray .byte, 2)) (hn : pc + 2 = n) (hi : i = nI N) (hN : N < 134217728) (h1 : kc + 1 ≤ mc) (h2 : ks + N ≤ ms) (kk : ∀ a : Nat, JJ G Y d mc ms post n lv (.ref a :: st) (ws ++ [(a, .inl (gB G, N, .inl (fun _ => 0)))]) (kc + 1) (ks + N)) : JJ G Y d mc ms post pc lv (.int i :: st) ws kc ks := by
  subst hn
  subst hi
  intro p e s m args below meth c H locs ls C hS hW hlv
  have hK := C.2.2.2.2.2.2.2.2.1.2.1
  have hz := C.2.2.2.2.2.2.2.2.2
  have ht := C.2.2.2.2.2.2.2.2.1.1.2.1
  refine va_newa (atype := .byte) (ty := .byte) (a0 := (N, .inl (fun _ => 0))) C.1 C.2.1 (C.2.2.2.2.2.2.2.1 _ aw_newb) rfl hK hW.1 hW.2 hS (fun q h => Nat.le_trans hz h) (fun _ => rfl) (nI_new hN).1 (nI_new hN).2 (by simp only [componentBytes]; omega) h1 h2 hd (fun q cA H1 hK1 hP hD hS1 => ?_)
  have e1 := (hK1.2 G.2.2.1.length (cA, .byte) (by rw [List.getElem?_append_right (Nat.le_refl _), Nat.sub_self]; rfl)).2
  have e2 := (hK.2 1 _ ht).2
  have e3 : cA = gB G := Option.some.inj (Eq.trans (Eq.symm e1) e2)
  subst e3
  exact kk q p e s m args below meth c H1 locs ls C hS1 ⟨hP, hD⟩ hlv
theorem aw_newz : Cond.arrayClass .boolean ∈ BW := by
  refine List.mem_filter.mpr ⟨?_, rfl⟩
  decide +kernel
theorem j_newz (N : Nat) {i : Int32} (hd : decode Y.2.1 pc = .ok (.newarray .boolean, 2)) (hn : pc + 2 = n) (hi : i = nI N) (hN : N < 134217728) (h1 : kc + 1 ≤ mc) (h2 : ks + N ≤ ms) (kk : ∀ a : Nat, JJ G Y d mc ms post n lv (.ref a :: st) (ws ++ [(a, .inl (gZ G, N, .inl (fun _ => 0)))]) (kc + 1) (ks + N)) : JJ G Y d mc ms post pc lv (.int i :: st) ws kc ks := by
  subst hn
  subst hi
  intro p e s m args below meth c H locs ls C hS hW hlv
  have hK := C.2.2.2.2.2.2.2.2.1.2.1
  have hz := C.2.2.2.2.2.2.2.2.2
  have ht := C.2.2.2.2.2.2.2.2.1.1.2.2.1
  refine va_newa (atype := .boolean) (ty := .boolean) (a0 := (N, .inl (fun _ => 0))) C.1 C.2.1 (C.2.2.2.2.2.2.2.1 _ aw_newz) rfl hK hW.1 hW.2 hS (fun q h => Nat.le_trans hz h) (fun _ => rfl) (nI_new hN).1 (nI_new hN).2 (by simp only [componentBytes]; omega) h1 h2 hd (fun q cA H1 hK1 hP hD hS1 => ?_)
  have e1 := (hK1.2 G.2.2.1.length (cA, .boolean) (by rw [List.getElem?_append_right (Nat.le_refl _), Nat.sub_self]; rfl)).2
  have e2 := (hK.2 2 _ ht).2
  have e3 : cA = gZ G := Option.some.inj (Eq.trans (Eq.symm e1) e2)
  subst e3
  exact kk q p e s m args below meth c H1 locs ls C hS1 ⟨hP, hD⟩ hlv
/-- a class that a pool entry names, to be made -/
def NC (own : String) (idx ci : Nat) : Prop := ∃ q : vw_C, vwCl[ci]? = some q ∧ Cond.classLink own idx q.1 ∈ BW ∧ Cond.instantiable q.1 q.2.2 ∈ BW ∧ Cond.initialized q.1 ∈ BW
def dfl (ci N : Nat) : List Value := (List.range N).map (fun k => defaultValue (tyq ci k))
theorem j_new (ci N : Nat) {idx : Nat} (hd : decode Y.2.1 pc = .ok (.new idx, 3)) (hF : NC Y.1.cls idx ci) (hn : pc + 3 = n) (hN : (vwCl[ci]?).map (fun q => q.2.2) = some N) (h1 : kc + 1 ≤ mc) (h2 : ks + N ≤ ms) {fs : List Value} (hfs : dfl ci N = fs) (kk : ∀ a : Nat, JJ G Y d mc ms post n lv (.ref a :: st) (ws ++ [(a, .inr (ci, fs))]) (kc + 1) (ks + N)) : JJ G Y d mc ms post pc lv st ws kc ks := by
  subst hn
  subst hfs
  obtain ⟨⟨C0, T, M⟩, hc, w1, w2, w3⟩ := hF
  have hM : M = N := by rw [hc] at hN; exact Option.some.inj hN
  subst hM
  intro p e s m args below meth c H locs ls C hS hW hlv
  have hK := C.2.2.2.2.2.2.2.2.1.2.1
  have hz := C.2.2.2.2.2.2.2.2.2
  have ht := C.2.2.2.2.2.2.2.1
  refine va_new (T := T) C.1 C.2.1 ht (uw_all ci _ hc) (tyq ci) (tyq_ok ci _ hc) C.2.2.2.2.2.2.1 (ht _ w1) (ht _ w2) (ht _ w3) hK hW.1 hW.2 hS (fun q h => Nat.le_trans hz h) hc (fs := dfl ci M) (fun j hj => ?_) h1 h2 hd (fun q H1 hP hD hS1 => kk q p e s m args below meth c H1 locs ls C hS1 ⟨hP, hD⟩ hlv)
  unfold vp_V dfl
  rw [List.getD_eq_getElem?_getD, List.getElem?_map, List.getElem?_range hj]
  rfl
theorem j_newR (N : Nat) {idx : Nat} {i : Int32} (hd : decode Y.2.1 pc = .ok (.anewarray idx, 3)) (hF : Cond.classLink Y.1.cls idx RX5 ∈ BW) (hn : pc + 3 = n) (hi : i = nI N) (hN : N < 134217728) (h1 : kc + 1 ≤ mc) (h2 : ks + N ≤ ms) (kk : ∀ a : Nat, JJ G Y d mc ms post n lv (.ref a :: st) (ws ++ [(a, .inl (gR G, N, .inr (.inr (.inr (.inr (fun _ => none))))))]) (kc + 1) (ks + N)) : JJ G Y d mc ms post pc lv (.int i :: st) ws kc ks := by
  subst hn
  subst hi
  intro p e s m args below meth c H locs ls C hS hW hlv
  have hK := C.2.2.2.2.2.2.2.2.1.2.1
  have hz := C.2.2.2.2.2.2.2.2.2
  have ht := C.2.2.2.2.2.2.2.2.1.1.2.2.2.1
  refine va_newq C.1 C.2.1 C.2.2.2.2.2.2.1 (C.2.2.2.2.2.2.2.1 _ hF) C.2.2.2.2.2.2.2.2.1.2.2.2.1 hK hW.1 hW.2 hS (fun q h => Nat.le_trans hz h) (nI_new hN).1 (nI_new hN).2 (by omega) h1 h2 hd (fun q cA H1 hK1 hP hD hS1 => ?_)
  obtain ⟨k1, c1, a1, a2, a3, a4⟩ := (hK1.2 G.2.2.1.length (cA, .object RX5) (by rw [List.getElem?_append_right (Nat.le_refl _), Nat.sub_self]; rfl)).2
  obtain ⟨k2, c2, b1, b2, b3, b4⟩ := (hK.2 3 _ ht).2
  have e3 : cA = gR G := Option.some.inj (a4.symm.trans b4)
  subst e3
  exact kk q p e s m args below meth c H1 locs ls C hS1 ⟨hP, hD⟩ hlv
theorem j_newE (N : Nat) {idx : Nat} {i : Int32} (hd : decode Y.2.1 pc = .ok (.anewarray idx, 3)) (hF : Cond.classLink Y.1.cls idx RX0 ∈ BW) (hn : pc + 3 = n) (hi : i = nI N) (hN : N < 134217728) (h1 : kc + 1 ≤ mc) (h2 : ks + N ≤ ms) (kk : ∀ a : Nat, JJ G Y d mc ms post n lv (.ref a :: st) (ws ++ [(a, .inl (gE G, N, .inr (.inr (.inr (.inr (fun _ => none))))))]) (kc + 1) (ks + N)) : JJ G Y d mc ms post pc lv (.int i :: st) ws kc ks := by
  subst hn
  subst hi
  intro p e s m args below meth c H locs ls C hS hW hlv
  have hK := C.2.2.2.2.2.2.2.2.1.2.1
  have hz := C.2.2.2.2.2.2.2.2.2
  have ht := C.2.2.2.2.2.2.2.2.1.1.2.2.2.2
  refine va_newq C.1 C.2.1 C.2.2.2.2.2.2.1 (C.2.2.2.2.2.2.2.1 _ hF) C.2.2.2.2.2.2.2.2.1.2.2.2.2.1 hK hW.1 hW.2 hS (fun q h => Nat.le_trans hz h) (nI_new hN).1 (nI_new hN).2 (by omega) h1 h2 hd (fun q cA H1 hK1 hP hD hS1 => ?_)
  obtain ⟨k1, c1, a1, a2, a3, a4⟩ := (hK1.2 G.2.2.1.length (cA, .object RX0) (by rw [List.getElem?_append_right (Nat.le_refl _), Nat.sub_self]; rfl)).2
  obtain ⟨k2, c2, b1, b2, b3, b4⟩ := (hK.2 4 _ ht).2
  have e3 : cA = gE G := Option.some.inj (a4.symm.trans b4)
  subst e3
  exact kk q p e s m args below meth c H1 locs ls C hS1 ⟨hP, hD⟩ hlv
/-- the two static arrays -/
theorem j_getX {idx : Nat} (hd : decode Y.2.1 pc = .ok (.getstatic idx, 3)) (hF : Cond.fieldLink Y.1.cls idx "NameGuard$Measure" "X_SIGNS" "[I" ∈ BW) (hn : pc + 3 = n) (kk : JJ G Y d mc ms post n lv (.ref G.2.2.2.2.1 :: st) ws kc ks) : JJ G Y d mc ms post pc lv st ws kc ks := by
  subst hn
  intro p e s m args below meth c H locs ls C hS hW hlv
  exact va_gets C.1 C.2.1 C.2.2.2.2.2.2.2.2.1.2.2.2.2.2.1 hS C.2.2.2.2.2.2.1 (C.2.2.2.2.2.2.2.1 _ hF) (fun _ h => h) hd (kk p e s m args below meth c H locs ls C hS hW hlv)
theorem j_getY {idx : Nat} (hd : decode Y.2.1 pc = .ok (.getstatic idx, 3)) (hF : Cond.fieldLink Y.1.cls idx "NameGuard$Measure" "Y_SIGNS" "[I" ∈ BW) (hn : pc + 3 = n) (kk : JJ G Y d mc ms post n lv (.ref G.2.2.2.2.2 :: st) ws kc ks) : JJ G Y d mc ms post pc lv st ws kc ks := by
  subst hn
  intro p e s m args below meth c H locs ls C hS hW hlv
  exact va_gets C.1 C.2.1 C.2.2.2.2.2.2.2.2.1.2.2.2.2.2.2.2.1 hS C.2.2.2.2.2.2.1 (C.2.2.2.2.2.2.2.1 _ hF) (fun _ h => h) hd (kk p e s m args below meth c H locs ls C hS hW hlv)
theorem j_xald (j : Nat) {i : Int32} (v : Value) (hd : decode Y.2.1 pc = .ok (.iaload, 1)) (hn : pc + 1 = n) (hi : i = nI j) (hj : j < 4) (hv : fXS j = v) (kk : JJ G Y d mc ms post n lv (v :: st) ws kc ks) : JJ G Y d mc ms post pc lv (.int i :: .ref G.2.2.2.2.1 :: st) ws kc ks := by
  subst hn
  obtain ⟨h1, h2⟩ := nI_ix hi hj (by omega)
  intro p e s m args below meth c H locs ls C hS hW hlv
  exact va_ti C.1 C.2.1 C.2.2.2.2.2.2.2.2.1.2.2.2.2.2.2.1 hS h1 (by rw [h2]; exact hv) hd (kk p e s m args below meth c H locs ls C hS hW hlv)
theorem j_yald (j : Nat) {i : Int32} (v : Value) (hd : decode Y.2.1 pc = .ok (.iaload, 1)) (hn : pc + 1 = n) (hi : i = nI j) (hj : j < 4) (hv : fYS j = v) (kk : JJ G Y d mc ms post n lv (v :: st) ws kc ks) : JJ G Y d mc ms post pc lv (.int i :: .ref G.2.2.2.2.2 :: st) ws kc ks := by
  subst hn
  obtain ⟨h1, h2⟩ := nI_ix hi hj (by omega)
  intro p e s m args below meth c H locs ls C hS hW hlv
  exact va_ti C.1 C.2.1 C.2.2.2.2.2.2.2.2.1.2.2.2.2.2.2.2.2 hS h1 (by rw [h2]; exact hv) hd (kk p e s m args below meth c H locs ls C hS hW hlv)
theorem ow_1 : Cond.instanceMethod objectInit ∈ BW := List.mem_filter.mpr ⟨by decide +kernel, rfl⟩
theorem ow_2 : Cond.code objectInit ⟨#[0xb1]⟩ 1 none ∈ BW := List.mem_filter.mpr ⟨by decide +kernel, rfl⟩
theorem j_objInit {idx a : Nat} (hd : decode Y.2.1 pc = .ok (.invokespecial idx, 3)) (hF : Cond.methodLink Y.1.cls idx objectInit ∈ BW) (hn : pc + 3 = n) (hd1 : 1 ≤ d) (hst : (st.map fun v => v.category).sum ≤ 8) (kk : JJ G Y d mc ms post n lv st ws kc ks) : JJ G Y d mc ms post pc lv (.ref a :: st) ws kc ks := by
  subst hn
  intro p e s m args below meth c H locs ls C hS hW hlv
  have ht := C.2.2.2.2.2.2.2.1
  refine W.objInit C.1 C.2.1 C.2.2.2.2.2.2.1 (ht _ hF) (ht _ ow_1) (ht _ ow_2) rfl (by rw [C.2.2.1]; exact hlv.1.1) rfl hd hd1 (by show 2 * 0 + _ + 12 ≤ 41 * d; omega) ?_
  exact W.eq (g2 := F0 m (pc + 3) ls st) rfl (kk p e s m args below meth c H locs ls C hS hW hlv)
theorem mw_i : Cond.initialized "java/lang/Math" ∈ BW := List.mem_filter.mpr ⟨by decide +kernel, rfl⟩
theorem mw_1 : Cond.static Lib.Math.max.name ∈ BW := List.mem_filter.mpr ⟨by decide +kernel, rfl⟩
theorem mw_2 : Cond.code Lib.Math.max.name Lib.Math.max.code 2 (some .int) ∈ BW := List.mem_filter.mpr ⟨by decide +kernel, rfl⟩
theorem mw_3 : Cond.static Lib.Math.min.name ∈ BW := List.mem_filter.mpr ⟨by decide +kernel, rfl⟩
theorem mw_4 : Cond.code Lib.Math.min.name Lib.Math.min.code 2 (some .int) ∈ BW := List.mem_filter.mpr ⟨by decide +kernel, rfl⟩
theorem j_max {idx : Nat} {x y : Int32} (hd : decode Y.2.1 pc = .ok (.invokestatic idx, 3)) (hF : Cond.methodLink Y.1.cls idx Lib.Math.max.name ∈ BW) (hn : pc + 3 = n) (hd1 : 1 ≤ d) (h1 : kc ≤ mc) (h2 : ks ≤ ms) (hst : (st.map fun v => v.category).sum ≤ 8) (kk : JJ G Y d mc ms post n lv (.int (if x < y then y else x) :: st) ws kc ks) : JJ G Y d mc ms post pc lv (.int y :: .int x :: st) ws kc ks := by
  subst hn
  intro p e s m args below meth c H locs ls C hS hW hlv
  have ht := C.2.2.2.2.2.2.2.1
  exact va_mmax C.1 C.2.1 (by rw [C.2.2.1]; exact hlv.1.1.symm) C.2.2.2.2.2.2.1 (ht _ hF) (ht _ mw_1) (ht _ mw_i) (ht _ mw_2) hd1 (by show _ + 13 ≤ 41 * d; omega) h1 h2 hd (kk p e s m args below meth c H locs ls C hS hW hlv)
theorem j_min {idx : Nat} {x y : Int32} (hd : decode Y.2.1 pc = .ok (.invokestatic idx, 3)) (hF : Cond.methodLink Y.1.cls idx Lib.Math.min.name ∈ BW) (hn : pc + 3 = n) (hd1 : 1 ≤ d) (h1 : kc ≤ mc) (h2 : ks ≤ ms) (hst : (st.map fun v => v.category).sum ≤ 8) (kk : JJ G Y d mc ms post n lv (.int (if y < x then y else x) :: st) ws kc ks) : JJ G Y d mc ms post pc lv (.int y :: .int x :: st) ws kc ks := by
  subst hn
  intro p e s m args below meth c H locs ls C hS hW hlv
  have ht := C.2.2.2.2.2.2.2.1
  exact va_mmin C.1 C.2.1 (by rw [C.2.2.1]; exact hlv.1.1.symm) C.2.2.2.2.2.2.1 (ht _ hF) (ht _ mw_3) (ht _ mw_i) (ht _ mw_4) hd1 (by show _ + 13 ≤ 41 * d; omega) h1 h2 hd (kk p e s m args below meth c H locs ls C hS hW hlv)
/-- what a call needs of its callee -/
def CY (Y : YT) (n : Nat) : Prop := Cond.code Y.1 Y.2.1 Y.2.2.1 Y.2.2.2 ∈ BW ∧ Cond.initialized Y.1.cls ∈ BW ∧ Y.2.2.1 ≤ 22 ∧ Y.1.cls ≠ "java/lang/invoke/MethodHandle" ∧ Y.1.cls ≠ "java/lang/invoke/VarHandle" ∧ (parseMethodDescriptor Y.1.desc).map (fun d => d.parameters.length) = some n
/-- and of an instance method -/
def CI (Y : YT) : Prop := Cond.instanceMethod Y.1 ∈ BW ∧ Cond.selects Y.1.cls Y.1 Y.1 ∈ BW
theorem cy_warm {Y1 : YT} {k : Nat} (h : CY Y1 k) {s : State} {args : Array Value} (ht : ∀ w ∈ BW, w.before args s = true) : ∀ w ∈ (Cond.code Y1.1 Y1.2.1 Y1.2.2.1 Y1.2.2.2 :: BW), ∀ (a' : Array Value) (U : State), s.WarmedH U.vm → w.before a' U = true := by
  refine pay_in ht (fun w hw => ?_)
  rcases List.mem_cons.mp hw with rfl | hw
  · exact ⟨h.1, bw_good h.1⟩
  · exact ⟨hw, bw_good hw⟩
theorem cy_len {Y1 : YT} {k : Nat} (h : CY Y1 k) : ∀ sig, parseMethodDescriptor Y1.1.desc = some sig → k = sig.parameters.length := by
  intro sig hs
  have h2 := h.2.2.2.2.2
  rw [hs] at h2
  exact (Option.some.inj h2).symm
theorem cy_B {Y1 : YT} {k d1 mc1 ms1 d mc ms idx : Nat} {own : String} (h : CY Y1 k) {s : State} {args : Array Value} (ht : ∀ w ∈ BW, w.before args s = true) (hF : Cond.methodLink own idx Y1.1 ∈ BW) (hd : d1 + 1 ≤ d) : CallB (rm d mc ms) s args own idx Y1.1 Y1.2.1 Y1.2.2.1 Y1.2.2.2 (Cond.code Y1.1 Y1.2.1 Y1.2.2.1 Y1.2.2.2 :: BW) (rm d1 mc1 ms1) mc1 ms1 k := by
  have h3 := h.2.2.1
  exact ⟨rfl, rfl, hd, by show 8 + (Y1.2.2.1 + 11) + 41 * d1 ≤ 41 * d; omega, cy_warm h ht, List.mem_cons_self, ht _ h.1, ht _ h.2.1, ⟨h.2.2.2.1, h.2.2.2.2.1⟩, cy_len h, ht _ hF⟩
theorem jp_blind {av : List Value} {w0 : va_W} : FrameBlind (JP G av w0) := fun a U g mk h => ⟨h.1, h.2.1, JK.same (u := U) (U := U.calling g mk a) (H := U.heap) rfl h.2.2.1, h.2.2.2⟩
theorem jp_at {Y1 : YT} {av : List Value} {w0 : va_W} {p : Program} {s : State} {m : MethodId} {args : Array Value} {meth : Method} {c : Code} {H : Heap} {locs : List Loc} (C : JC G Y1 p s m args meth c) (hS : va_S (JA G) s.heap H locs) (hW : JW G w0 H) : ∀ U : State, U.heap = H → s.WarmedH U.vm → JP G av w0 av.toArray U := by
  intro U hU hw
  refine ⟨rfl, ?_, ?_, by rw [hU]; exact hW⟩
  · rw [hU]; exact Nat.le_trans C.2.2.2.2.2.2.2.2.2 hS.1
  · exact JK.moved hw (fun a h1 h2 => by rw [hU]; exact hS.2.1 a h1 h2) C.2.2.2.2.2.2.2.2.1
theorem j_ofRun {p : Program} {e : Env} {s : State} {m : MethodId} {args : Array Value} {below : List Frame} {meth : Method} {c : Code} {H : Heap} {locs : List Loc} {R : Room} {Q : State → Prop} {mc1 ms1 : Nat} {ls : Array Slot} {st0 rest : List Value} {post1 : OT} {a : Array Value} {H0 : Heap}
    (hr : va_Run p G.1 e R s m args below meth c H locs kc ks mc1 ms1 (F0 m pc ls st0) rest (JQ G post1 a) (JA G)) (hS : va_S (JA G) H0 H locs)
    (kk : ∀ (r : Option Value) (w : va_W) (H1 : Heap) (locs1 : List Loc), post1 r w → JW G w H1 → va_S (JA G) H0 H1 locs1 → W p G.1 e R s m args below meth c H1 locs1 (kc + mc1) (ks + ms1) Q (F0 m (pc + 3) ls (r.toList ++ rest))) : W p G.1 e R s m args below meth c H locs kc ks Q (F0 m pc ls st0) := by
  intro T hT X
  obtain ⟨v, st₀, t, T', L, h0, X', hL, e1, e2, ⟨⟨r, u, hv, hp, hb⟩, hz, hk⟩, stp⟩ := hr T hT X
  cases hv
  rw [h0] at hz hk
  obtain ⟨t2, a1, b1⟩ := kk v u T'.heap (locs ++ L) hp (by rw [e1]; exact hb)
    ⟨Nat.le_trans hS.1 (by rw [e1]; exact hz), fun q h1 h2 => by rw [e1, hk q (Nat.lt_of_lt_of_le h1 hS.1) h2]; exact hS.2.1 q h1 h2, fun q hq => by
      rcases List.mem_append.mp hq with h | h
      · exact hS.2.2 q h
      · exact hL q h⟩ T' rfl X'
  exact ⟨t2, stp t2 a1, b1⟩
/-- a call of an instance method -/
theorem j_callV (q : Nat) {Y1 : YT} {k d1 mc1 ms1 idx b ci : Nat} {fs : List Value} {As rest : List Value} {post1 : OT} (hd : decode Y.2.1 pc = .ok (.invokevirtual idx, 3)) (hF : Cond.methodLink Y.1.cls idx Y1.1 ∈ BW) (hY : CY Y1 k) (hI : CI Y1) (hM : JM G Y1 d1 mc1 ms1 (.ref b :: As) ws post1) (hn : pc + 3 = n) (hst : st = As.reverse ++ .ref b :: rest) (hk : As.length = k) (he : ws[q]? = some (b, .inr (ci, fs))) (hc : (vwCl[ci]?).map (fun q => q.1) = some Y1.1.cls) (hd1 : d1 + 1 ≤ d) (h1 : kc + mc1 ≤ mc) (h2 : ks + ms1 ≤ ms) (hr : (rest.map fun v => v.category).sum ≤ 8)
    (kk : ∀ (r : Option Value) (w : va_W), post1 r w → JJ G Y d mc ms post n lv (r.toList ++ rest) w (kc + mc1) (ks + ms1)) : JJ G Y d mc ms post pc lv st ws kc ks := by
  subst hn
  subst hst
  intro p e s m args below meth c H locs ls C hS hW hlv
  have ht := C.2.2.2.2.2.2.2.1
  have hrec : ∃ cellB : Cell, H[b]? = some cellB ∧ cellB.vm.isStatics = false ∧ s.vm.findClass Y1.1.cls = some cellB.cls := by
    cases hcl : vwCl[ci]? with
    | none => rw [hcl] at hc; cases hc
    | some r =>
      rw [hcl] at hc
      have := va_recv C.2.2.2.2.2.2.2.2.1.2.1 hW.1 hcl he
      rw [← Option.some.inj hc]
      exact this
  exact j_ofRun (va_runV (C := Y1.1.cls) (g := F0 m pc ls (As.reverse ++ .ref b :: rest)) ⟨C.1, C.2.1, C.2.2.1, C.2.2.2.2.2.2.1, ht⟩ hM ⟨cy_B hY ht hF hd1, ht _ hI.1, ht _ hI.2⟩ ⟨jp_blind, hrec, jp_at C hS hW⟩ rfl hk hlv.1.1 rfl (lv_room hr) hd ⟨h1, h2⟩) hS (fun r w H1 locs1 hp hw hS1 => kk r w hp p e s m args below meth c H1 locs1 ls C hS1 hw hlv)
/-- a call of a static method -/
theorem j_callS {Y1 : YT} {k d1 mc1 ms1 idx : Nat} {As rest : List Value} {post1 : OT} (hd : decode Y.2.1 pc = .ok (.invokestatic idx, 3)) (hF : Cond.methodLink Y.1.cls idx Y1.1 ∈ BW) (hY : CY Y1 k) (hI : Cond.static Y1.1 ∈ BW) (hM : JM G Y1 d1 mc1 ms1 As ws post1) (hn : pc + 3 = n) (hst : st = As.reverse ++ rest) (hk : As.length = k) (hd1 : d1 + 1 ≤ d) (h1 : kc + mc1 ≤ mc) (h2 : ks + ms1 ≤ ms) (hr : (rest.map fun v => v.category).sum ≤ 8)
    (kk : ∀ (r : Option Value) (w : va_W), post1 r w → JJ G Y d mc ms post n lv (r.toList ++ rest) w (kc + mc1) (ks + ms1)) : JJ G Y d mc ms post pc lv st ws kc ks := by
  subst hn
  subst hst
  intro p e s m args below meth c H locs ls C hS hW hlv
  have ht := C.2.2.2.2.2.2.2.1
  exact j_ofRun (va_runS (g := F0 m pc ls (As.reverse ++ rest)) ⟨C.1, C.2.1, C.2.2.1, C.2.2.2.2.2.2.1, ht⟩ hM ⟨cy_B hY ht hF hd1, ht _ hI⟩ ⟨jp_blind, jp_at C hS hW⟩ rfl hk hlv.1.1 rfl (lv_room hr) hd ⟨h1, h2⟩) hS (fun r w H1 locs1 hp hw hS1 => kk r w hp p e s m args below meth c H1 locs1 ls C hS1 hw hlv)
/-- a call of a private static method of a nest mate -/
theorem j_callSN {Y1 : YT} {k d1 mc1 ms1 idx : Nat} {host : String} {As rest : List Value} {post1 : OT} (hd : decode Y.2.1 pc = .ok (.invokestatic idx, 3)) (hF : Cond.methodLinkNest Y.1.cls idx Y1.1 host ∈ NW) (hY : CY Y1 k) (hI : Cond.static Y1.1 ∈ BW) (hM : JM G Y1 d1 mc1 ms1 As ws post1) (hn : pc + 3 = n) (hst : st = As.reverse ++ rest) (hk : As.length = k) (hd1 : d1 + 1 ≤ d) (h1 : kc + mc1 ≤ mc) (h2 : ks + ms1 ≤ ms) (hr : (rest.map fun v => v.category).sum ≤ 8)
    (kk : ∀ (r : Option Value) (w : va_W), post1 r w → JJ G Y d mc ms post n lv (r.toList ++ rest) w (kc + mc1) (ks + ms1)) : JJ G Y d mc ms post pc lv st ws kc ks := by
  subst hn
  subst hst
  have h3 := hY.2.2.1
  intro p e s m args below meth c H locs ls C hS hW hlv
  have ht := C.2.2.2.2.2.2.2.1
  have cn : va_CN (rm d mc ms) s args Y.1.cls idx Y1.1 host Y1.2.1 Y1.2.2.1 Y1.2.2.2 (Cond.code Y1.1 Y1.2.1 Y1.2.2.1 Y1.2.2.2 :: BW) (rm d1 mc1 ms1) mc1 ms1 k :=
    ⟨⟨rfl, rfl, hd1, by show 8 + (Y1.2.2.1 + 11) + 41 * d1 ≤ 41 * d; omega, cy_warm hY ht, List.mem_cons_self⟩, ht _ hY.1, ht _ hY.2.1, ⟨hY.2.2.2.1, hY.2.2.2.2.1⟩, cy_len hY, va_Nw.use rfl (C.2.2.2.2.2.2.2.2.1.2.2.1 _ hF)⟩
  exact j_ofRun (va_runSN (g := F0 m pc ls (As.reverse ++ rest)) ⟨C.1, C.2.1, C.2.2.1, C.2.2.2.2.2.2.1, ht⟩ hM ⟨cn, ht _ hI, trivial⟩ ⟨jp_blind, jp_at C hS hW⟩ rfl hk hlv.1.1 rfl (lv_room hr) hd ⟨h1, h2⟩) hS (fun r w H1 locs1 hp hw hS1 => kk r w hp p e s m args below meth c H1 locs1 ls C hS1 hw hlv)
/-- a call of a constructor -/
theorem j_callI {Y1 : YT} {k d1 mc1 ms1 idx b : Nat} {As rest : List Value} {post1 : OT} (hd : decode Y.2.1 pc = .ok (.invokespecial idx, 3)) (hF : Cond.methodLink Y.1.cls idx Y1.1 ∈ BW) (hY : CY Y1 k) (hI : Cond.instanceMethod Y1.1 ∈ BW) (hnm : Y1.1.name = "<init>") (hre : Y1.2.2.2 = none) (hM : JM G Y1 d1 mc1 ms1 (.ref b :: As) ws post1) (hn : pc + 3 = n) (hst : st = As.reverse ++ .ref b :: rest) (hk : As.length = k) (hd1 : d1 + 1 ≤ d) (h1 : kc + mc1 ≤ mc) (h2 : ks + ms1 ≤ ms) (hr : (rest.map fun v => v.category).sum ≤ 8)
    (kk : ∀ (r : Option Value) (w : va_W), post1 r w → JJ G Y d mc ms post n lv (r.toList ++ rest) w (kc + mc1) (ks + ms1)) : JJ G Y d mc ms post pc lv st ws kc ks := by
  subst hn
  subst hst
  intro p e s m args below meth c H locs ls C hS hW hlv
  have ht := C.2.2.2.2.2.2.2.1
  have hB := cy_B (mc1 := mc1) (ms1 := ms1) (mc := mc) (ms := ms) hY ht hF hd1
  unfold JM at hM
  rw [hre] at hB hM
  exact j_ofRun (va_runI (g := F0 m pc ls (As.reverse ++ .ref b :: rest)) ⟨C.1, C.2.1, C.2.2.1, C.2.2.2.2.2.2.1, ht⟩ hM ⟨hB, hnm, ht _ hI⟩ ⟨jp_blind, jp_at C hS hW⟩ rfl hk hlv.1.1 rfl (lv_room hr) hd ⟨h1, h2⟩) hS (fun r w H1 locs1 hp hw hS1 => kk r w hp p e s m args below meth c H1 locs1 ls C hS1 hw hlv)
/-- the world in another order, or less of it -/
theorem j_world {ws' : va_W} (h : ∀ G : GT, ∀ H : Heap, JW G ws H → JW G ws' H) (kk : JJ G Y d mc ms post pc lv st ws' kc ks) : JJ G Y d mc ms post pc lv st ws kc ks := by
  intro p e s m args below meth c H locs ls C hS hW hlv
  exact kk p e s m args below meth c H locs ls C hS (h G H hW) hlv
end JH

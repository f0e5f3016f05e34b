/-! THE LAW: one judgement for its walk, over the same worlds; the script is read beside them -/
def LC (G : GT) (p : Program) (s : State) (m : MethodId) (meth : Method) (c : Code) (b L : Nat) (xs : Nat → Int32) : Prop :=
  p.tables.exec = Jvm.exec ∧ c.code = code ∧ c.maxLocals = 4 ∧ meth.sig.returnType = ret ∧ meth.locks = false ∧ s.vm.findClass RL = some m.cls ∧ (∀ w ∈ BW, w.before #[Value.ref b] s = true) ∧ JK G s s.heap ∧ G.2.2.2.1 = s.heap.size ∧ va_X b L xs s s.heap ∧ b < s.heap.size
def LJ (G : GT) (b L : Nat) (xs : Nat → Int32) (pc : Nat) (lv : List (Nat × Value)) (st : List Value) (ws : va_W) (kc ks : Nat) : Prop :=
  ∀ (p : Program) (e : Env) (s : State) (m : MethodId) (below : List Frame) (meth : Method) (c : Code) (H : Heap) (locs : List Loc) (ls : Array Slot),
    LC G p s m meth c b L xs → va_S (JA G) s.heap H locs → JW G ws H → lw_has ls 4 lv →
    W p G.1 e room_1 s m #[Value.ref b] below meth c H locs kc ks (lw_Z below #[Value.ref b] s) (F0 m pc ls st)
section LR
variable {G : GT} {b L : Nat} {xs : Nat → Int32} {pc n : Nat} {lv : List (Nat × Value)} {st : List Value} {ws : va_W} {kc ks : Nat}
theorem l_iconst {i : Int} (v : Int32) (hd : decode code pc = .ok (.iconst i, 1)) (hn : pc + 1 = n) (hv : Int32.ofInt i = v) (k : LJ G b L xs n lv (.int v :: st) ws kc ks) : LJ G b L xs pc lv st ws kc ks := by
  subst hn
  intro p e s m below meth c H locs ls C hS hW hl
  exact lv_iconst C.1 C.2.1 hd hv (k p e s m below meth c H locs ls C hS hW hl)
theorem l_bipush {i : Int} (v : Int32) (hd : decode code pc = .ok (.bipush i, 2)) (hn : pc + 2 = n) (hv : (Int8.ofInt i).toInt32 = v) (k : LJ G b L xs n lv (.int v :: st) ws kc ks) : LJ G b L xs pc lv st ws kc ks := by
  subst hn
  intro p e s m below meth c H locs ls C hS hW hl
  exact lv_bipush C.1 C.2.1 hd hv (k p e s m below meth c H locs ls C hS hW hl)
theorem l_iload_n {i : Fin 4} {x : Int32} (hd : decode code pc = .ok (.iload_n i, 1)) (hn : pc + 1 = n) (hg : lvg lv (i : Nat) = some (.int x)) (k : LJ G b L xs n lv (.int x :: st) ws kc ks) : LJ G b L xs pc lv st ws kc ks := by
  subst hn
  intro p e s m below meth c H locs ls C hS hW hl
  exact lv_iload_n C.1 C.2.1 hd rfl (lw_at hl hg) (k p e s m below meth c H locs ls C hS hW hl)
theorem l_aload_n {i : Fin 4} {x : Nat} (hd : decode code pc = .ok (.aload_n i, 1)) (hn : pc + 1 = n) (hg : lvg lv (i : Nat) = some (.ref x)) (k : LJ G b L xs n lv (.ref x :: st) ws kc ks) : LJ G b L xs pc lv st ws kc ks := by
  subst hn
  intro p e s m below meth c H locs ls C hS hW hl
  exact lv_aload_n C.1 C.2.1 hd rfl (lw_at hl hg) (k p e s m below meth c H locs ls C hS hW hl)
theorem l_iadd {x y : Int32} (hd : decode code pc = .ok (.iadd, 1)) (hn : pc + 1 = n) (k : LJ G b L xs n lv (.int (x + y) :: st) ws kc ks) : LJ G b L xs pc lv (.int y :: .int x :: st) ws kc ks := by
  subst hn
  intro p e s m below meth c H locs ls C hS hW hl
  exact lv_iadd C.1 C.2.1 hd (k p e s m below meth c H locs ls C hS hW hl)
theorem l_isub {x y : Int32} (hd : decode code pc = .ok (.isub, 1)) (hn : pc + 1 = n) (k : LJ G b L xs n lv (.int (x - y) :: st) ws kc ks) : LJ G b L xs pc lv (.int y :: .int x :: st) ws kc ks := by
  subst hn
  intro p e s m below meth c H locs ls C hS hW hl
  exact lv_isub C.1 C.2.1 hd (k p e s m below meth c H locs ls C hS hW hl)
theorem l_iand {x y : Int32} (hd : decode code pc = .ok (.iand, 1)) (hn : pc + 1 = n) (k : LJ G b L xs n lv (.int (x &&& y) :: st) ws kc ks) : LJ G b L xs pc lv (.int y :: .int x :: st) ws kc ks := by
  subst hn
  intro p e s m below meth c H locs ls C hS hW hl
  exact lv_iand C.1 C.2.1 hd (k p e s m below meth c H locs ls C hS hW hl)
theorem l_dup {v : Value} (hd : decode code pc = .ok (.dup, 1)) (hn : pc + 1 = n) (hc : v.category = 1) (k : LJ G b L xs n lv (v :: v :: st) ws kc ks) : LJ G b L xs pc lv (v :: st) ws kc ks := by
  subst hn
  intro p e s m below meth c H locs ls C hS hW hl
  exact lv_dup C.1 C.2.1 hd hc (k p e s m below meth c H locs ls C hS hW hl)
theorem l_if_eq {x : Int32} {off : Int} (tgt : Nat) (hd : decode code pc = .ok (.ifCond .eq off, 3)) (ht : (pc : Int) + off = (tgt : Int)) (hn : pc + 3 = n) (kt : x = 0 → LJ G b L xs tgt lv st ws kc ks) (kf : ¬ x = 0 → LJ G b L xs n lv st ws kc ks) : LJ G b L xs pc lv (.int x :: st) ws kc ks := by
  subst hn
  intro p e s m below meth c H locs ls C hS hW hl
  exact lv_if_eq C.1 C.2.1 hd ht (fun h => kt h p e s m below meth c H locs ls C hS hW hl) (fun h => kf h p e s m below meth c H locs ls C hS hW hl)
theorem l_icmp_eq {x y : Int32} {off : Int} (tgt : Nat) (hd : decode code pc = .ok (.if_icmp .eq off, 3)) (ht : (pc : Int) + off = (tgt : Int)) (hn : pc + 3 = n) (kt : x = y → LJ G b L xs tgt lv st ws kc ks) (kf : ¬ x = y → LJ G b L xs n lv st ws kc ks) : LJ G b L xs pc lv (.int y :: .int x :: st) ws kc ks := by
  subst hn
  intro p e s m below meth c H locs ls C hS hW hl
  exact lv_icmp_eq C.1 C.2.1 hd ht (fun h => kt h p e s m below meth c H locs ls C hS hW hl) (fun h => kf h p e s m below meth c H locs ls C hS hW hl)
theorem l_icmp_gt {x y : Int32} {off : Int} (tgt : Nat) (hd : decode code pc = .ok (.if_icmp .gt off, 3)) (ht : (pc : Int) + off = (tgt : Int)) (hn : pc + 3 = n) (kt : y < x → LJ G b L xs tgt lv st ws kc ks) (kf : ¬ y < x → LJ G b L xs n lv st ws kc ks) : LJ G b L xs pc lv (.int y :: .int x :: st) ws kc ks := by
  subst hn
  intro p e s m below meth c H locs ls C hS hW hl
  exact lv_icmp_gt C.1 C.2.1 hd ht (fun h => kt h p e s m below meth c H locs ls C hS hW hl) (fun h => kf h p e s m below meth c H locs ls C hS hW hl)
theorem l_goto {off : Int} (tgt : Nat) (hd : decode code pc = .ok (.goto off, 3)) (ht : (pc : Int) + off = (tgt : Int)) (k : LJ G b L xs tgt lv st ws kc ks) : LJ G b L xs pc lv st ws kc ks := by
  intro p e s m below meth c H locs ls C hS hW hl
  exact lv_goto C.1 C.2.1 hd ht (k p e s m below meth c H locs ls C hS hW hl)
theorem l_tableOut {dflt lo hi : Int} {offs : Array Int} {len : Nat} {x : Int32} (tgt : Nat) (hd : decode code pc = .ok (.tableswitch dflt lo hi offs, len)) (h : x.toInt < lo ∨ hi < x.toInt) (ht : (pc : Int) + dflt = (tgt : Int)) (k : LJ G b L xs tgt lv st ws kc ks) : LJ G b L xs pc lv (.int x :: st) ws kc ks := by
  intro p e s m below meth c H locs ls C hS hW hl
  exact lv_tableOut C.1 C.2.1 hd h ht (k p e s m below meth c H locs ls C hS hW hl)
theorem l_tableIn {dflt lo hi : Int} {offs : Array Int} {len : Nat} {x : Int32} {off : Int} (tgt : Nat) (hd : decode code pc = .ok (.tableswitch dflt lo hi offs, len)) (h1 : ¬ x.toInt < lo) (h2 : ¬ hi < x.toInt) (ho : offs[(x.toInt - lo).toNat]? = some off) (ht : (pc : Int) + off = (tgt : Int)) (k : LJ G b L xs tgt lv st ws kc ks) : LJ G b L xs pc lv (.int x :: st) ws kc ks := by
  intro p e s m below meth c H locs ls C hS hW hl
  exact lv_tableIn C.1 C.2.1 hd h1 h2 ho ht (k p e s m below meth c H locs ls C hS hW hl)
theorem l_istore_n {i : Fin 4} {x : Int32} (hd : decode code pc = .ok (.istore_n i, 1)) (hn : pc + 1 = n) (hi : (i : Nat) < 4) (k : LJ G b L xs n (lvs lv (i : Nat) (.int x)) st ws kc ks) : LJ G b L xs pc lv (.int x :: st) ws kc ks := by
  subst hn
  intro p e s m below meth c H locs ls C hS hW hl
  exact lv_istore_n C.1 C.2.1 hd rfl hl.1 hi rfl (fun ls1 h1 => k p e s m below meth c H locs ls1 C hS hW (lw_stored rfl hl h1))
theorem l_astore_n {i : Fin 4} {x : Nat} (hd : decode code pc = .ok (.astore_n i, 1)) (hn : pc + 1 = n) (hi : (i : Nat) < 4) (k : LJ G b L xs n (lvs lv (i : Nat) (.ref x)) st ws kc ks) : LJ G b L xs pc lv (.ref x :: st) ws kc ks := by
  subst hn
  intro p e s m below meth c H locs ls C hS hW hl
  exact lv_astore_n C.1 C.2.1 hd rfl hl.1 hi rfl (fun ls1 h1 => k p e s m below meth c H locs ls1 C hS hW (lw_stored rfl hl h1))
theorem l_iinc {i : Nat} {j : Int} {x : Int32} (v : Int32) (hd : decode code pc = .ok (.iinc i j, 3)) (hn : pc + 3 = n) (hg : lvg lv i = some (.int x)) (hv : x + Int32.ofInt j = v) (hi : i < 4) (k : LJ G b L xs n (lvs lv i (.int v)) st ws kc ks) : LJ G b L xs pc lv st ws kc ks := by
  subst hn
  obtain ⟨kp, hkp⟩ := lvg_place hg
  intro p e s m below meth c H locs ls C hS hW hl
  exact lv_iinc C.1 C.2.1 hd hl.1 hkp hv hi rfl (fun ls1 h1 => k p e s m below meth c H locs ls1 C hS hW (lw_stored rfl hl h1))
theorem l_top {x : Int32} (y : Int32) (h : x = y) (k : LJ G b L xs pc lv (.int y :: st) ws kc ks) : LJ G b L xs pc lv (.int x :: st) ws kc ks := by subst h; exact k
theorem l_ws {ws' : va_W} (h : ws = ws') (k : LJ G b L xs pc lv st ws' kc ks) : LJ G b L xs pc lv st ws kc ks := by subst h; exact k
theorem l_perm (ws' : va_W) (hp : ws.Perm ws') (kk : LJ G b L xs pc lv st ws' kc ks) : LJ G b L xs pc lv st ws kc ks := by
  intro p e s m below meth c H locs ls C hS hW hl
  exact kk p e s m below meth c H locs ls C hS (jw_perm hp hW) hl
theorem ja_out {p : Program} {s : State} {m : MethodId} {meth : Method} {c : Code} (C : LC G p s m meth c b L xs) {a : Nat} (h : a < s.heap.size) : ¬ JA G a := by
  have h1 := C.2.2.2.2.2.2.2.2.1
  unfold JA
  omega
theorem l_sld (j : Nat) {i : Int32} (hd : decode code pc = .ok (.iaload, 1)) (hn : pc + 1 = n) (hi : i = nI j) (hj : j < L) (hL : L ≤ 3072) (k : LJ G b L xs n lv (.int (xs j) :: st) ws kc ks) : LJ G b L xs pc lv (.int i :: .ref b :: st) ws kc ks := by
  subst hn
  obtain ⟨h1, h2⟩ := nI_ix hi hj (by omega)
  intro p e s m below meth c H locs ls C hS hW hl
  have h3 := k p e s m below meth c H locs ls C hS hW hl
  rw [← h2] at h3
  exact va_sld (A := JA G) C.1 C.2.1 C.2.2.2.2.2.2.2.2.2.1 C.2.2.2.2.2.2.2.2.2.2 (ja_out C C.2.2.2.2.2.2.2.2.2.2) hS h1 hd h3
theorem l_slen (hd : decode code pc = .ok (.arraylength, 1)) (hn : pc + 1 = n) (k : LJ G b L xs n lv (.int (nI L) :: st) ws kc ks) : LJ G b L xs pc lv (.ref b :: st) ws kc ks := by
  subst hn
  intro p e s m below meth c H locs ls C hS hW hl
  exact va_slen (A := JA G) C.1 C.2.1 C.2.2.2.2.2.2.2.2.2.1 C.2.2.2.2.2.2.2.2.2.2 (ja_out C C.2.2.2.2.2.2.2.2.2.2) hS hd (k p e s m below meth c H locs ls C hS hW hl)
theorem l_ret (hd : decode code pc = .ok (.ireturn, 1)) (h1 : kc ≤ 600000) (h2 : ks ≤ 7302250) : LJ G b L xs pc lv [.int 1] ws kc ks := by
  intro p e s m below meth c H locs ls C hS hW hl
  refine va_forget (fun q hq => ?_) (W.widen h1 h2 (lw_ret C.1 C.2.1 C.2.2.2.1 C.2.2.2.2.1 hd))
  have h3 := hS.2.2 q hq
  have h4 := C.2.2.2.2.2.2.2.2.1
  unfold JA at h3
  omega
theorem lcy_B {Y1 : YT} {k d1 mc1 ms1 idx : Nat} (h : CY Y1 k) {s : State} {args : Array Value} (ht : ∀ w ∈ BW, w.before args s = true) (hF : Cond.methodLink RL idx Y1.1 ∈ BW) (hd : d1 ≤ 8) : CallB room_1 s args RL idx Y1.1 Y1.2.1 Y1.2.2.1 Y1.2.2.2 (Cond.code Y1.1 Y1.2.1 Y1.2.2.1 Y1.2.2.2 :: BW) (rm d1 mc1 ms1) mc1 ms1 k := by
  have h3 := h.2.2.1
  exact ⟨rfl, rfl, by show d1 + 1 ≤ 10; omega, by show 8 + (Y1.2.2.1 + 11) + 41 * d1 ≤ 418; omega, cy_warm h ht, List.mem_cons_self, ht _ h.1, ht _ h.2.1, ⟨h.2.2.2.1, h.2.2.2.2.1⟩, cy_len h, ht _ hF⟩
theorem ljp_at {av : List Value} {w0 : va_W} {p : Program} {s : State} {m : MethodId} {meth : Method} {c : Code} {H : Heap} {locs : List Loc} (C : LC G p s m meth c b L xs) (hS : va_S (JA G) s.heap H locs) (hW : JW G w0 H) : ∀ U : State, U.heap = H → s.WarmedH U.vm → JP G av w0 av.toArray U := by
  intro U hU hw
  refine ⟨rfl, ?_, ?_, by rw [hU]; exact hW⟩
  · rw [hU, C.2.2.2.2.2.2.2.2.1]; exact hS.1
  · exact JK.moved hw (fun a h1 h2 => by rw [hU]; exact hS.2.1 a h1 h2) C.2.2.2.2.2.2.2.1
/-- a call of an instance method -/
theorem l_callV (q : Nat) {Y1 : YT} {k d1 mc1 ms1 idx a ci : Nat} {fs : List Value} {As rest : List Value} {post1 : OT} (hd : decode code pc = .ok (.invokevirtual idx, 3)) (hF : Cond.methodLink RL idx Y1.1 ∈ BW) (hY : CY Y1 k) (hI : CI Y1) (hM : JM G Y1 d1 mc1 ms1 (.ref a :: As) ws post1) (hn : pc + 3 = n) (hst : st = As.reverse ++ .ref a :: rest) (hk : As.length = k) (he : ws[q]? = some (a, .inr (ci, fs))) (hc : (vwCl[ci]?).map (fun q => q.1) = some Y1.1.cls) (hd1 : d1 ≤ 8) (h1 : kc + mc1 ≤ 600000) (h2 : ks + ms1 ≤ 7302250) (hr : (rest.map fun v => v.category).sum ≤ 8)
    (kk : ∀ (r : Option Value) (w : va_W), post1 r w → LJ G b L xs n lv (r.toList ++ rest) w (kc + mc1) (ks + ms1)) : LJ G b L xs pc lv st ws kc ks := by
  subst hn
  subst hst
  intro p e s m below meth c H locs ls C hS hW hlv
  have ht := C.2.2.2.2.2.2.1
  have hrec : ∃ cellB : Cell, H[a]? = some cellB ∧ cellB.vm.isStatics = false ∧ s.vm.findClass Y1.1.cls = some cellB.cls := by
    cases hcl : vwCl[ci]? with
    | none => rw [hcl] at hc; cases hc
    | some r =>
      rw [hcl] at hc
      have := va_recv C.2.2.2.2.2.2.2.1.2.1 hW.1 hcl he
      rw [← Option.some.inj hc]
      exact this
  exact j_ofRun (va_runV (C := Y1.1.cls) (g := F0 m pc ls (As.reverse ++ .ref a :: rest)) ⟨C.1, C.2.1, C.2.2.1, C.2.2.2.2.2.1, ht⟩ hM ⟨lcy_B hY ht hF hd1, ht _ hI.1, ht _ hI.2⟩ ⟨jp_blind, hrec, ljp_at C hS hW⟩ rfl hk hlv.1.1 rfl (lv_room hr) hd ⟨h1, h2⟩) hS (fun r w H1 locs1 hp hw hS1 => kk r w hp p e s m below meth c H1 locs1 ls C hS1 hw hlv)
theorem l_callVi (q : Nat) {Y1 : YT} {k d1 mc1 ms1 idx a ci : Nat} {fs : List Value} {As rest : List Value} {f : Int32 → va_W → Prop} (hd : decode code pc = .ok (.invokevirtual idx, 3)) (hF : Cond.methodLink RL idx Y1.1 ∈ BW) (hY : CY Y1 k) (hI : CI Y1) (hM : JM G Y1 d1 mc1 ms1 (.ref a :: As) ws (Qi f)) (hn : pc + 3 = n) (hst : st = As.reverse ++ .ref a :: rest) (hk : As.length = k) (he : ws[q]? = some (a, .inr (ci, fs))) (hc : (vwCl[ci]?).map (fun q => q.1) = some Y1.1.cls) (hd1 : d1 ≤ 8) (h1 : kc + mc1 ≤ 600000) (h2 : ks + ms1 ≤ 7302250) (hr : (rest.map fun v => v.category).sum ≤ 8)
    (kk : ∀ (v : Int32) (w : va_W), f v w → LJ G b L xs n lv (.int v :: rest) w (kc + mc1) (ks + ms1)) : LJ G b L xs pc lv st ws kc ks :=
  l_callV q hd hF hY hI hM hn hst hk he hc hd1 h1 h2 hr (fun r w h => by obtain ⟨v, rfl, h⟩ := h; exact kk v w h)
/-- a call of a constructor -/
theorem l_callIv {Y1 : YT} {k d1 mc1 ms1 idx a : Nat} {As rest : List Value} {f : va_W → Prop} (hd : decode code pc = .ok (.invokespecial idx, 3)) (hF : Cond.methodLink RL idx Y1.1 ∈ BW) (hY : CY Y1 k) (hI : Cond.instanceMethod Y1.1 ∈ BW) (hnm : Y1.1.name = "<init>") (hre : Y1.2.2.2 = none) (hM : JM G Y1 d1 mc1 ms1 (.ref a :: As) ws (Qv f)) (hn : pc + 3 = n) (hst : st = As.reverse ++ .ref a :: rest) (hk : As.length = k) (hd1 : d1 ≤ 8) (h1 : kc + mc1 ≤ 600000) (h2 : ks + ms1 ≤ 7302250) (hr : (rest.map fun v => v.category).sum ≤ 8)
    (kk : ∀ (w : va_W), f w → LJ G b L xs n lv rest w (kc + mc1) (ks + ms1)) : LJ G b L xs pc lv st ws kc ks := by
  subst hn
  subst hst
  intro p e s m below meth c H locs ls C hS hW hlv
  have ht := C.2.2.2.2.2.2.1
  have hB := lcy_B (mc1 := mc1) (ms1 := ms1) hY ht hF hd1
  unfold JM at hM
  rw [hre] at hB hM
  exact j_ofRun (va_runI (g := F0 m pc ls (As.reverse ++ .ref a :: rest)) ⟨C.1, C.2.1, C.2.2.1, C.2.2.2.2.2.1, ht⟩ hM ⟨hB, hnm, ht _ hI⟩ ⟨jp_blind, ljp_at C hS hW⟩ rfl hk hlv.1.1 rfl (lv_room hr) hd ⟨h1, h2⟩) hS (fun r w H1 locs1 hp hw hS1 => by
    obtain ⟨rfl, hp⟩ := hp
    exact kk w hp p e s m below meth c H1 locs1 ls C hS1 hw hlv)
end LR

section JR
variable {G : GT} {Y : YT} {d mc ms : Nat} {post : OT} {pc n : Nat} {lv : List (Nat × Value)} {st : List Value} {ws : va_W} {kc ks : Nat}
theorem j_iconst {i : Int} (v : Int32) (hd : decode Y.2.1 pc = .ok (.iconst i, 1)) (hn : pc + 1 = n) (hv : Int32.ofInt i = v) (k : JJ G Y d mc ms post n lv (.int v :: st) ws kc ks) : JJ G Y d mc ms post pc lv (st) ws kc ks := by
  subst hn
  intro p e s m args below meth c H locs ls C hS hW hl
  exact lv_iconst C.1 C.2.1 hd hv (k p e s m args below meth c H locs ls C hS hW hl)
theorem j_bipush {i : Int} (v : Int32) (hd : decode Y.2.1 pc = .ok (.bipush i, 2)) (hn : pc + 2 = n) (hv : (Int8.ofInt i).toInt32 = v) (k : JJ G Y d mc ms post n lv (.int v :: st) ws kc ks) : JJ G Y d mc ms post pc lv (st) ws kc ks := by
  subst hn
  intro p e s m args below meth c H locs ls C hS hW hl
  exact lv_bipush C.1 C.2.1 hd hv (k p e s m args below meth c H locs ls C hS hW hl)
theorem j_sipush {i : Int} (v : Int32) (hd : decode Y.2.1 pc = .ok (.sipush i, 3)) (hn : pc + 3 = n) (hv : (Int16.ofInt i).toInt32 = v) (k : JJ G Y d mc ms post n lv (.int v :: st) ws kc ks) : JJ G Y d mc ms post pc lv (st) ws kc ks := by
  subst hn
  intro p e s m args below meth c H locs ls C hS hW hl
  exact lv_sipush C.1 C.2.1 hd hv (k p e s m args below meth c H locs ls C hS hW hl)
theorem j_iload {i : Nat} {x : Int32} (hd : decode Y.2.1 pc = .ok (.iload i, 2)) (hn : pc + 2 = n) (hg : lvg lv i = some (.int x)) (k : JJ G Y d mc ms post n lv (.int x :: st) ws kc ks) : JJ G Y d mc ms post pc lv (st) ws kc ks := by
  subst hn
  intro p e s m args below meth c H locs ls C hS hW hl
  exact lv_iload C.1 C.2.1 hd (lw_at hl hg) (k p e s m args below meth c H locs ls C hS hW hl)
theorem j_iload_n {i : Fin 4} {x : Int32} (hd : decode Y.2.1 pc = .ok (.iload_n i, 1)) (hn : pc + 1 = n) (hg : lvg lv (i : Nat) = some (.int x)) (k : JJ G Y d mc ms post n lv (.int x :: st) ws kc ks) : JJ G Y d mc ms post pc lv (st) ws kc ks := by
  subst hn
  intro p e s m args below meth c H locs ls C hS hW hl
  exact lv_iload_n C.1 C.2.1 hd rfl (lw_at hl hg) (k p e s m args below meth c H locs ls C hS hW hl)
theorem j_aload {i x : Nat} (hd : decode Y.2.1 pc = .ok (.aload i, 2)) (hn : pc + 2 = n) (hg : lvg lv i = some (.ref x)) (k : JJ G Y d mc ms post n lv (.ref x :: st) ws kc ks) : JJ G Y d mc ms post pc lv (st) ws kc ks := by
  subst hn
  intro p e s m args below meth c H locs ls C hS hW hl
  exact lv_aload C.1 C.2.1 hd (lw_at hl hg) (k p e s m args below meth c H locs ls C hS hW hl)
theorem j_aload_n {i : Fin 4} {x : Nat} (hd : decode Y.2.1 pc = .ok (.aload_n i, 1)) (hn : pc + 1 = n) (hg : lvg lv (i : Nat) = some (.ref x)) (k : JJ G Y d mc ms post n lv (.ref x :: st) ws kc ks) : JJ G Y d mc ms post pc lv (st) ws kc ks := by
  subst hn
  intro p e s m args below meth c H locs ls C hS hW hl
  exact lv_aload_n C.1 C.2.1 hd rfl (lw_at hl hg) (k p e s m args below meth c H locs ls C hS hW hl)
theorem j_aloadN {i : Nat} (hd : decode Y.2.1 pc = .ok (.aload i, 2)) (hn : pc + 2 = n) (hg : lvg lv i = some .null) (k : JJ G Y d mc ms post n lv (.null :: st) ws kc ks) : JJ G Y d mc ms post pc lv (st) ws kc ks := by
  subst hn
  intro p e s m args below meth c H locs ls C hS hW hl
  exact lv_aloadN C.1 C.2.1 hd (lw_at hl hg) (k p e s m args below meth c H locs ls C hS hW hl)
theorem j_aload_nN {i : Fin 4} (hd : decode Y.2.1 pc = .ok (.aload_n i, 1)) (hn : pc + 1 = n) (hg : lvg lv (i : Nat) = some .null) (k : JJ G Y d mc ms post n lv (.null :: st) ws kc ks) : JJ G Y d mc ms post pc lv (st) ws kc ks := by
  subst hn
  intro p e s m args below meth c H locs ls C hS hW hl
  exact lv_aload_nN C.1 C.2.1 hd rfl (lw_at hl hg) (k p e s m args below meth c H locs ls C hS hW hl)
theorem j_iadd {x y : Int32} (hd : decode Y.2.1 pc = .ok (.iadd, 1)) (hn : pc + 1 = n) (k : JJ G Y d mc ms post n lv (.int (x + y) :: st) ws kc ks) : JJ G Y d mc ms post pc lv (.int y :: .int x :: st) ws kc ks := by
  subst hn
  intro p e s m args below meth c H locs ls C hS hW hl
  exact lv_iadd C.1 C.2.1 hd (k p e s m args below meth c H locs ls C hS hW hl)
theorem j_isub {x y : Int32} (hd : decode Y.2.1 pc = .ok (.isub, 1)) (hn : pc + 1 = n) (k : JJ G Y d mc ms post n lv (.int (x - y) :: st) ws kc ks) : JJ G Y d mc ms post pc lv (.int y :: .int x :: st) ws kc ks := by
  subst hn
  intro p e s m args below meth c H locs ls C hS hW hl
  exact lv_isub C.1 C.2.1 hd (k p e s m args below meth c H locs ls C hS hW hl)
theorem j_imul {x y : Int32} (hd : decode Y.2.1 pc = .ok (.imul, 1)) (hn : pc + 1 = n) (k : JJ G Y d mc ms post n lv (.int (x * y) :: st) ws kc ks) : JJ G Y d mc ms post pc lv (.int y :: .int x :: st) ws kc ks := by
  subst hn
  intro p e s m args below meth c H locs ls C hS hW hl
  exact lv_imul C.1 C.2.1 hd (k p e s m args below meth c H locs ls C hS hW hl)
theorem j_iand {x y : Int32} (hd : decode Y.2.1 pc = .ok (.iand, 1)) (hn : pc + 1 = n) (k : JJ G Y d mc ms post n lv (.int (x &&& y) :: st) ws kc ks) : JJ G Y d mc ms post pc lv (.int y :: .int x :: st) ws kc ks := by
  subst hn
  intro p e s m args below meth c H locs ls C hS hW hl
  exact lv_iand C.1 C.2.1 hd (k p e s m args below meth c H locs ls C hS hW hl)
theorem j_ior {x y : Int32} (hd : decode Y.2.1 pc = .ok (.ior, 1)) (hn : pc + 1 = n) (k : JJ G Y d mc ms post n lv (.int (x ||| y) :: st) ws kc ks) : JJ G Y d mc ms post pc lv (.int y :: .int x :: st) ws kc ks := by
  subst hn
  intro p e s m args below meth c H locs ls C hS hW hl
  exact lv_ior C.1 C.2.1 hd (k p e s m args below meth c H locs ls C hS hW hl)
theorem j_ixor {x y : Int32} (hd : decode Y.2.1 pc = .ok (.ixor, 1)) (hn : pc + 1 = n) (k : JJ G Y d mc ms post n lv (.int (x ^^^ y) :: st) ws kc ks) : JJ G Y d mc ms post pc lv (.int y :: .int x :: st) ws kc ks := by
  subst hn
  intro p e s m args below meth c H locs ls C hS hW hl
  exact lv_ixor C.1 C.2.1 hd (k p e s m args below meth c H locs ls C hS hW hl)
theorem j_ishl {x y : Int32} (hd : decode Y.2.1 pc = .ok (.ishl, 1)) (hn : pc + 1 = n) (k : JJ G Y d mc ms post n lv (.int (x <<< (y &&& 31)) :: st) ws kc ks) : JJ G Y d mc ms post pc lv (.int y :: .int x :: st) ws kc ks := by
  subst hn
  intro p e s m args below meth c H locs ls C hS hW hl
  exact lv_ishl C.1 C.2.1 hd (k p e s m args below meth c H locs ls C hS hW hl)
theorem j_ishr {x y : Int32} (hd : decode Y.2.1 pc = .ok (.ishr, 1)) (hn : pc + 1 = n) (k : JJ G Y d mc ms post n lv (.int (x >>> (y &&& 31)) :: st) ws kc ks) : JJ G Y d mc ms post pc lv (.int y :: .int x :: st) ws kc ks := by
  subst hn
  intro p e s m args below meth c H locs ls C hS hW hl
  exact lv_ishr C.1 C.2.1 hd (k p e s m args below meth c H locs ls C hS hW hl)
theorem j_iushr {x y : Int32} (hd : decode Y.2.1 pc = .ok (.iushr, 1)) (hn : pc + 1 = n) (k : JJ G Y d mc ms post n lv (.int ((x.toUInt32 >>> (y.toUInt32 &&& Int32.toUInt32 31)).toInt32) :: st) ws kc ks) : JJ G Y d mc ms post pc lv (.int y :: .int x :: st) ws kc ks := by
  subst hn
  intro p e s m args below meth c H locs ls C hS hW hl
  exact lv_iushr C.1 C.2.1 hd rfl (k p e s m args below meth c H locs ls C hS hW hl)
theorem j_idiv {x y : Int32} (hd : decode Y.2.1 pc = .ok (.idiv, 1)) (hn : pc + 1 = n) (hne : ¬ y = 0) (k : JJ G Y d mc ms post n lv (.int (x / y) :: st) ws kc ks) : JJ G Y d mc ms post pc lv (.int y :: .int x :: st) ws kc ks := by
  subst hn
  intro p e s m args below meth c H locs ls C hS hW hl
  exact lv_idiv C.1 C.2.1 hd hne (k p e s m args below meth c H locs ls C hS hW hl)
theorem j_irem {x y : Int32} (hd : decode Y.2.1 pc = .ok (.irem, 1)) (hn : pc + 1 = n) (hne : ¬ y = 0) (k : JJ G Y d mc ms post n lv (.int (x - x / y * y) :: st) ws kc ks) : JJ G Y d mc ms post pc lv (.int y :: .int x :: st) ws kc ks := by
  subst hn
  intro p e s m args below meth c H locs ls C hS hW hl
  exact lv_irem C.1 C.2.1 hd hne (k p e s m args below meth c H locs ls C hS hW hl)
theorem j_i2b {x : Int32} (hd : decode Y.2.1 pc = .ok (.i2b, 1)) (hn : pc + 1 = n) (k : JJ G Y d mc ms post n lv (.int (x.toInt8.toInt32) :: st) ws kc ks) : JJ G Y d mc ms post pc lv (.int x :: st) ws kc ks := by
  subst hn
  intro p e s m args below meth c H locs ls C hS hW hl
  exact lv_i2b C.1 C.2.1 hd rfl (k p e s m args below meth c H locs ls C hS hW hl)
theorem j_dup {v : Value} (hd : decode Y.2.1 pc = .ok (.dup, 1)) (hn : pc + 1 = n) (hc : v.category = 1) (k : JJ G Y d mc ms post n lv (v :: v :: st) ws kc ks) : JJ G Y d mc ms post pc lv (v :: st) ws kc ks := by
  subst hn
  intro p e s m args below meth c H locs ls C hS hW hl
  exact lv_dup C.1 C.2.1 hd hc (k p e s m args below meth c H locs ls C hS hW hl)
theorem j_pop {v : Value} (hd : decode Y.2.1 pc = .ok (.pop, 1)) (hn : pc + 1 = n) (hc : v.category = 1) (k : JJ G Y d mc ms post n lv (st) ws kc ks) : JJ G Y d mc ms post pc lv (v :: st) ws kc ks := by
  subst hn
  intro p e s m args below meth c H locs ls C hS hW hl
  exact lv_pop C.1 C.2.1 hd hc (k p e s m args below meth c H locs ls C hS hW hl)
theorem j_null (hd : decode Y.2.1 pc = .ok (.aconst_null, 1)) (hn : pc + 1 = n) (k : JJ G Y d mc ms post n lv (.null :: st) ws kc ks) : JJ G Y d mc ms post pc lv (st) ws kc ks := by
  subst hn
  intro p e s m args below meth c H locs ls C hS hW hl
  exact lv_null C.1 C.2.1 hd (k p e s m args below meth c H locs ls C hS hW hl)
theorem j_ldc {i : Nat} {v : Int32} (hd : decode Y.2.1 pc = .ok (.ldc i, 2)) (hn : pc + 2 = n) (hw : Cond.constant Y.1.cls i v ∈ BW) (k : JJ G Y d mc ms post n lv (.int v :: st) ws kc ks) : JJ G Y d mc ms post pc lv (st) ws kc ks := by
  subst hn
  intro p e s m args below meth c H locs ls C hS hW hl
  exact lv_ldc C.1 C.2.1 C.2.2.2.2.2.2.1 (C.2.2.2.2.2.2.2.1 _ hw) hd (k p e s m args below meth c H locs ls C hS hW hl)
theorem j_ldcw {i : Nat} {v : Int32} (hd : decode Y.2.1 pc = .ok (.ldc_w i, 3)) (hn : pc + 3 = n) (hw : Cond.constant Y.1.cls i v ∈ BW) (k : JJ G Y d mc ms post n lv (.int v :: st) ws kc ks) : JJ G Y d mc ms post pc lv (st) ws kc ks := by
  subst hn
  intro p e s m args below meth c H locs ls C hS hW hl
  exact lv_ldcw C.1 C.2.1 C.2.2.2.2.2.2.1 (C.2.2.2.2.2.2.2.1 _ hw) hd (k p e s m args below meth c H locs ls C hS hW hl)
theorem j_if_eq {x : Int32} {off : Int} (tgt : Nat) (hd : decode Y.2.1 pc = .ok (.ifCond .eq off, 3)) (ht : (pc : Int) + off = (tgt : Int)) (hn : pc + 3 = n) (kt : x = 0 → JJ G Y d mc ms post tgt lv st ws kc ks) (kf : ¬ x = 0 → JJ G Y d mc ms post n lv st ws kc ks) : JJ G Y d mc ms post pc lv (.int x :: st) ws kc ks := by
  subst hn
  intro p e s m args below meth c H locs ls C hS hW hl
  exact lv_if_eq C.1 C.2.1 hd ht (fun h => kt h p e s m args below meth c H locs ls C hS hW hl) (fun h => kf h p e s m args below meth c H locs ls C hS hW hl)
theorem j_if_ne {x : Int32} {off : Int} (tgt : Nat) (hd : decode Y.2.1 pc = .ok (.ifCond .ne off, 3)) (ht : (pc : Int) + off = (tgt : Int)) (hn : pc + 3 = n) (kt : ¬ x = 0 → JJ G Y d mc ms post tgt lv st ws kc ks) (kf : x = 0 → JJ G Y d mc ms post n lv st ws kc ks) : JJ G Y d mc ms post pc lv (.int x :: st) ws kc ks := by
  subst hn
  intro p e s m args below meth c H locs ls C hS hW hl
  exact lv_if_ne C.1 C.2.1 hd ht (fun h => kt h p e s m args below meth c H locs ls C hS hW hl) (fun h => kf h p e s m args below meth c H locs ls C hS hW hl)
theorem j_if_lt {x : Int32} {off : Int} (tgt : Nat) (hd : decode Y.2.1 pc = .ok (.ifCond .lt off, 3)) (ht : (pc : Int) + off = (tgt : Int)) (hn : pc + 3 = n) (kt : x < 0 → JJ G Y d mc ms post tgt lv st ws kc ks) (kf : ¬ x < 0 → JJ G Y d mc ms post n lv st ws kc ks) : JJ G Y d mc ms post pc lv (.int x :: st) ws kc ks := by
  subst hn
  intro p e s m args below meth c H locs ls C hS hW hl
  exact lv_if_lt C.1 C.2.1 hd ht (fun h => kt h p e s m args below meth c H locs ls C hS hW hl) (fun h => kf h p e s m args below meth c H locs ls C hS hW hl)
theorem j_if_ge {x : Int32} {off : Int} (tgt : Nat) (hd : decode Y.2.1 pc = .ok (.ifCond .ge off, 3)) (ht : (pc : Int) + off = (tgt : Int)) (hn : pc + 3 = n) (kt : 0 ≤ x → JJ G Y d mc ms post tgt lv st ws kc ks) (kf : ¬ 0 ≤ x → JJ G Y d mc ms post n lv st ws kc ks) : JJ G Y d mc ms post pc lv (.int x :: st) ws kc ks := by
  subst hn
  intro p e s m args below meth c H locs ls C hS hW hl
  exact lv_if_ge C.1 C.2.1 hd ht (fun h => kt h p e s m args below meth c H locs ls C hS hW hl) (fun h => kf h p e s m args below meth c H locs ls C hS hW hl)
theorem j_if_gt {x : Int32} {off : Int} (tgt : Nat) (hd : decode Y.2.1 pc = .ok (.ifCond .gt off, 3)) (ht : (pc : Int) + off = (tgt : Int)) (hn : pc + 3 = n) (kt : 0 < x → JJ G Y d mc ms post tgt lv st ws kc ks) (kf : ¬ 0 < x → JJ G Y d mc ms post n lv st ws kc ks) : JJ G Y d mc ms post pc lv (.int x :: st) ws kc ks := by
  subst hn
  intro p e s m args below meth c H locs ls C hS hW hl
  exact lv_if_gt C.1 C.2.1 hd ht (fun h => kt h p e s m args below meth c H locs ls C hS hW hl) (fun h => kf h p e s m args below meth c H locs ls C hS hW hl)
theorem j_if_le {x : Int32} {off : Int} (tgt : Nat) (hd : decode Y.2.1 pc = .ok (.ifCond .le off, 3)) (ht : (pc : Int) + off = (tgt : Int)) (hn : pc + 3 = n) (kt : x ≤ 0 → JJ G Y d mc ms post tgt lv st ws kc ks) (kf : ¬ x ≤ 0 → JJ G Y d mc ms post n lv st ws kc ks) : JJ G Y d mc ms post pc lv (.int x :: st) ws kc ks := by
  subst hn
  intro p e s m args below meth c H locs ls C hS hW hl
  exact lv_if_le C.1 C.2.1 hd ht (fun h => kt h p e s m args below meth c H locs ls C hS hW hl) (fun h => kf h p e s m args below meth c H locs ls C hS hW hl)
theorem j_icmp_eq {x y : Int32} {off : Int} (tgt : Nat) (hd : decode Y.2.1 pc = .ok (.if_icmp .eq off, 3)) (ht : (pc : Int) + off = (tgt : Int)) (hn : pc + 3 = n) (kt : x = y → JJ G Y d mc ms post tgt lv st ws kc ks) (kf : ¬ x = y → JJ G Y d mc ms post n lv st ws kc ks) : JJ G Y d mc ms post pc lv (.int y :: .int x :: st) ws kc ks := by
  subst hn
  intro p e s m args below meth c H locs ls C hS hW hl
  exact lv_icmp_eq C.1 C.2.1 hd ht (fun h => kt h p e s m args below meth c H locs ls C hS hW hl) (fun h => kf h p e s m args below meth c H locs ls C hS hW hl)
theorem j_icmp_ne {x y : Int32} {off : Int} (tgt : Nat) (hd : decode Y.2.1 pc = .ok (.if_icmp .ne off, 3)) (ht : (pc : Int) + off = (tgt : Int)) (hn : pc + 3 = n) (kt : ¬ x = y → JJ G Y d mc ms post tgt lv st ws kc ks) (kf : x = y → JJ G Y d mc ms post n lv st ws kc ks) : JJ G Y d mc ms post pc lv (.int y :: .int x :: st) ws kc ks := by
  subst hn
  intro p e s m args below meth c H locs ls C hS hW hl
  exact lv_icmp_ne C.1 C.2.1 hd ht (fun h => kt h p e s m args below meth c H locs ls C hS hW hl) (fun h => kf h p e s m args below meth c H locs ls C hS hW hl)
theorem j_icmp_lt {x y : Int32} {off : Int} (tgt : Nat) (hd : decode Y.2.1 pc = .ok (.if_icmp .lt off, 3)) (ht : (pc : Int) + off = (tgt : Int)) (hn : pc + 3 = n) (kt : x < y → JJ G Y d mc ms post tgt lv st ws kc ks) (kf : ¬ x < y → JJ G Y d mc ms post n lv st ws kc ks) : JJ G Y d mc ms post pc lv (.int y :: .int x :: st) ws kc ks := by
  subst hn
  intro p e s m args below meth c H locs ls C hS hW hl
  exact lv_icmp_lt C.1 C.2.1 hd ht (fun h => kt h p e s m args below meth c H locs ls C hS hW hl) (fun h => kf h p e s m args below meth c H locs ls C hS hW hl)
theorem j_icmp_ge {x y : Int32} {off : Int} (tgt : Nat) (hd : decode Y.2.1 pc = .ok (.if_icmp .ge off, 3)) (ht : (pc : Int) + off = (tgt : Int)) (hn : pc + 3 = n) (kt : y ≤ x → JJ G Y d mc ms post tgt lv st ws kc ks) (kf : ¬ y ≤ x → JJ G Y d mc ms post n lv st ws kc ks) : JJ G Y d mc ms post pc lv (.int y :: .int x :: st) ws kc ks := by
  subst hn
  intro p e s m args below meth c H locs ls C hS hW hl
  exact lv_icmp_ge C.1 C.2.1 hd ht (fun h => kt h p e s m args below meth c H locs ls C hS hW hl) (fun h => kf h p e s m args below meth c H locs ls C hS hW hl)
theorem j_icmp_gt {x y : Int32} {off : Int} (tgt : Nat) (hd : decode Y.2.1 pc = .ok (.if_icmp .gt off, 3)) (ht : (pc : Int) + off = (tgt : Int)) (hn : pc + 3 = n) (kt : y < x → JJ G Y d mc ms post tgt lv st ws kc ks) (kf : ¬ y < x → JJ G Y d mc ms post n lv st ws kc ks) : JJ G Y d mc ms post pc lv (.int y :: .int x :: st) ws kc ks := by
  subst hn
  intro p e s m args below meth c H locs ls C hS hW hl
  exact lv_icmp_gt C.1 C.2.1 hd ht (fun h => kt h p e s m args below meth c H locs ls C hS hW hl) (fun h => kf h p e s m args below meth c H locs ls C hS hW hl)
theorem j_icmp_le {x y : Int32} {off : Int} (tgt : Nat) (hd : decode Y.2.1 pc = .ok (.if_icmp .le off, 3)) (ht : (pc : Int) + off = (tgt : Int)) (hn : pc + 3 = n) (kt : x ≤ y → JJ G Y d mc ms post tgt lv st ws kc ks) (kf : ¬ x ≤ y → JJ G Y d mc ms post n lv st ws kc ks) : JJ G Y d mc ms post pc lv (.int y :: .int x :: st) ws kc ks := by
  subst hn
  intro p e s m args below meth c H locs ls C hS hW hl
  exact lv_icmp_le C.1 C.2.1 hd ht (fun h => kt h p e s m args below meth c H locs ls C hS hW hl) (fun h => kf h p e s m args below meth c H locs ls C hS hW hl)
theorem j_goto {off : Int} (tgt : Nat) (hd : decode Y.2.1 pc = .ok (.goto off, 3)) (ht : (pc : Int) + off = (tgt : Int)) (k : JJ G Y d mc ms post tgt lv st ws kc ks) : JJ G Y d mc ms post pc lv st ws kc ks := by
  intro p e s m args below meth c H locs ls C hS hW hl
  exact lv_goto C.1 C.2.1 hd ht (k p e s m args below meth c H locs ls C hS hW hl)
theorem j_ifnull {a : Nat} {off : Int} (hd : decode Y.2.1 pc = .ok (.ifnull off, 3)) (hn : pc + 3 = n) (k : JJ G Y d mc ms post n lv st ws kc ks) : JJ G Y d mc ms post pc lv (.ref a :: st) ws kc ks := by
  subst hn
  intro p e s m args below meth c H locs ls C hS hW hl
  exact lv_ifnull C.1 C.2.1 hd (k p e s m args below meth c H locs ls C hS hW hl)
theorem j_ifnullN {off : Int} (tgt : Nat) (hd : decode Y.2.1 pc = .ok (.ifnull off, 3)) (ht : (pc : Int) + off = (tgt : Int)) (k : JJ G Y d mc ms post tgt lv st ws kc ks) : JJ G Y d mc ms post pc lv (.null :: st) ws kc ks := by
  intro p e s m args below meth c H locs ls C hS hW hl
  exact lv_ifnullN C.1 C.2.1 hd ht (k p e s m args below meth c H locs ls C hS hW hl)
theorem j_ifnonnull {a : Nat} {off : Int} (tgt : Nat) (hd : decode Y.2.1 pc = .ok (.ifnonnull off, 3)) (ht : (pc : Int) + off = (tgt : Int)) (k : JJ G Y d mc ms post tgt lv st ws kc ks) : JJ G Y d mc ms post pc lv (.ref a :: st) ws kc ks := by
  intro p e s m args below meth c H locs ls C hS hW hl
  exact lv_ifnonnull C.1 C.2.1 hd ht (k p e s m args below meth c H locs ls C hS hW hl)
theorem j_ifnonnullN {off : Int} (hd : decode Y.2.1 pc = .ok (.ifnonnull off, 3)) (hn : pc + 3 = n) (k : JJ G Y d mc ms post n lv st ws kc ks) : JJ G Y d mc ms post pc lv (.null :: st) ws kc ks := by
  subst hn
  intro p e s m args below meth c H locs ls C hS hW hl
  exact lv_ifnonnullN C.1 C.2.1 hd (k p e s m args below meth c H locs ls C hS hW hl)
theorem j_istore {i : Nat} {x : Int32} (hd : decode Y.2.1 pc = .ok (.istore i, 2)) (hn : pc + 2 = n) (hi : i < Y.2.2.1) (k : JJ G Y d mc ms post n (lvs lv i (.int x)) st ws kc ks) : JJ G Y d mc ms post pc lv (.int x :: st) ws kc ks := by
  subst hn
  intro p e s m args below meth c H locs ls C hS hW hl
  exact lv_istore C.1 C.2.1 hd hl.1 hi rfl (fun ls1 h1 => k p e s m args below meth c H locs ls1 C hS hW (lw_stored rfl hl h1))
theorem j_istore_n {i : Fin 4} {x : Int32} (hd : decode Y.2.1 pc = .ok (.istore_n i, 1)) (hn : pc + 1 = n) (hi : (i : Nat) < Y.2.2.1) (k : JJ G Y d mc ms post n (lvs lv (i : Nat) (.int x)) st ws kc ks) : JJ G Y d mc ms post pc lv (.int x :: st) ws kc ks := by
  subst hn
  intro p e s m args below meth c H locs ls C hS hW hl
  exact lv_istore_n C.1 C.2.1 hd rfl hl.1 hi rfl (fun ls1 h1 => k p e s m args below meth c H locs ls1 C hS hW (lw_stored rfl hl h1))
theorem j_astore {i : Nat} {x : Nat} (hd : decode Y.2.1 pc = .ok (.astore i, 2)) (hn : pc + 2 = n) (hi : i < Y.2.2.1) (k : JJ G Y d mc ms post n (lvs lv i (.ref x)) st ws kc ks) : JJ G Y d mc ms post pc lv (.ref x :: st) ws kc ks := by
  subst hn
  intro p e s m args below meth c H locs ls C hS hW hl
  exact lv_astore C.1 C.2.1 hd hl.1 hi rfl (fun ls1 h1 => k p e s m args below meth c H locs ls1 C hS hW (lw_stored rfl hl h1))
theorem j_astore_n {i : Fin 4} {x : Nat} (hd : decode Y.2.1 pc = .ok (.astore_n i, 1)) (hn : pc + 1 = n) (hi : (i : Nat) < Y.2.2.1) (k : JJ G Y d mc ms post n (lvs lv (i : Nat) (.ref x)) st ws kc ks) : JJ G Y d mc ms post pc lv (.ref x :: st) ws kc ks := by
  subst hn
  intro p e s m args below meth c H locs ls C hS hW hl
  exact lv_astore_n C.1 C.2.1 hd rfl hl.1 hi rfl (fun ls1 h1 => k p e s m args below meth c H locs ls1 C hS hW (lw_stored rfl hl h1))
theorem j_astoreN {i : Nat} (hd : decode Y.2.1 pc = .ok (.astore i, 2)) (hn : pc + 2 = n) (hi : i < Y.2.2.1) (k : JJ G Y d mc ms post n (lvs lv i (.null)) st ws kc ks) : JJ G Y d mc ms post pc lv (.null :: st) ws kc ks := by
  subst hn
  intro p e s m args below meth c H locs ls C hS hW hl
  exact lv_astoreN C.1 C.2.1 hd hl.1 hi rfl (fun ls1 h1 => k p e s m args below meth c H locs ls1 C hS hW (lw_stored rfl hl h1))
theorem j_astore_nN {i : Fin 4} (hd : decode Y.2.1 pc = .ok (.astore_n i, 1)) (hn : pc + 1 = n) (hi : (i : Nat) < Y.2.2.1) (k : JJ G Y d mc ms post n (lvs lv (i : Nat) (.null)) st ws kc ks) : JJ G Y d mc ms post pc lv (.null :: st) ws kc ks := by
  subst hn
  intro p e s m args below meth c H locs ls C hS hW hl
  exact lv_astore_nN C.1 C.2.1 hd rfl hl.1 hi rfl (fun ls1 h1 => k p e s m args below meth c H locs ls1 C hS hW (lw_stored rfl hl h1))
theorem lvg_place {l : List (Nat × Value)} {i : Nat} {v : Value} (h : lvg l i = some v) : ∃ k : Nat, l[k]? = some (i, v) := by
  obtain ⟨k, hk⟩ := List.getElem?_of_mem (lvg_mem h)
  exact ⟨k, hk⟩
theorem j_iinc {i : Nat} {j : Int} {x : Int32} (v : Int32) (hd : decode Y.2.1 pc = .ok (.iinc i j, 3)) (hn : pc + 3 = n) (hg : lvg lv i = some (.int x)) (hv : x + Int32.ofInt j = v) (hi : i < Y.2.2.1) (k : JJ G Y d mc ms post n (lvs lv i (.int v)) st ws kc ks) : JJ G Y d mc ms post pc lv st ws kc ks := by
  subst hn
  obtain ⟨kp, hkp⟩ := lvg_place hg
  intro p e s m args below meth c H locs ls C hS hW hl
  exact lv_iinc C.1 C.2.1 hd hl.1 hkp hv hi rfl (fun ls1 h1 => k p e s m args below meth c H locs ls1 C hS hW (lw_stored rfl hl h1))
/-- fewer locals -/
theorem j_keep (is : List Nat) {lv' : List (Nat × Value)} (h : lvk lv is = lv') (k : JJ G Y d mc ms post pc lv' st ws kc ks) : JJ G Y d mc ms post pc lv st ws kc ks := by
  subst h
  intro p e s m args below meth c H locs ls C hS hW hl
  exact k p e s m args below meth c H locs ls C hS hW (lw_keep is hl)
theorem j_eq {pc' : Nat} {lv' : List (Nat × Value)} {st' : List Value} {ws' : va_W} (h1 : pc = pc') (h2 : lv = lv') (h3 : st = st') (h4 : ws = ws') (k : JJ G Y d mc ms post pc' lv' st' ws' kc ks) : JJ G Y d mc ms post pc lv st ws kc ks := by
  subst h1; subst h2; subst h3; subst h4; exact k
theorem j_widen {kc' ks' : Nat} (h1 : kc ≤ kc') (h2 : ks ≤ ks') (k : JJ G Y d mc ms post pc lv st ws kc' ks') : JJ G Y d mc ms post pc lv st ws kc ks := by
  intro p e s m args below meth c H locs ls C hS hW hl
  exact W.widen h1 h2 (k p e s m args below meth c H locs ls C hS hW hl)
/-- the end of a method that answers an int (or a truth) -/
def Qi (f : Int32 → va_W → Prop) : OT := fun r w => ∃ v : Int32, r = some (.int v) ∧ f v w
def Qv (f : va_W → Prop) : OT := fun r w => r = none ∧ f w
def Qr (f : Option Nat → va_W → Prop) : OT := fun r w => ∃ o : Option Nat, r = some (va_rf o) ∧ f o w
theorem j_iret {v : Int32} {ty : FieldType} {f : Int32 → va_W → Prop} (hd : decode Y.2.1 pc = .ok (.ireturn, 1)) (hr : Y.2.2.2 = some ty) (hnr : narrow ty (.int v) = .int v) (h1 : kc ≤ mc) (h2 : ks ≤ ms) (h : f v ws) : JJ G Y d mc ms (Qi f) pc lv [.int v] ws kc ks := by
  intro p e s m args below meth c H locs ls C hS hW hl
  refine W.widen h1 h2 ?_
  exact W.zret (hlocks := C.2.2.2.2.1) C.1 C.2.1 (C.2.2.2.1.trans hr) hnr (fun t ht hw => ⟨⟨_, ws, rfl, ⟨v, rfl, h⟩, by rw [ht]; exact hW⟩, hS.F ht⟩) hS.2.2 hd
theorem j_vret {f : va_W → Prop} (hd : decode Y.2.1 pc = .ok (.return_, 1)) (hr : Y.2.2.2 = none) (h1 : kc ≤ mc) (h2 : ks ≤ ms) (h : f ws) : JJ G Y d mc ms (Qv f) pc lv [] ws kc ks := by
  intro p e s m args below meth c H locs ls C hS hW hl
  refine W.widen h1 h2 ?_
  exact W.vret (hlocks := C.2.2.2.2.1) C.1 C.2.1 (C.2.2.2.1.trans hr) (fun t ht hw => ⟨⟨_, ws, rfl, ⟨rfl, h⟩, by rw [ht]; exact hW⟩, hS.F ht⟩) hS.2.2 hd
theorem va_rf_cases (o : Option Nat) : va_rf o = .null ∨ ∃ a, va_rf o = .ref a := by cases o with
  | none => exact Or.inl rfl
  | some a => exact Or.inr ⟨a, rfl⟩
theorem j_aret (o : Option Nat) {v : Value} (hv : v = va_rf o) {rt : FieldType} {f : Option Nat → va_W → Prop} (hd : decode Y.2.1 pc = .ok (.areturn, 1)) (hr : Y.2.2.2 = some rt) (hrt : (∃ n, rt = .object n) ∨ ∃ t, rt = .array t) (h1 : kc ≤ mc) (h2 : ks ≤ ms) (h : f o ws) : JJ G Y d mc ms (Qr f) pc lv [v] ws kc ks := by
  subst hv
  intro p e s m args below meth c H locs ls C hS hW hl
  refine W.widen h1 h2 ?_
  exact W.aret (hlocks := C.2.2.2.2.1) C.1 C.2.1 (C.2.2.2.1.trans hr) hrt (va_rf_cases o) (fun t ht hw => ⟨⟨_, ws, rfl, ⟨o, rfl, h⟩, by rw [ht]; exact hW⟩, hS.F ht⟩) hS.2.2 hd
theorem j_lookup {dflt : Int} {ps : Array (Int × Int)} {len : Nat} {x : Int32} {off : Int} (tgt : Nat) (hd : decode Y.2.1 pc = .ok (.lookupswitch dflt ps, len)) (hp : (ps.toList.zip (ps.toList.drop 1)).all (fun (a, next) => a.1 < next.1) = true) (ho : Op.lookupswitch.offset ps.toList dflt x.toInt = off) (ht : (pc : Int) + off = (tgt : Int)) (k : JJ G Y d mc ms post tgt lv st ws kc ks) : JJ G Y d mc ms post pc lv (.int x :: st) ws kc ks := by
  intro p e s m args below meth c H locs ls C hS hW hl
  exact lv_lookup C.1 C.2.1 hd hp ho ht (k p e s m args below meth c H locs ls C hS hW hl)
theorem j_tableOut {dflt lo hi : Int} {offs : Array Int} {len : Nat} {x : Int32} (tgt : Nat) (hd : decode Y.2.1 pc = .ok (.tableswitch dflt lo hi offs, len)) (h : x.toInt < lo ∨ hi < x.toInt) (ht : (pc : Int) + dflt = (tgt : Int)) (k : JJ G Y d mc ms post tgt lv st ws kc ks) : JJ G Y d mc ms post pc lv (.int x :: st) ws kc ks := by
  intro p e s m args below meth c H locs ls C hS hW hl
  exact lv_tableOut C.1 C.2.1 hd h ht (k p e s m args below meth c H locs ls C hS hW hl)
theorem j_tableIn {dflt lo hi : Int} {offs : Array Int} {len : Nat} {x : Int32} {off : Int} (tgt : Nat) (hd : decode Y.2.1 pc = .ok (.tableswitch dflt lo hi offs, len)) (h1 : ¬ x.toInt < lo) (h2 : ¬ hi < x.toInt) (ho : offs[(x.toInt - lo).toNat]? = some off) (ht : (pc : Int) + off = (tgt : Int)) (k : JJ G Y d mc ms post tgt lv st ws kc ks) : JJ G Y d mc ms post pc lv (.int x :: st) ws kc ks := by
  intro p e s m args below meth c H locs ls C hS hW hl
  exact lv_tableIn C.1 C.2.1 hd h1 h2 ho ht (k p e s m args below meth c H locs ls C hS hW hl)
end JR

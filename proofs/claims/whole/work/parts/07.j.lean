/-! ONE JUDGEMENT FOR ALL METHODS. The world is a list of cells (va_W); a contract (JM) and the judgement inside a method (JJ) speak of lists, locals and stacks alone: the machine, the tables' words, the room and the frame are dealt with here, once. -/
/-- launch; classes' numbers; array classes; the base: cells from there on are ours; the two static arrays -/
abbrev GT : Type := Launch × va_G × List (ClassId × FieldType) × Nat × Nat × Nat
/-- a method: name, bytes, locals, what it returns -/
abbrev YT : Type := MethodName × ByteArray × Nat × Option FieldType
abbrev OT : Type := Option Value → va_W → Prop
def BW : List Cond := lw_tbl.filter goodWord
def isNest (w : Cond) : Bool := match w with
  | .fieldLinkNest .. => true
  | .methodLinkNest .. => true
  | _ => false
def NW : List Cond := tables_1.filter isNest
theorem bw_of {i : Nat} {w : Cond} (h : lw_tbl[i]? = some w) (hg : goodWord w = true) : w ∈ BW := List.mem_filter.mpr ⟨List.mem_of_getElem? h, hg⟩
theorem nw_of {i : Nat} {w : Cond} (h : tables_1[i]? = some w) (hg : isNest w = true) : w ∈ NW := List.mem_filter.mpr ⟨List.mem_of_getElem? h, hg⟩
theorem bw_good {w : Cond} (h : w ∈ BW) : (w.onTables && w.keeps) = true ∨ ∃ ty, w = .arrayClass ty := good_of_word (List.mem_filter.mp h).2
def fXS : Nat → Value := fun j => if j < 2 then .int 1 else .int 2
def fYS : Nat → Value := fun j => if j % 2 = 0 then .int 1 else .int 2
def JA (G : GT) : Nat → Prop := fun q => G.2.2.2.1 ≤ q
/-- the classes of int[], byte[], boolean[], Register[], Entry[] -/
def gI (G : GT) : ClassId := (G.2.2.1.getD 0 (0, .int)).1
def gB (G : GT) : ClassId := (G.2.2.1.getD 1 (0, .int)).1
def gZ (G : GT) : ClassId := (G.2.2.1.getD 2 (0, .int)).1
def gR (G : GT) : ClassId := (G.2.2.1.getD 3 (0, .int)).1
def gE (G : GT) : ClassId := (G.2.2.1.getD 4 (0, .int)).1
def GOK (G : GT) : Prop := G.2.2.1[0]? = some (gI G, .int) ∧ G.2.2.1[1]? = some (gB G, .byte) ∧ G.2.2.1[2]? = some (gZ G, .boolean) ∧ G.2.2.1[3]? = some (gR G, .object RX5) ∧ G.2.2.1[4]? = some (gE G, .object RX0)
def JK (G : GT) (U : State) (H : Heap) : Prop :=
  GOK G ∧ va_K G.2.1 vwCl G.2.2.1 U ∧ (∀ w ∈ NW, va_Nw w U) ∧ va_AO RX5 U ∧ va_AO RX0 U ∧
  va_Z "NameGuard$Measure" "X_SIGNS" "[I" (.ref G.2.2.2.2.1) (JA G) U H ∧ va_T .int G.2.2.2.2.1 4 fXS (JA G) U H ∧
  va_Z "NameGuard$Measure" "Y_SIGNS" "[I" (.ref G.2.2.2.2.2) (JA G) U H ∧ va_T .int G.2.2.2.2.2 4 fYS (JA G) U H
theorem nw_warm {w : Cond} (hw : w ∈ NW) {u U : State} (hW : u.WarmedH U.vm) (h : va_Nw w u) : va_Nw w U := by
  have hn := (List.mem_filter.mp hw).2
  cases w <;> first | exact va_Nw.warmF hW h | exact va_Nw.warmM hW h | (simp [isNest] at hn)
theorem nw_same {w : Cond} (hw : w ∈ NW) {u U : State} (hW : u.vm = U.vm) (h : va_Nw w u) : va_Nw w U := by
  have hn := (List.mem_filter.mp hw).2
  cases w <;> first | exact va_Nw.same rfl hW h | (simp [isNest] at hn)
theorem JK.moved {G : GT} {u U : State} {H H1 : Heap} (hW : u.WarmedH U.vm) (hq : ∀ a : Nat, a < H.size → ¬ JA G a → H1[a]? = H[a]?) (h : JK G u H) : JK G U H1 := by
  obtain ⟨h0, h1, h2, h3, h4, h5, h6, h7, h8⟩ := h
  exact ⟨h0, h1.moved hW.alike, fun w hw => nw_warm hw hW (h2 w hw), h3.moved hW.alike, h4.moved hW.alike, (h5.kept hq).moved hW.alike, (h6.kept hq).moved hW.alike, (h7.kept hq).moved hW.alike, (h8.kept hq).moved hW.alike⟩
theorem JK.same {G : GT} {u U : State} {H : Heap} (hW : u.vm = U.vm) (h : JK G u H) : JK G U H := by
  obtain ⟨h0, h1, h2, h3, h4, h5, h6, h7, h8⟩ := h
  have ha : u.vm.Alike U.vm := by rw [hW]; exact Vm.Alike.refl _
  exact ⟨h0, h1.moved ha, fun w hw => nw_same hw hW (h2 w hw), h3.moved ha, h4.moved ha, h5.moved ha, h6.moved ha, h7.moved ha, h8.moved ha⟩
def JW (G : GT) (ws : va_W) (H : Heap) : Prop := va_P G.2.1 vwCl ws H ∧ va_D (JA G) ws
/-- locals: sorted, of one slot each -/
def lvg : List (Nat × Value) → Nat → Option Value
  | [], _ => none
  | (j, w) :: l, i => if j = i then some w else lvg l i
def lvs : List (Nat × Value) → Nat → Value → List (Nat × Value)
  | [], i, v => [(i, v)]
  | (j, w) :: l, i, v => if j < i then (j, w) :: lvs l i v else if j = i then (i, v) :: l else (i, v) :: (j, w) :: l
def lvk (l : List (Nat × Value)) (ks : List Nat) : List (Nat × Value) := l.filter (fun q => ks.contains q.1)
def lvok (l : List (Nat × Value)) : Bool := l.all (fun q => q.2.category == 1)
def lw_has (ls : Array Slot) (nL : Nat) (l : List (Nat × Value)) : Prop := lv_has ls nL l ∧ (∀ q ∈ l, q.2.category = 1) ∧ l.Pairwise (fun a b => a.1 < b.1)
theorem lvg_mem {l : List (Nat × Value)} {i : Nat} {v : Value} (h : lvg l i = some v) : (i, v) ∈ l := by
  induction l with
  | nil => cases h
  | cons q l ih =>
    obtain ⟨j, w⟩ := q
    by_cases hj : j = i
    · subst hj
      simp only [lvg, if_true] at h
      cases h
      exact List.mem_cons_self
    · simp only [lvg, if_neg hj] at h
      exact List.mem_cons_of_mem _ (ih h)
theorem lvs_mem {l : List (Nat × Value)} {i : Nat} {v : Value} (hp : l.Pairwise (fun a b => a.1 < b.1)) {q : Nat × Value} (h : q ∈ lvs l i v) : q = (i, v) ∨ (q ∈ l ∧ q.1 ≠ i) := by
  induction l with
  | nil => exact Or.inl (List.mem_singleton.mp h)
  | cons a l ih =>
    obtain ⟨j, w⟩ := a
    obtain ⟨h1, h2⟩ := List.pairwise_cons.mp hp
    unfold lvs at h
    split at h
    · next hlt =>
      rcases List.mem_cons.mp h with rfl | h
      · exact Or.inr ⟨List.mem_cons_self, by show j ≠ i; omega⟩
      · rcases ih h2 h with h | ⟨h, h'⟩
        · exact Or.inl h
        · exact Or.inr ⟨List.mem_cons_of_mem _ h, h'⟩
    · split at h
      · next hge he =>
        rcases List.mem_cons.mp h with rfl | h
        · exact Or.inl rfl
        · have := h1 q h
          exact Or.inr ⟨List.mem_cons_of_mem _ h, by simp only at this; omega⟩
      · next hge hne =>
        rcases List.mem_cons.mp h with rfl | h
        · exact Or.inl rfl
        · refine Or.inr ⟨h, ?_⟩
          rcases List.mem_cons.mp h with rfl | h
          · exact hne
          · have := h1 q h
            simp only at this
            omega
theorem lvs_pw {l : List (Nat × Value)} {i : Nat} {v : Value} (hp : l.Pairwise (fun a b => a.1 < b.1)) : (lvs l i v).Pairwise (fun a b => a.1 < b.1) := by
  induction l with
  | nil => exact List.pairwise_singleton _ _
  | cons a l ih =>
    obtain ⟨j, w⟩ := a
    obtain ⟨h1, h2⟩ := List.pairwise_cons.mp hp
    unfold lvs
    split
    · next hlt =>
      refine List.pairwise_cons.mpr ⟨fun q hq => ?_, ih h2⟩
      rcases lvs_mem h2 hq with rfl | ⟨h, -⟩
      · exact hlt
      · exact h1 q h
    · split
      · next hge he =>
        subst he
        exact List.pairwise_cons.mpr ⟨fun q hq => h1 q hq, h2⟩
      · next hge hne =>
        refine List.pairwise_cons.mpr ⟨fun q hq => ?_, hp⟩
        rcases List.mem_cons.mp hq with rfl | h
        · show i < j; omega
        · have := h1 q h
          simp only at this
          show i < q.1
          omega
theorem lw_at {ls : Array Slot} {nL : Nat} {l : List (Nat × Value)} (h : lw_has ls nL l) {i : Nat} {v : Value} (hg : lvg l i = some v) : ls[i]? = some (.val v) := h.1.2.2 (i, v) (lvg_mem hg)
theorem lw_stored {ls : Array Slot} {nL : Nat} {l : List (Nat × Value)} {i : Nat} {v : Value} (hc : v.category = 1) (h : lw_has ls nL l) {ls' : Array Slot} (h' : lv_has ls' nL ((i, v) :: l.filter (fun q => !(q.1 == i) && !(q.1 + 1 == i && q.2.category == 2)))) : lw_has ls' nL (lvs l i v) := by
  obtain ⟨-, h2, h3⟩ := h
  refine ⟨⟨h'.1, h'.2.1, fun q hq => ?_⟩, fun q hq => ?_, lvs_pw h3⟩
  · rcases lvs_mem h3 hq with rfl | ⟨hm, hne⟩
    · exact h'.2.2 _ List.mem_cons_self
    · refine h'.2.2 _ (List.mem_cons_of_mem _ (List.mem_filter.mpr ⟨hm, ?_⟩))
      simp [hne, h2 q hm]
  · rcases lvs_mem h3 hq with rfl | ⟨hm, -⟩
    · exact hc
    · exact h2 q hm
theorem lw_keep {ls : Array Slot} {nL : Nat} {l : List (Nat × Value)} (ks : List Nat) (h : lw_has ls nL l) : lw_has ls nL (lvk l ks) := by
  obtain ⟨h1, h2, h3⟩ := h
  exact ⟨⟨h1.1, h1.2.1, fun q hq => h1.2.2 q (List.mem_filter.mp hq).1⟩, fun q hq => h2 q (List.mem_filter.mp hq).1, h3.filter _⟩
/-- the room at depth d -/
def rm (d mc ms : Nat) : Room := { frames := d, cells := mc, slots := ms, locals := 41 * d }
def JC (G : GT) (Y : YT) (p : Program) (s : State) (m : MethodId) (args : Array Value) (meth : Method) (c : Code) : Prop :=
  p.tables.exec = Jvm.exec ∧ c.code = Y.2.1 ∧ c.maxLocals = Y.2.2.1 ∧ meth.sig.returnType = Y.2.2.2 ∧ meth.locks = false ∧ meth.name = Y.1.name ∧ s.vm.findClass Y.1.cls = some m.cls ∧ (∀ w ∈ BW, w.before args s = true) ∧ JK G s s.heap ∧ G.2.2.2.1 ≤ s.heap.size
def JQ (G : GT) (post : OT) : Array Value → State → Outcome → State → Prop := fun _ st oc t => (∃ (r : Option Value) (w : va_W), oc = .returned r ∧ post r w ∧ JW G w t.heap) ∧ va_F (JA G) st t
def JP (G : GT) (av : List Value) (ws : va_W) : Array Value → State → Prop := va_Pc av (fun U => G.2.2.2.1 ≤ U.heap.size ∧ JK G U U.heap ∧ JW G ws U.heap)
/-- a method's contract: called with av in the world ws it ends, and post holds of its answer and the world behind it -/
def JM (G : GT) (Y : YT) (d mc ms : Nat) (av : List Value) (ws : va_W) (post : OT) : Prop :=
  Met G.1 Y.1 (.code Y.1 Y.2.1 Y.2.2.1 Y.2.2.2 :: BW) (rm d mc ms) (JP G av ws) (JQ G post) mc ms (JA G)
/-- inside a method: at pc, with these locals, stack and world, kc cells and ks slots made so far, it comes to its end with post -/
def JJ (G : GT) (Y : YT) (d mc ms : Nat) (post : OT) (pc : Nat) (lv : List (Nat × Value)) (st : List Value) (ws : va_W) (kc ks : Nat) : Prop :=
  ∀ (p : Program) (e : Env) (s : State) (m : MethodId) (args : Array Value) (below : List Frame) (meth : Method) (c : Code) (H : Heap) (locs : List Loc) (ls : Array Slot),
    JC G Y p s m args meth c → va_S (JA G) s.heap H locs → JW G ws H → lw_has ls Y.2.2.1 lv →
    W p G.1 e (rm d mc ms) s m args below meth c H locs kc ks (MQ below (JQ G post) args s mc ms (JA G)) (F0 m pc ls st)
theorem JM.of {G : GT} {Y : YT} {d mc ms : Nat} {av : List Value} {ws : va_W} {post : OT} (lv : List (Nat × Value)) (hlv : lv_args 0 av = lv) (hok : lvok lv = true) (hpw : lv.Pairwise (fun a b => a.1 < b.1)) (hn : (lg_sl av).length ≤ Y.2.2.1) (hy : plainName Y.1.cls = true)
    (k : JJ G Y d mc ms post 0 lv [] ws 0 0) : JM G Y d mc ms av ws post := by
  refine Met.ofW (cc := Y.2.1) (maxL := Y.2.2.1) (ret := Y.2.2.2) hy rfl ?_
  intro p e s m args below meth c s₁ B hml hv
  obtain ⟨rfl, hz, hK, hW⟩ := hv
  have hl := lv_entry av (n := Y.2.2.1) hn
  rw [lg_entry_eq]
  generalize (lg_sl av ++ List.replicate (Y.2.2.1 - (lg_sl av).length) Slot.unset).toArray = ls at hl ⊢
  rw [hlv] at hl
  refine k p e s m _ below meth c s.heap [] ls ⟨B.exec, B.bytes, hml, B.returns, B.notSynchronized, (name_of_methodNamed B.named B.method).1, findClass_of_methodNamed B.named, fun w hw => atoms_spec (ws := .code Y.1 Y.2.1 Y.2.2.1 Y.2.2.2 :: BW) B.pre w (List.mem_cons_of_mem _ hw), hK, hz⟩ va_S.rf hW ⟨hl, fun q hq => ?_, hpw⟩
  have := List.all_eq_true.mp hok q hq
  simpa using this

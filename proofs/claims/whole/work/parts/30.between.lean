/-! costBetween -/
abbrev tLen (r : TR) : Nat := r.2.1
abbrev tT (r : TR) : Nat → Int32 := r.2.2.1
abbrev tS (r : TR) : Nat → Int32 := r.2.2.2.1
abbrev tN (r : TR) : Nat := r.2.2.2.2.1
abbrev tSt (r : TR) : Int32 := r.2.2.2.2.2.1
abbrev tU (r : TR) : Nat → Int32 := r.2.2.2.2.2.2.1
abbrev tP (r : TR) : Nat → Int32 := r.2.2.2.2.2.2.2.1
abbrev tPst (r : TR) : Int32 := r.2.2.2.2.2.2.2.2
def SGT (t : Nat → Int32) (len : Nat) : Prop := ∀ k, k < len → ∃ n : Nat, t k = nI n ∧ 33 ≤ n ∧ n ≤ 126
/-- a Text is in order: its signs are signs; what it keeps is right as long as its stamps are the tables' -/
def TOK (hw : Nat → Int32) (sst ps : Nat) (C : CT) (r : TR) : Prop := tLen r ≤ 40 ∧ 1 ≤ tLen r ∧ SGT (tT r) (tLen r) ∧ tN r ≤ tLen r ∧ (tSt r = -1 ∨ ∃ a, a ≤ sst ∧ tSt r = nI a) ∧ (tSt r = nI sst → tN r = seeN hw (tT r) (tLen r) ∧ ∀ k, k < tN r → tS r k = seeF hw (tT r) (tLen r) k) ∧ (tPst r = -1 ∨ ∃ a, a ≤ ps ∧ tPst r = nI a) ∧ (tPst r = nI ps → PV C (tS r) (tU r) (tP r) (tN r))
theorem see_sg {hw t s : Nat → Int32} {len : Nat} (h : SGT t len) : ∀ k, k ≤ len → SGS (seeS hw t s k).1 (seeS hw t s k).2.1 := by
  intro k
  induction k with
  | zero => intro _ i hi; exact absurd hi (Nat.not_lt_zero i)
  | succ k ih =>
    intro hk
    have ih := ih (by omega)
    have h1 := seeS_le hw t s k
    show SGS (seeStep hw (t k) (seeS hw t s k)).1 (seeStep hw (t k) (seeS hw t s k)).2.1
    generalize seeS hw t s k = q at ih h1 ⊢
    obtain ⟨f, n, tu, fr⟩ := q
    dsimp only at ih h1
    unfold seeStep
    split
    · intro i hi
      dsimp only at hi ⊢
      unfold upd
      by_cases e : i = n
      · rw [if_pos e]; exact h k (by omega)
      · rw [if_neg e]; exact ih i (by omega)
    · split
      · intro i hi
        dsimp only at hi ⊢
        split
        · unfold revF
          by_cases e : fr ≤ i ∧ i < n
          · rw [if_pos e]; exact ih _ (by omega)
          · rw [if_neg e]; exact ih i hi
        · exact ih i hi
      · exact ih
theorem seeF_sg {hw t : Nat → Int32} {len : Nat} (h : SGT t len) : SGS (seeF hw t len) (seeN hw t len) := by
  have h1 := see_sg (hw := hw) (s := fun _ => 0) h len (Nat.le_refl _)
  have h2 := seeS_le hw t (fun _ => 0) len
  unfold seeF seeN seeE
  intro i hi
  split
  · unfold revF
    by_cases e : (seeS hw t (fun _ => 0) len).2.2.2 ≤ i ∧ i < (seeS hw t (fun _ => 0) len).2.1
    · rw [if_pos e]; exact h1 _ (by omega)
    · rw [if_neg e]; exact h1 i hi
  · exact h1 i hi
theorem TOK.look {hw : Nat → Int32} {sst ps : Nat} {C : CT} {r : TR} (h : TOK hw sst ps C r) (hp : ps < 1000) : TOK hw sst ps C (lookR hw sst r) ∧ tSt (lookR hw sst r) = nI sst := by
  unfold lookR
  split
  · next e => exact ⟨h, e⟩
  · obtain ⟨h1, h2, h3, h4, h5, h6, h7, h8⟩ := h
    have hl := seeN_le hw (tT r) (tLen r)
    refine ⟨⟨h1, h2, h3, ?_, Or.inr ⟨sst, Nat.le_refl _, rfl⟩, fun _ => ⟨see_N _ _ _ _, ?_⟩, Or.inl rfl, fun q => ?_⟩, rfl⟩
    · show (seeS hw (tT r) (tS r) (tLen r)).2.1 ≤ tLen r
      rw [see_N]; exact hl
    · show ∀ k, k < (seeS hw (tT r) (tS r) (tLen r)).2.1 → seeE (seeS hw (tT r) (tS r) (tLen r)) k = seeF hw (tT r) (tLen r) k
      rw [see_N]; exact see_F _ _ _ _
    · have q : (-1 : Int32) = nI ps := q
      exact absurd q.symm (nI_nm1 (by omega))
theorem TOK.find {hw : Nat → Int32} {sst ps : Nat} {C : CT} {r : TR} {cs : Nat → Int32} {m : Nat} (h : TOK hw sst ps C r) (hm : m = (nd C).2) (hcs : ∀ i, i < m → cs i = (nd C).1 i) : TOK hw sst ps C (findR cs m ps r) ∧ tSt (findR cs m ps r) = tSt r ∧ tPst (findR cs m ps r) = nI ps := by
  unfold findR
  split
  · next e => exact ⟨h, rfl, e⟩
  · obtain ⟨h1, h2, h3, h4, h5, h6, h7, h8⟩ := h
    refine ⟨⟨h1, h2, h3, h4, h5, h6, Or.inr ⟨ps, Nat.le_refl _, rfl⟩, fun _ k hk => ?_⟩, rfl, rfl⟩
    have hk : k < tN r := hk
    show sgF cs m (tS r) (tU r) (tN r) k = _ ∧ prF cs m (tN r) (tS r) (tP r) (tN r) k = _
    unfold sgF prF
    rw [if_pos hk, if_pos hk, idxF_congr m hcs, hm]
    refine ⟨rfl, ?_⟩
    split
    · rw [← hm]; exact idxF_congr m hcs
    · rfl
theorem lookR_keep (hw : Nat → Int32) (sst : Nat) (r : TR) : (lookR hw sst r).1 = r.1 ∧ tLen (lookR hw sst r) = tLen r ∧ tT (lookR hw sst r) = tT r := by
  unfold lookR; split <;> exact ⟨rfl, rfl, rfl⟩
theorem findR_keep (cs : Nat → Int32) (m ps : Nat) (r : TR) : (findR cs m ps r).1 = r.1 ∧ tLen (findR cs m ps r) = tLen r ∧ tT (findR cs m ps r) = tT r := by
  unfold findR; split <;> exact ⟨rfl, rfl, rfl⟩
def PInv (N : Nat → Nat) (Z : Nat → Int32) (F : Nat → Nat → Int32) : Prop := CTok (cCT N F) ∧ N 3 ≤ 14400 ∧ (Z 0 = nI (N 1) → CLO (cCT N F) (N 2) (F 4) (F 5) (F 6) (N 3) (F 7)) ∧ (Z 0 = -1 ∨ ∃ a, a ≤ N 1 ∧ Z 0 = nI a) ∧ N 1 < 1000 ∧ N 5 < 1000
def XInv (N : Nat → Nat) (F : Nat → Nat → Int32) (T : List TR) : Prop := ∀ (i : Nat) (r : TR), T[i]? = some r → TOK (F 12) (N 5) (N 1) (cCT N F) r
/-- only what is kept for speed has changed -/
def EQT (T T' : List TR) : Prop := T'.length = T.length ∧ ∀ (i : Nat) (r' : TR), T'[i]? = some r' → ∃ r : TR, T[i]? = some r ∧ r'.1 = r.1 ∧ tLen r' = tLen r ∧ tT r' = tT r
def EQS (Q N : Nat → Nat) (Z : Nat → Int32) (F : Nat → Nat → Int32) (Q' N' : Nat → Nat) (Z' : Nat → Int32) (F' : Nat → Nat → Int32) : Prop := Q' 0 = Q 0 ∧ (∀ i, 8 ≤ i → Q' i = Q i) ∧ (∀ i, i ≠ 2 → i ≠ 3 → N' i = N i) ∧ (∀ i, i ≠ 0 → Z' i = Z i) ∧ ∀ i, i ≠ 4 → i ≠ 5 → i ≠ 6 → i ≠ 7 → i ≠ 22 → F' i = F i
theorem EQT.rf (T : List TR) : EQT T T := ⟨rfl, fun _ r h => ⟨r, h, rfl, rfl, rfl⟩⟩
theorem EQT.tr {T T' T'' : List TR} (h : EQT T T') (h' : EQT T' T'') : EQT T T'' := by
  refine ⟨h'.1.trans h.1, fun i r hr => ?_⟩
  obtain ⟨r1, a1, a2, a3, a4⟩ := h'.2 i r hr
  obtain ⟨r2, b1, b2, b3, b4⟩ := h.2 i r1 a1
  exact ⟨r2, b1, a2.trans b2, a3.trans b3, a4.trans b4⟩
theorem EQS.rf (Q N : Nat → Nat) (Z : Nat → Int32) (F : Nat → Nat → Int32) : EQS Q N Z F Q N Z F := ⟨rfl, fun _ _ => rfl, fun _ _ _ => rfl, fun _ _ => rfl, fun _ _ _ _ _ _ => rfl⟩
theorem EQS.tr {Q N Q' N' Q'' N'' : Nat → Nat} {Z Z' Z'' : Nat → Int32} {F F' F'' : Nat → Nat → Int32} (h : EQS Q N Z F Q' N' Z' F') (h' : EQS Q' N' Z' F' Q'' N'' Z'' F'') : EQS Q N Z F Q'' N'' Z'' F'' := by
  obtain ⟨a1, a2, a3, a4, a5⟩ := h
  obtain ⟨b1, b2, b3, b4, b5⟩ := h'
  exact ⟨b1.trans a1, fun i hi => (b2 i hi).trans (a2 i hi), fun i h1 h2 => (b3 i h1 h2).trans (a3 i h1 h2), fun i h1 => (b4 i h1).trans (a4 i h1), fun i h1 h2 h3 h4 h5 => (b5 i h1 h2 h3 h4 h5).trans (a5 i h1 h2 h3 h4 h5)⟩
theorem set_cases {α : Type} {T : List α} {i j : Nat} {x y : α} (h : (T.set j x)[i]? = some y) : (i = j ∧ y = x) ∨ (i ≠ j ∧ T[i]? = some y) := by
  by_cases e : i = j
  · subst e
    have hl : i < T.length := by have := (List.getElem?_eq_some_iff.mp h).1; simpa using this
    rw [List.getElem?_set_self hl] at h
    cases h
    exact Or.inl ⟨rfl, rfl⟩
  · rw [List.getElem?_set_ne (Ne.symm e)] at h
    exact Or.inr ⟨e, h⟩
theorem EQT.set {T : List TR} {i : Nat} {r r' : TR} (h : T[i]? = some r) (hk : r'.1 = r.1 ∧ tLen r' = tLen r ∧ tT r' = tT r) : EQT T (T.set i r') := by
  refine ⟨by simp, fun j x hx => ?_⟩
  rcases set_cases hx with ⟨e1, e2⟩ | ⟨-, e2⟩
  · subst e1; subst e2; exact ⟨r, h, hk⟩
  · exact ⟨x, e2, rfl, rfl, rfl⟩
theorem XInv.set {N : Nat → Nat} {F : Nat → Nat → Int32} {T : List TR} {i : Nat} {r' : TR} (h : XInv N F T) (hk : TOK (F 12) (N 5) (N 1) (cCT N F) r') : XInv N F (T.set i r') := by
  intro j x hx
  rcases set_cases hx with ⟨e1, e2⟩ | ⟨-, e2⟩
  · subst e2; exact hk
  · exact h j x e2
section TCG
variable {C : CT} {X Y X' Y' : Nat → Int32} {xc yc : Nat}
theorem pcX_congr {i a : Nat} (hX : ∀ k, k < xc → X k = X' k) (h : i + a ≤ xc) (ha : a = 1 ∨ a = 2) : pcX X i a = pcX X' i a := by
  unfold pcX p2
  rcases ha with e | e
  · subst e; rw [if_pos rfl, if_pos rfl]; exact hX i (by omega)
  · subst e; rw [if_neg (by decide), if_neg (by decide), hX i (by omega), hX (i + 1) (by omega)]
theorem TT_congr (hX : ∀ k, k < xc → X k = X' k) (hY : ∀ k, k < yc → Y k = Y' k) : ∀ (n i j : Nat), i + n = xc → TT C X Y xc yc i j = TT C X' Y' xc yc i j := by
  intro n
  induction n using Nat.strongRecOn with
  | ind n ih =>
    intro i j hi
    rcases Nat.eq_zero_or_pos n with e | e
    · obtain rfl : i = xc := by omega
      rw [TT_end, TT_end]
    · have key : ∀ sh, tst C X Y xc yc i j sh = tst C X' Y' xc yc i j sh := by
        intro sh
        by_cases hb : i + shX sh ≤ xc ∧ j + shY sh ≤ yc
        · obtain ⟨q1, q2⟩ := sh_ab sh
          unfold tst
          rw [pcX_congr hX hb.1 q1, pcX_congr hY hb.2 q2, ih (n - shX sh) (by omega) (i + shX sh) (j + shY sh) (by omega)]
        · rw [tst_out hb, tst_out hb]
      rw [TT_tst (show i < xc by omega), TT_tst (show i < xc by omega), key, key, key, key]
theorem TT_congr' (hX : ∀ k, k < xc → X k = X' k) (hY : ∀ k, k < yc → Y k = Y' k) (i j : Nat) : TT C X Y xc yc i j = TT C X' Y' xc yc i j := by
  rcases Nat.lt_or_ge xc i with h | h
  · rw [TT_out h, TT_out h]
  · exact TT_congr hX hY (xc - i) i j (by omega)
end TCG
/-- how far one text is from another, by the tables -/
def dst (C : CT) (hw : Nat → Int32) (lx : Nat) (tx : Nat → Int32) (ly : Nat) (ty : Nat → Int32) : Option Nat := TT C (seeF hw tx lx) (seeF hw ty ly) (seeN hw tx lx) (seeN hw ty ly) 0 0
section BT
variable {G : GT} {Q N : Nat → Nat} {Z : Nat → Int32} {F : Nat → Nat → Int32} {nm : Option Nat} {Ef : Nat → Option Nat} {T : List TR} {tail P : va_W}
theorem c_closeW (hP : PInv N Z F) : JM G Y_X4_closeChains 3 (clMc (decide (Z 0 = nI (N 1))) (nd (cCT N F)).2 (N 3)) (clMs (decide (Z 0 = nI (N 1))) (nd (cCT N F)).2 (N 3)) [.ref (Q 0)] (cW G Q N Z F nm Ef P) (Qv (fun w => ∃ (Q' N' : Nat → Nat) (Z' : Nat → Int32) (F' : Nat → Nat → Int32), w = cW G Q' N' Z' F' nm Ef P ∧ EQS Q N Z F Q' N' Z' F' ∧ F' 22 = F 22 ∧ PInv N' Z' F' ∧ Z' 0 = nI (N' 1) ∧ N' 3 = clLn (decide (Z 0 = nI (N 1))) (nd (cCT N F)).2 (N 3))) := by
  obtain ⟨h1, h2, h3, h4, h5, h6⟩ := hP
  refine (c_closeChains (G := G) (rest := cRest G Q N Z F nm Ef ++ P) (A := Q) h1 h2 h3).imp (fun r w hw => ?_)
  obtain ⟨hr, A', cs', la', be', ll', hw, hA, hcl⟩ := hw
  have hm := hcl.1
  refine ⟨hr, fun i => if i < 8 then A' i else Q i, va_up (va_up N 2 (nd (cCT N F)).2) 3 (clLn (decide (Z 0 = nI (N 1))) (nd (cCT N F)).2 (N 3)), va_up Z 0 (nI (N 1)), va_up (va_up (va_up (va_up F 4 cs') 5 la') 6 be') 7 ll', ?_, ⟨hA, ?_, ?_, ?_, ?_⟩, rfl, ⟨h1, ?_, fun _ => hcl, Or.inr ⟨N 1, Nat.le_refl _, rfl⟩, h5, h6⟩, rfl, rfl⟩
  · rw [hw]
    have e : cRest G (fun i => if i < 8 then A' i else Q i) (va_up (va_up N 2 (nd (cCT N F)).2) 3 (clLn (decide (Z 0 = nI (N 1))) (nd (cCT N F)).2 (N 3))) (va_up Z 0 (nI (N 1))) (va_up (va_up (va_up (va_up F 4 cs') 5 la') 6 be') 7 ll') nm Ef = cRest G Q N Z F nm Ef := by
      have e1 := cRest_q (G := G) (Q := Q) (N := N) (Z := Z) (F := F) (nm := nm) (Ef := Ef) (Q' := fun i => if i < 8 then A' i else Q i) hA (fun i hi => if_neg (by omega))
      rw [← e1]
      rfl
    show _ = _ ++ (cRest _ _ _ _ _ _ _ ++ P)
    rw [e]
    rfl
  · intro i hi; exact if_neg (by omega)
  · intro i a b
    show (if i = 3 then _ else if i = 2 then _ else N i) = N i
    rw [if_neg b, if_neg a]
  · intro i a
    show (if i = 0 then _ else Z i) = Z i
    rw [if_neg a]
  · intro i a1 a2 a3 a4 a5
    show (if i = 7 then _ else if i = 6 then _ else if i = 5 then _ else if i = 4 then _ else F i) = F i
    rw [if_neg a4, if_neg a3, if_neg a2, if_neg a1]
  · show clLn _ _ _ ≤ 14400
    unfold clLn
    split
    · exact h2
    · exact (newLn_le (nd_le h1) h2).1
/-- what Measure takes as given, of two Texts of the pool -/
def MET (G : GT) (Q N : Nat → Nat) (Z : Nat → Int32) (F : Nat → Nat → Int32) (nm : Option Nat) (Ef : Nat → Option Nat) (T : List TR) (tail : va_W) (ix : Nat) (rx : TR) (iy : Nat) (ry : TR) : Prop := MEA G (cRest G Q N Z F nm Ef ++ poolT G T tail) Q (cCT N F) (N 2) (F 4) (F 5) (F 6) (N 3) (F 7) (Q 21) (Q 22) 13 14 (F 22) (5 * ix + 24) rx.1 (tLen rx) (tT rx) (tS rx) (tN rx) (tSt rx) (tU rx) (tP rx) (tPst rx) (5 * iy + 24) ry.1 (tLen ry) (tT ry) (tS ry) (tN ry) (tSt ry) (tU ry) (tP ry) (tPst ry)
theorem txa_of {i : Nat} {r : TR} (h : T[i]? = some r) (h1 : tN r ≤ tLen r) (h2 : tLen r ≤ 40) : TXA G (cRest G Q N Z F nm Ef ++ poolT G T tail) (5 * i + 24) r.1 (tLen r) (tT r) (tS r) (tN r) (tSt r) (tU r) (tP r) (tPst r) := by
  have g0 := tp_get (G := G) (tail := tail) (c := 0) (by omega) T i r h
  have g1 := tp_get (G := G) (tail := tail) (c := 1) (by omega) T i r h
  have g2 := tp_get (G := G) (tail := tail) (c := 2) (by omega) T i r h
  have g3 := tp_get (G := G) (tail := tail) (c := 3) (by omega) T i r h
  have g4 := tp_get (G := G) (tail := tail) (c := 4) (by omega) T i r h
  refine ⟨g0, ?_, ?_, ?_, ?_, h1, h2⟩
  · rw [show 5 * i + 24 + 1 = 5 * i + 1 + 24 by omega]; exact g1
  · rw [show 5 * i + 24 + 2 = 5 * i + 2 + 24 by omega]; exact g2
  · rw [show 5 * i + 24 + 3 = 5 * i + 3 + 24 by omega]; exact g3
  · rw [show 5 * i + 24 + 4 = 5 * i + 4 + 24 by omega]; exact g4
theorem met_of {ix iy : Nat} {rx ry : TR} (hP : PInv N Z F) (hc : Z 0 = nI (N 1)) (hX : XInv N F T) (hx : T[ix]? = some rx) (hy : T[iy]? = some ry) (sx : tSt rx = nI (N 5)) (sy : tSt ry = nI (N 5)) (px : tPst rx = nI (N 1)) (py : tPst ry = nI (N 1)) : MET G Q N Z F nm Ef T tail ix rx iy ry := by
  obtain ⟨h1, h2, h3, -⟩ := hP
  obtain ⟨a1, -, a3, a4, -, a6, -, a8⟩ := hX ix rx hx
  obtain ⟨b1, -, b3, b4, -, b6, -, b8⟩ := hX iy ry hy
  have sg : ∀ (r : TR), SGT (tT r) (tLen r) → (tN r = seeN (F 12) (tT r) (tLen r) ∧ ∀ k, k < tN r → tS r k = seeF (F 12) (tT r) (tLen r) k) → SGS (tS r) (tN r) := fun r c1 c2 k hk => by
    rw [c2.2 k hk]; exact seeF_sg c1 k (by rw [← c2.1]; exact hk)
  exact ⟨h1, h3 hc, h2, rfl, rfl, txa_of hx a4 a1, txa_of hy b4 b1, a8 px, b8 py, sg rx a3 (a6 sx), sg ry b3 (b6 sy), by omega, by omega, by omega⟩
theorem c_costBetween {ix iy lim : Nat} {rx ry : TR} (hP : PInv N Z F) (hX : XInv N F T) (hx : T[ix]? = some rx) (hy : T[iy]? = some ry) (hlim : lim < FF) : JM G Y_X10_costBetween 4 (clMc (decide (Z 0 = nI (N 1))) (nd (cCT N F)).2 (N 3)) (clMs (decide (Z 0 = nI (N 1))) (nd (cCT N F)).2 (N 3)) [.ref (Q 8), .ref (rx.1 0), .ref (ry.1 0), .int (nI lim)] (cW G Q N Z F nm Ef (poolT G T tail)) (Qi (fun r w => r = wlim lim (dst (cCT N F) (F 12) (tLen rx) (tT rx) (tLen ry) (tT ry)) ∧ ∃ (Q' N' : Nat → Nat) (Z' : Nat → Int32) (F' : Nat → Nat → Int32) (T' : List TR) (rx' ry' : TR), w = cW G Q' N' Z' F' nm Ef (poolT G T' tail) ∧ EQS Q N Z F Q' N' Z' F' ∧ EQT T T' ∧ PInv N' Z' F' ∧ XInv N' F' T' ∧ Z' 0 = nI (N' 1) ∧ N' 3 = clLn (decide (Z 0 = nI (N 1))) (nd (cCT N F)).2 (N 3) ∧ T'[ix]? = some rx' ∧ T'[iy]? = some ry' ∧ tSt rx' = nI (N 5) ∧ tSt ry' = nI (N 5) ∧ MET G Q' N' Z' F' nm Ef T' tail ix rx' iy ry' ∧ (¬ r = -1 → VR (cCT N F) (tS rx') (tS ry') (tN rx') (tN ry') (F' 22) 0))) := by
  refine JM.of [(0, .ref (Q 8)), (1, .ref (rx.1 0)), (2, .ref (ry.1 0)), (3, .int (nI lim))] rfl rfl (by simp) (Nat.le_of_ble_eq_true rfl) (by decide +kernel) ?_
  refine j_aload_n (n := 1) dX10_costBetween_0 rfl rfl ?_
  refine j_get (n := 4) 8 dX10_costBetween_1 f_X10_34 rfl rfl rfl ?_
  refine j_callVv (n := 7) (Y1 := Y_X4_closeChains) 0 dX10_costBetween_4 m_X10_119 cy_X4_closeChains ci_X4_closeChains (c_closeW hP) rfl rfl rfl rfl rfl (by omega) (by omega) (by omega) (Nat.le_of_ble_eq_true rfl) (fun w h => ?_)
  obtain ⟨Q1, N1, Z1, F1, rfl, hE, h22, hP1, hc1, hL1⟩ := h
  have hE' := hE
  obtain ⟨q0, q8, qn, qz, qf⟩ := hE'
  have eC : cCT N1 F1 = cCT N F := by
    show (N1 0, F1 1, F1 2, F1 3) = (N 0, F 1, F 2, F 3)
    rw [qn 0 (by decide) (by decide), qf 1 (by decide) (by decide) (by decide) (by decide) (by decide), qf 2 (by decide) (by decide) (by decide) (by decide) (by decide), qf 3 (by decide) (by decide) (by decide) (by decide) (by decide)]
  have eH : F1 12 = F 12 := qf 12 (by decide) (by decide) (by decide) (by decide) (by decide)
  have eS : N1 5 = N 5 := qn 5 (by decide) (by decide)
  have eP : N1 1 = N 1 := qn 1 (by decide) (by decide)
  have hX1 : XInv N1 F1 T := fun i r h => by rw [eH, eS, eP, eC]; exact hX i r h
  have hok1 := hP1.1
  have hps : N1 1 < 1000 := hP1.2.2.2.2.1
  have hcl1 := hP1.2.2.1 hc1
  have hm120 : N1 2 ≤ 120 := by rw [hcl1.1]; exact nd_le hok1
  refine j_eq (lv' := [(0, .ref (Q1 8)), (1, .ref (rx.1 0)), (2, .ref (ry.1 0)), (3, .int (nI lim))]) rfl (by rw [q8 8 (by omega)]) rfl rfl ?_
  -- look x
  have tx := hX1 ix rx hx
  refine j_aload_n (n := 8) dX10_costBetween_7 rfl rfl ?_
  refine j_aload_n (n := 9) dX10_costBetween_8 rfl rfl ?_
  refine j_get (n := 12) 8 dX10_costBetween_9 f_X10_20 rfl rfl rfl ?_
  refine j_callVv (n := 15) (Y1 := Y_X8_look) (5 * ix + 0 + 24 + 8) dX10_costBetween_12 m_X10_144 cy_X8_look ci_X8_look (c_lookT hx tx.1) rfl rfl rfl (tp_get (G := G) (tail := tail) (c := 0) (by omega) T ix rx hx) rfl (by omega) (by omega) (by omega) (Nat.le_of_ble_eq_true rfl) (fun w h => ?_)
  subst h
  obtain ⟨t1, t2⟩ := tx.look hps
  have k1 := lookR_keep (F1 12) (N1 5) rx
  generalize lookR (F1 12) (N1 5) rx = rx1 at t1 t2 k1 ⊢
  have hX2 := hX1.set (i := ix) t1
  have hx2 : (T.set ix rx1)[ix]? = some rx1 := gs_eq hx
  have hE2 := EQT.set hx k1
  -- look y
  obtain ⟨ry1, hy1, ky1⟩ : ∃ ry1, (T.set ix rx1)[iy]? = some ry1 ∧ ry1.1 = ry.1 ∧ tLen ry1 = tLen ry ∧ tT ry1 = tT ry := by
    by_cases e : iy = ix
    · subst e
      have : rx = ry := Option.some.inj (hx.symm.trans hy)
      subst this
      exact ⟨rx1, hx2, k1⟩
    · exact ⟨ry, by rw [List.getElem?_set_ne (Ne.symm e)]; exact hy, rfl, rfl, rfl⟩
  generalize hT1 : T.set ix rx1 = T1 at hX2 hx2 hE2 hy1 ⊢
  have ty := hX2 iy ry1 hy1
  refine j_eq (lv' := [(0, .ref (Q1 8)), (1, .ref (rx1.1 0)), (2, .ref (ry1.1 0)), (3, .int (nI lim))]) rfl (by rw [k1.1, ky1.1]) rfl rfl ?_
  refine j_aload_n (n := 16) dX10_costBetween_15 rfl rfl ?_
  refine j_aload_n (n := 17) dX10_costBetween_16 rfl rfl ?_
  refine j_get (n := 20) 8 dX10_costBetween_17 f_X10_20 rfl rfl rfl ?_
  refine j_callVv (n := 23) (Y1 := Y_X8_look) (5 * iy + 0 + 24 + 8) dX10_costBetween_20 m_X10_144 cy_X8_look ci_X8_look (c_lookT hy1 ty.1) rfl rfl rfl (tp_get (G := G) (tail := tail) (c := 0) (by omega) T1 iy ry1 hy1) rfl (by omega) (by omega) (by omega) (Nat.le_of_ble_eq_true rfl) (fun w h => ?_)
  subst h
  obtain ⟨u1, u2⟩ := ty.look hps
  have k2 := lookR_keep (F1 12) (N1 5) ry1
  have hid : iy = ix → lookR (F1 12) (N1 5) ry1 = rx1 := fun e => by
    subst e
    have : rx1 = ry1 := Option.some.inj (hx2.symm.trans hy1)
    subst this
    unfold lookR; rw [if_pos t2]
  generalize lookR (F1 12) (N1 5) ry1 = ry2 at u1 u2 k2 hid ⊢
  have hX3 := hX2.set (i := iy) u1
  have hE3 := hE2.tr (EQT.set hy1 k2)
  have hy3 : (T1.set iy ry2)[iy]? = some ry2 := gs_eq hy1
  have hx3 : (T1.set iy ry2)[ix]? = some rx1 := by
    by_cases e : iy = ix
    · subst e; rw [hid rfl] at hy3 ⊢; exact hy3
    · rw [List.getElem?_set_ne e]; exact hx2
  generalize T1.set iy ry2 = T2 at hX3 hE3 hy3 hx3 ⊢
  -- find x
  have tx3 := hX3 ix rx1 hx3
  refine j_eq (lv' := [(0, .ref (Q1 8)), (1, .ref (rx1.1 0)), (2, .ref (ry2.1 0)), (3, .int (nI lim))]) rfl (by rw [k2.1]) rfl rfl ?_
  refine j_aload_n (n := 24) dX10_costBetween_23 rfl rfl ?_
  refine j_aload_n (n := 25) dX10_costBetween_24 rfl rfl ?_
  refine j_get (n := 28) 8 dX10_costBetween_25 f_X10_34 rfl rfl rfl ?_
  refine j_callVv (n := 31) (Y1 := Y_X8_findPieces) (5 * ix + 0 + 24 + 8) dX10_costBetween_28 m_X10_294 cy_X8_findPieces ci_X8_findPieces (c_findT hx3 hcl1.2.2.1 hm120 tx3.2.2.2.1 tx3.1) rfl rfl rfl (tp_get (G := G) (tail := tail) (c := 0) (by omega) T2 ix rx1 hx3) rfl (by omega) (by omega) (by omega) (Nat.le_of_ble_eq_true rfl) (fun w h => ?_)
  subst h
  obtain ⟨v1, v2, v3⟩ := tx3.find hcl1.1 hcl1.2.1
  have k3 := findR_keep (F1 4) (N1 2) (N1 1) rx1
  generalize findR (F1 4) (N1 2) (N1 1) rx1 = rx4 at v1 v2 v3 k3 ⊢
  have hX4 := hX3.set (i := ix) v1
  have hE4 := hE3.tr (EQT.set hx3 k3)
  have hx4 : (T2.set ix rx4)[ix]? = some rx4 := gs_eq hx3
  obtain ⟨ry4, hy4, ky4, sy4⟩ : ∃ ry4, (T2.set ix rx4)[iy]? = some ry4 ∧ (ry4.1 = ry2.1 ∧ tLen ry4 = tLen ry2 ∧ tT ry4 = tT ry2) ∧ tSt ry4 = nI (N1 5) := by
    by_cases e : iy = ix
    · subst e
      have : rx1 = ry2 := Option.some.inj (hx3.symm.trans hy3)
      subst this
      exact ⟨rx4, hx4, k3, v2.trans t2⟩
    · exact ⟨ry2, by rw [List.getElem?_set_ne (Ne.symm e)]; exact hy3, ⟨rfl, rfl, rfl⟩, u2⟩
  generalize T2.set ix rx4 = T3 at hX4 hE4 hx4 hy4 ⊢
  -- find y
  have ty4 := hX4 iy ry4 hy4
  refine j_eq (lv' := [(0, .ref (Q1 8)), (1, .ref (rx4.1 0)), (2, .ref (ry4.1 0)), (3, .int (nI lim))]) rfl (by rw [k3.1, ky4.1]) rfl rfl ?_
  refine j_aload_n (n := 32) dX10_costBetween_31 rfl rfl ?_
  refine j_aload_n (n := 33) dX10_costBetween_32 rfl rfl ?_
  refine j_get (n := 36) 8 dX10_costBetween_33 f_X10_34 rfl rfl rfl ?_
  refine j_callVv (n := 39) (Y1 := Y_X8_findPieces) (5 * iy + 0 + 24 + 8) dX10_costBetween_36 m_X10_294 cy_X8_findPieces ci_X8_findPieces (c_findT hy4 hcl1.2.2.1 hm120 ty4.2.2.2.1 ty4.1) rfl rfl rfl (tp_get (G := G) (tail := tail) (c := 0) (by omega) T3 iy ry4 hy4) rfl (by omega) (by omega) (by omega) (Nat.le_of_ble_eq_true rfl) (fun w h => ?_)
  subst h
  obtain ⟨w1, w2, w3⟩ := ty4.find hcl1.1 hcl1.2.1
  have k4 := findR_keep (F1 4) (N1 2) (N1 1) ry4
  have hid2 : iy = ix → findR (F1 4) (N1 2) (N1 1) ry4 = rx4 := fun e => by
    subst e
    have : rx4 = ry4 := Option.some.inj (hx4.symm.trans hy4)
    subst this
    unfold findR; rw [if_pos v3]
  generalize findR (F1 4) (N1 2) (N1 1) ry4 = ry5 at w1 w2 w3 k4 hid2 ⊢
  have hX5 := hX4.set (i := iy) w1
  have hE5 := hE4.tr (EQT.set hy4 k4)
  have hy5 : (T3.set iy ry5)[iy]? = some ry5 := gs_eq hy4
  have hx5 : (T3.set iy ry5)[ix]? = some rx4 := by
    by_cases e : iy = ix
    · subst e; rw [hid2 rfl] at hy5 ⊢; exact hy5
    · rw [List.getElem?_set_ne e]; exact hx4
  generalize T3.set iy ry5 = T4 at hX5 hE5 hy5 hx5 ⊢
  have sx5 : tSt rx4 = nI (N1 5) := v2.trans t2
  have sy5 : tSt ry5 = nI (N1 5) := w2.trans sy4
  have hM : MET G Q1 N1 Z1 F1 nm Ef T4 tail ix rx4 iy ry5 := met_of hP1 hc1 hX5 hx5 hy5 sx5 sy5 v3 w3
  have ex := (hX5 ix rx4 hx5).2.2.2.2.2.1 sx5
  have ey := (hX5 iy ry5 hy5).2.2.2.2.2.1 sy5
  rw [eH, k3.2.1.trans k1.2.1, k3.2.2.trans k1.2.2] at ex
  rw [eH, k4.2.1.trans (ky4.2.1.trans (k2.2.1.trans ky1.2.1)), k4.2.2.trans (ky4.2.2.trans (k2.2.2.trans ky1.2.2))] at ey
  have hD : TT (cCT N1 F1) (tS rx4) (tS ry5) (tN rx4) (tN ry5) 0 0 = dst (cCT N F) (F 12) (tLen rx) (tT rx) (tLen ry) (tT ry) := by
    unfold dst
    rw [eC, ← ex.1, ← ey.1]
    exact TT_congr' ex.2 ey.2 0 0
  refine j_eq (lv' := [(0, .ref (Q1 8)), (1, .ref (rx4.1 0)), (2, .ref (ry5.1 0)), (3, .int (nI lim))]) rfl (by rw [k4.1]) rfl rfl ?_
  refine j_aload_n (n := 40) dX10_costBetween_39 rfl rfl ?_
  refine j_get (n := 43) 8 dX10_costBetween_40 f_X10_69 rfl rfl rfl ?_
  refine j_aload_n (n := 44) dX10_costBetween_43 rfl rfl ?_
  refine j_aload_n (n := 45) dX10_costBetween_44 rfl rfl ?_
  refine j_iload_n (n := 46) dX10_costBetween_45 rfl rfl ?_
  refine j_callVi (n := 49) (Y1 := Y_X1_leastWithin) 21 dX10_costBetween_46 m_X10_297 cy_X1_leastWithin ci_X1_leastWithin (c_leastWithin hM hlim) rfl rfl rfl rfl rfl (by omega) (by omega) (by omega) (Nat.le_of_ble_eq_true rfl) (fun z w h => ?_)
  obtain ⟨R', rfl, hz, hV⟩ := h
  rw [hD] at hz
  refine j_iret dX10_costBetween_49 rfl rfl (by omega) (by omega) ⟨hz, Q1, N1, Z1, va_up F1 22 R', T4, rx4, ry5, rfl, ⟨q0, q8, qn, qz, fun i a1 a2 a3 a4 a5 => ?_⟩, hE5, hP1, hX5, hc1, hL1, hx5, hy5, by rw [sx5, eS], by rw [sy5, eS], hM.put, fun h => by rw [← eC]; exact hV h⟩
  show (if i = 22 then R' else F1 i) = F i
  rw [if_neg a5]
  exact qf i a1 a2 a3 a4 a5
end BT

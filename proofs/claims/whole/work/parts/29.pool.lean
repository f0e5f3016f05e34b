/-! the pool: Texts of five cells each, then what comes behind; what a Text's look and findPieces do to it; costBetween -/
theorem see_ind (hw t s s' : Nat → Int32) (k : Nat) : (seeS hw t s k).2 = (seeS hw t s' k).2 ∧ ∀ i, i < (seeS hw t s k).2.1 → (seeS hw t s k).1 i = (seeS hw t s' k).1 i := by
  induction k with
  | zero => exact ⟨rfl, fun i h => absurd h (Nat.not_lt_zero i)⟩
  | succ k ih =>
    have h1 := seeS_le hw t s k
    show (seeStep hw (t k) (seeS hw t s k)).2 = (seeStep hw (t k) (seeS hw t s' k)).2 ∧ ∀ i, i < (seeStep hw (t k) (seeS hw t s k)).2.1 → (seeStep hw (t k) (seeS hw t s k)).1 i = (seeStep hw (t k) (seeS hw t s' k)).1 i
    generalize seeS hw t s k = q at ih h1 ⊢
    generalize seeS hw t s' k = q' at ih ⊢
    obtain ⟨f, n, tu, fr⟩ := q
    obtain ⟨f', n', tu', fr'⟩ := q'
    obtain ⟨e1, e2⟩ := ih
    dsimp only at e1 e2 h1
    cases e1
    unfold seeStep
    split
    · refine ⟨rfl, fun i hi => ?_⟩
      dsimp only at hi ⊢
      unfold upd
      by_cases h : i = n
      · rw [if_pos h, if_pos h]
      · rw [if_neg h, if_neg h]; exact e2 i (by omega)
    · split
      · refine ⟨rfl, fun i hi => ?_⟩
        dsimp only at hi ⊢
        split
        · unfold revF
          by_cases h : fr ≤ i ∧ i < n
          · rw [if_pos h, if_pos h]; exact e2 _ (by omega)
          · rw [if_neg h, if_neg h]; exact e2 i hi
        · exact e2 i hi
      · exact ⟨rfl, e2⟩
/-- a text as it is seen: how many, which -/
def seeN (hw t : Nat → Int32) (len : Nat) : Nat := (seeS hw t (fun _ => 0) len).2.1
def seeF (hw t : Nat → Int32) (len : Nat) : Nat → Int32 := seeE (seeS hw t (fun _ => 0) len)
theorem see_N (hw t s : Nat → Int32) (len : Nat) : (seeS hw t s len).2.1 = seeN hw t len := by rw [(see_ind hw t s (fun _ => 0) len).1]; rfl
theorem see_F (hw t s : Nat → Int32) (len : Nat) : ∀ i, i < seeN hw t len → seeE (seeS hw t s len) i = seeF hw t len i := by
  have h1 := seeS_le hw t s len
  have h2 := see_ind hw t s (fun _ => 0) len
  unfold seeF seeN
  generalize seeS hw t s len = q at h1 h2 ⊢
  generalize seeS hw t (fun _ => 0) len = q' at h2 ⊢
  obtain ⟨f, n, tu, fr⟩ := q
  obtain ⟨f', n', tu', fr'⟩ := q'
  obtain ⟨e1, e2⟩ := h2
  dsimp only at e1 e2 h1
  cases e1
  intro i hi
  dsimp only at hi
  unfold seeE
  dsimp only
  split
  · unfold revF
    by_cases h : fr ≤ i ∧ i < n
    · rw [if_pos h, if_pos h]; exact e2 _ (by omega)
    · rw [if_neg h, if_neg h]; exact e2 i hi
  · exact e2 i hi
theorem seeN_le (hw t : Nat → Int32) (len : Nat) : seeN hw t len ≤ len := (seeS_le hw t (fun _ => 0) len).1
/-- addresses, length, told, seen, how many seen, its signs' stamp, single, pair, its pieces' stamp -/
abbrev TR : Type := (Nat → Nat) × Nat × (Nat → Int32) × (Nat → Int32) × Nat × Int32 × (Nat → Int32) × (Nat → Int32) × Int32
def tC (G : GT) (r : TR) : va_W := [(r.1 0, txO (r.1 1) (r.1 2) (r.1 3) (r.1 4) r.2.1 r.2.2.2.2.1 r.2.2.2.2.2.1 r.2.2.2.2.2.2.2.2), (r.1 1, arI G r.2.1 r.2.2.1), (r.1 2, arI G r.2.1 r.2.2.2.1), (r.1 3, arI G r.2.1 r.2.2.2.2.2.2.1), (r.1 4, arI G r.2.1 r.2.2.2.2.2.2.2.1)]
def poolT (G : GT) (T : List TR) (tail : va_W) : va_W := T.flatMap (tC G) ++ tail
theorem poolT_cons (G : GT) (r : TR) (T : List TR) (tail : va_W) : poolT G (r :: T) tail = tC G r ++ poolT G T tail := by
  unfold poolT; rw [List.flatMap_cons, List.append_assoc]
theorem tp_get {G : GT} {tail : va_W} {c : Nat} (hc : c < 5) : ∀ (T : List TR) (i : Nat) (r : TR), T[i]? = some r → (poolT G T tail)[5 * i + c]? = (tC G r)[c]? := by
  intro T
  induction T with
  | nil => intro i r h; simp at h
  | cons a T ih =>
    intro i r h
    rw [poolT_cons]
    cases i with
    | zero =>
      cases h
      rw [show 5 * 0 + c = c by omega, List.getElem?_append_left (by show c < 5; exact hc)]
    | succ i =>
      rw [List.getElem?_cons_succ] at h
      rw [List.getElem?_append_right (by show 5 ≤ _; omega), show 5 * (i + 1) + c - (tC G a).length = 5 * i + c by show 5 * (i + 1) + c - 5 = _; omega]
      exact ih i r h
theorem tp_set {G : GT} {tail : va_W} {c : Nat} {x : Nat × va_E} (hc : c < 5) : ∀ (T : List TR) (i : Nat) (r r' : TR), T[i]? = some r → (tC G r).set c x = tC G r' → (poolT G T tail).set (5 * i + c) x = poolT G (T.set i r') tail := by
  intro T
  induction T with
  | nil => intro i r r' h; simp at h
  | cons a T ih =>
    intro i r r' h hx
    rw [poolT_cons]
    cases i with
    | zero =>
      cases h
      rw [show 5 * 0 + c = c by omega, List.set_append_left _ _ (by show c < 5; exact hc), hx]
      show _ = poolT G (r' :: T) tail
      rw [poolT_cons]
    | succ i =>
      rw [List.getElem?_cons_succ] at h
      rw [List.set_append_right _ _ (by show 5 ≤ _; omega), show 5 * (i + 1) + c - (tC G a).length = 5 * i + c by show 5 * (i + 1) + c - 5 = _; omega, ih i r r' h hx]
      show _ = poolT G (a :: T.set i r') tail
      rw [poolT_cons]
/-- a Text that looked: by the signs' stamp -/
def lookR (hw : Nat → Int32) (sst : Nat) (r : TR) : TR := if r.2.2.2.2.2.1 = nI sst then r else (r.1, r.2.1, r.2.2.1, seeE (seeS hw r.2.2.1 r.2.2.2.1 r.2.1), (seeS hw r.2.2.1 r.2.2.2.1 r.2.1).2.1, nI sst, r.2.2.2.2.2.2.1, r.2.2.2.2.2.2.2.1, -1)
def findR (cs : Nat → Int32) (m : Nat) (pst : Nat) (r : TR) : TR := if r.2.2.2.2.2.2.2.2 = nI pst then r else (r.1, r.2.1, r.2.2.1, r.2.2.2.1, r.2.2.2.2.1, r.2.2.2.2.2.1, sgF cs m r.2.2.2.1 r.2.2.2.2.2.2.1 r.2.2.2.2.1, prF cs m r.2.2.2.2.1 r.2.2.2.1 r.2.2.2.2.2.2.2.1 r.2.2.2.2.1, nI pst)
section PO
variable {G : GT} {Q N : Nat → Nat} {Z : Nat → Int32} {F : Nat → Nat → Int32} {nm : Option Nat} {Ef : Nat → Option Nat} {T : List TR} {tail : va_W}
theorem c_lookT {i : Nat} {r : TR} (hT : T[i]? = some r) (hl : r.2.1 ≤ 40) : JV G Y_X8_look 2 0 0 [.ref (r.1 0), .ref (Q 10)] (cW G Q N Z F nm Ef (poolT G T tail)) (cW G Q N Z F nm Ef (poolT G (T.set i (lookR (F 12) (N 5) r)) tail)) := by
  have g0 := tp_get (G := G) (tail := tail) (c := 0) (by omega) T i r hT
  have g1 := tp_get (G := G) (tail := tail) (c := 1) (by omega) T i r hT
  have g2 := tp_get (G := G) (tail := tail) (c := 2) (by omega) T i r hT
  have hlen := gs_lt hT
  have h := c_look (G := G) (ws := cW G Q N Z F nm Ef (poolT G T tail)) (k0 := 5 * i + 0 + 24 + 8) g0 (k1 := 5 * i + 1 + 24 + 8) g1 (k2 := 5 * i + 2 + 24 + 8) g2 (m0 := 10) rfl (m2 := 12) rfl (by omega) (by omega) (by omega) (by omega) (by omega) (by omega) (by omega) hl
  unfold JV at h ⊢
  refine h.imp (fun q w hw => ⟨hw.1, ?_⟩)
  have hw := hw.2
  rw [hw]
  unfold lookR
  by_cases e : r.2.2.2.2.2.1 = nI (N 5)
  · rw [if_pos e, if_pos e, set_self hT]
  · rw [if_neg e, if_neg e]
    have s1 := tp_set (G := G) (tail := tail) (c := 0) (by omega) T i r (r.1, r.2.1, r.2.2.1, r.2.2.2.1, (seeS (F 12) r.2.2.1 r.2.2.2.1 r.2.1).2.1, nI (N 5), r.2.2.2.2.2.2.1, r.2.2.2.2.2.2.2.1, -1) hT rfl
    have s2 := tp_set (G := G) (tail := tail) (c := 2) (by omega) (T.set i (r.1, r.2.1, r.2.2.1, r.2.2.2.1, (seeS (F 12) r.2.2.1 r.2.2.2.1 r.2.1).2.1, nI (N 5), r.2.2.2.2.2.2.1, r.2.2.2.2.2.2.2.1, -1)) i _ (r.1, r.2.1, r.2.2.1, seeE (seeS (F 12) r.2.2.1 r.2.2.2.1 r.2.1), (seeS (F 12) r.2.2.1 r.2.2.2.1 r.2.1).2.1, nI (N 5), r.2.2.2.2.2.2.1, r.2.2.2.2.2.2.2.1, -1) (gs_eq hT) rfl
    rw [List.set_set] at s2
    rw [← s2, ← s1]
    rfl
theorem c_findT {i : Nat} {r : TR} (hT : T[i]? = some r) (hC : CHI (F 4) (F 5) (F 6) (N 2)) (hm : N 2 ≤ 120) (hc : r.2.2.2.2.1 ≤ r.2.1) (hl : r.2.1 ≤ 40) : JV G Y_X8_findPieces 2 0 0 [.ref (r.1 0), .ref (Q 0)] (cW G Q N Z F nm Ef (poolT G T tail)) (cW G Q N Z F nm Ef (poolT G (T.set i (findR (F 4) (N 2) (N 1) r)) tail)) := by
  have g0 := tp_get (G := G) (tail := tail) (c := 0) (by omega) T i r hT
  have g2 := tp_get (G := G) (tail := tail) (c := 2) (by omega) T i r hT
  have g3 := tp_get (G := G) (tail := tail) (c := 3) (by omega) T i r hT
  have g4 := tp_get (G := G) (tail := tail) (c := 4) (by omega) T i r hT
  have h := c_findPieces (G := G) (rest := cRest G Q N Z F nm Ef ++ poolT G T tail) (A := Q) (C := cCT N F) (stamp := nI (N 1)) (closed := Z 0) (Ln := N 3) (ll := F 7) (j0 := 5 * i + 0 + 24) (j2 := 5 * i + 2 + 24) (j3 := 5 * i + 3 + 24) (j4 := 5 * i + 4 + 24) hC hm g0 g2 g3 g4 (by omega) (by omega) (by omega) (by omega) (by omega) (by omega) hc hl
  unfold JV at h ⊢
  refine h.imp (fun q w hw => ⟨hw.1, ?_⟩)
  have hw := hw.2
  rw [hw]
  unfold findR
  by_cases e : r.2.2.2.2.2.2.2.2 = nI (N 1)
  · rw [if_pos e, if_pos e, set_self hT]
  · rw [if_neg e, if_neg e]
    have s1 := tp_set (G := G) (tail := tail) (c := 0) (by omega) T i r (r.1, r.2.1, r.2.2.1, r.2.2.2.1, r.2.2.2.2.1, r.2.2.2.2.2.1, r.2.2.2.2.2.2.1, r.2.2.2.2.2.2.2.1, nI (N 1)) hT rfl
    have s2 := tp_set (G := G) (tail := tail) (c := 3) (by omega) (T.set i (r.1, r.2.1, r.2.2.1, r.2.2.2.1, r.2.2.2.2.1, r.2.2.2.2.2.1, r.2.2.2.2.2.2.1, r.2.2.2.2.2.2.2.1, nI (N 1))) i _ (r.1, r.2.1, r.2.2.1, r.2.2.2.1, r.2.2.2.2.1, r.2.2.2.2.2.1, sgF (F 4) (N 2) r.2.2.2.1 r.2.2.2.2.2.2.1 r.2.2.2.2.1, r.2.2.2.2.2.2.2.1, nI (N 1)) (gs_eq hT) rfl
    rw [List.set_set] at s2
    have s3 := tp_set (G := G) (tail := tail) (c := 4) (by omega) (T.set i (r.1, r.2.1, r.2.2.1, r.2.2.2.1, r.2.2.2.2.1, r.2.2.2.2.2.1, sgF (F 4) (N 2) r.2.2.2.1 r.2.2.2.2.2.2.1 r.2.2.2.2.1, r.2.2.2.2.2.2.2.1, nI (N 1))) i _ (r.1, r.2.1, r.2.2.1, r.2.2.2.1, r.2.2.2.2.1, r.2.2.2.2.2.1, sgF (F 4) (N 2) r.2.2.2.1 r.2.2.2.2.2.2.1 r.2.2.2.2.1, prF (F 4) (N 2) r.2.2.2.2.1 r.2.2.2.1 r.2.2.2.2.2.2.2.1 r.2.2.2.2.1, nI (N 1)) (gs_eq hT) rfl
    rw [List.set_set] at s3
    rw [← s3, ← s2, ← s1]
    rfl
theorem cRest_q {Q' : Nat → Nat} (h0 : Q' 0 = Q 0) (h8 : ∀ i, 8 ≤ i → Q' i = Q i) : cRest G Q' N Z F nm Ef = cRest G Q N Z F nm Ef := by
  have hf : (fun j => some (Q' (16 + j))) = (fun j => some (Q (16 + j))) := by funext j; rw [h8 _ (by omega)]
  unfold cRest
  rw [hf, h0, h8 8 (by omega), h8 9 (by omega), h8 10 (by omega), h8 11 (by omega), h8 12 (by omega), h8 13 (by omega), h8 14 (by omega), h8 15 (by omega), h8 16 (by omega), h8 17 (by omega), h8 18 (by omega), h8 19 (by omega), h8 20 (by omega), h8 21 (by omega), h8 22 (by omega), h8 23 (by omega), h8 24 (by omega), h8 25 (by omega), h8 26 (by omega), h8 27 (by omega), h8 28 (by omega), h8 29 (by omega), h8 30 (by omega), h8 31 (by omega)]
  have e1 : ∀ n, wyO (fun i => Q' (26 + i)) n = wyO (fun i => Q (26 + i)) n := fun n => by
    show Sum.inr (9, [Value.ref (Q' 27), .ref (Q' 28), .ref (Q' 29), .int (nI n)]) = Sum.inr (9, [Value.ref (Q 27), .ref (Q 28), .ref (Q 29), .int (nI n)])
    rw [h8 27 (by omega), h8 28 (by omega), h8 29 (by omega)]
  rw [e1]
end PO

/-! What a run is, as numbers. -/
abbrev oU (sA : Nat) (mo h nx oc an st : Int32) : va_E := .inr (4, [.int mo, .ref sA, .int h, .int nx, .int oc, .int an, .int st])
abbrev oE (ow ki dy : Int32) (oA cA : Nat) (ln md ak sk fk : Int32) : va_E := .inr (2, [.int ow, .int ki, .int dy, .ref oA, .ref cA, .int ln, .int md, .int ak, .int sk, .int fk])
abbrev oF (vA : Nat) : va_E := .inr (3, [.ref vA])
abbrev aI (G : Gl) (n : Nat) (f : Nat → Int32) : va_E := .inl (G.2.1 0, n, .inl f)
abbrev aQ (G : Gl) (n : Nat) (f : Nat → Option Nat) : va_E := .inl (G.2.1 1, n, .inr (.inr (.inr (.inr f))))
abbrev aL (G : Gl) (n : Nat) (f : Nat → Int64) : va_E := .inl (G.2.1 2, n, .inr (.inl f))
abbrev aZ (G : Gl) (n : Nat) (f : Nat → Int32) : va_E := .inl (G.2.1 3, n, .inl f)
theorem uV_id {V : Vw} {k i : Nat} {x : Nat × va_E} (h : V k i = some x) : uV V k i x = V := by
  funext k' i'
  by_cases e : k' = k ∧ i' = i
  · rw [e.1, e.2, uV_self, h]
  · rw [uV_ne e]
theorem uV_uV (V : Vw) (k i : Nat) (x y : Nat × va_E) : uV (uV V k i x) k i y = uV V k i y := by
  funext k' i'
  by_cases e : k' = k ∧ i' = i
  · rw [e.1, e.2, uV_self, uV_self]
  · rw [uV_ne e, uV_ne e, uV_ne e]
theorem uV_cm (V : Vw) {k i k2 i2 : Nat} (x y : Nat × va_E) (h : ¬ (k = k2 ∧ i = i2)) : uV (uV V k i x) k2 i2 y = uV (uV V k2 i2 y) k i x := by
  funext k' i'
  by_cases e : k' = k ∧ i' = i
  · have e2 : ¬ (k' = k2 ∧ i' = i2) := fun z => h ⟨e.1.symm.trans z.1, e.2.symm.trans z.2⟩
    rw [uV_ne e2, e.1, e.2, uV_self, uV_self]
  · by_cases e2 : k' = k2 ∧ i' = i2
    · rw [uV_ne e, e2.1, e2.2, uV_self, uV_self]
    · rw [uV_ne e2, uV_ne e, uV_ne e, uV_ne e2]
/-- a Run's two cells -/
def uR (G : Gl) (V : Vw) (b r sA : Nat) (mo : Int32) (h : Nat) (nx oc an st : Int32) (f : Nat → Int32) : Vw := uV (uV V 5 b (sA, aI G 8 f)) 4 b (r, oU sA mo (nI h) nx oc an st)
theorem uR_id {G : Gl} {V : Vw} {b r sA h : Nat} {mo nx oc an st : Int32} {f : Nat → Int32} (h4 : V 4 b = some (r, oU sA mo (nI h) nx oc an st)) (h5 : V 5 b = some (sA, aI G 8 f)) : uR G V b r sA mo h nx oc an st f = V := by
  unfold uR
  rw [uV_id h5, uV_id h4]
theorem uR_4 {G : Gl} {V : Vw} {b r sA h : Nat} {mo nx oc an st : Int32} {f : Nat → Int32} : uR G V b r sA mo h nx oc an st f 4 b = some (r, oU sA mo (nI h) nx oc an st) := uV_self _ _ _ _
theorem uR_5 {G : Gl} {V : Vw} {b r sA h : Nat} {mo nx oc an st : Int32} {f : Nat → Int32} : uR G V b r sA mo h nx oc an st f 5 b = some (sA, aI G 8 f) := by
  unfold uR
  exact (uV_ne (by omega)).trans (uV_self _ _ _ _)
theorem uR_o {G : Gl} {V : Vw} {b r sA h : Nat} {mo nx oc an st : Int32} {f : Nat → Int32} {k i : Nat} (hk : k ≠ 4) (hk5 : k ≠ 5) : uR G V b r sA mo h nx oc an st f k i = V k i := by
  unfold uR
  exact (uV_ne (fun z => hk z.1)).trans (uV_ne (fun z => hk5 z.1))
theorem uR_ob {G : Gl} {V : Vw} {b r sA h : Nat} {mo nx oc an st : Int32} {f : Nat → Int32} {k i : Nat} (hi : i ≠ b) : uR G V b r sA mo h nx oc an st f k i = V k i := by
  unfold uR
  exact (uV_ne (fun z => hi z.2)).trans (uV_ne (fun z => hi z.2))
theorem uR_uR {G : Gl} {V : Vw} {b r sA h h' : Nat} {mo nx oc an st nx' oc' an' st' : Int32} {f f' : Nat → Int32} : uR G (uR G V b r sA mo h nx oc an st f) b r sA mo h' nx' oc' an' st' f' = uR G V b r sA mo h' nx' oc' an' st' f' := by
  unfold uR
  rw [uV_cm _ _ _ (by omega), uV_uV, uV_cm _ _ _ (by omega), uV_uV]
theorem uR_of4 {G : Gl} {V : Vw} {b r sA h : Nat} {mo nx oc an st : Int32} {f : Nat → Int32} (h5 : V 5 b = some (sA, aI G 8 f)) : uV V 4 b (r, oU sA mo (nI h) nx oc an st) = uR G V b r sA mo h nx oc an st f := by
  unfold uR
  rw [uV_id h5]
def pTake (h : Nat) (f : Nat → Int32) : Int32 := if h = 0 then 0 else f (h - 1)
def pPut (v : Int64) (h : Nat) (f : Nat → Int32) : Int32 × Nat × (Nat → Int32) := if v < -1000000000 ∨ 1000000000 < v then (5, h, f) else if 8 ≤ h then (3, h, f) else (7, h + 1, upd f h v.toInt32)
def pNeed (o : Nat) : Nat := if o = 0 ∨ o = 1 ∨ o = 10 then 0 else if o = 7 ∨ o = 8 ∨ o = 9 then 1 else 2
def pJoin (o : Nat) (h : Nat) (f : Nat → Int32) : Int32 × Nat × (Nat → Int32) :=
  let up := (f (h - 1)).toInt64
  let lo := (f (h - 2)).toInt64
  if o = 2 then pPut (lo + up) (h - 2) f else if o = 3 then pPut (lo - up) (h - 2) f else if o = 4 then pPut (lo * up) (h - 2) f else if o = 5 then (if up = 0 then (2, h - 2, f) else pPut (lo / up) (h - 2) f) else pPut (if lo < up then 1 else 0) (h - 2) f
theorem pPut_h {v : Int64} {h : Nat} {f : Nat → Int32} (hh : h ≤ 8) : (pPut v h f).2.1 ≤ 8 := by
  unfold pPut
  split
  · exact hh
  · split
    · exact hh
    · show h + 1 ≤ 8
      omega
theorem nI_m1 {h : Nat} (h0 : 0 < h) : nI h - 1 = nI (h - 1) := by
  obtain ⟨j, rfl⟩ : ∃ j, h = j + 1 := ⟨h - 1, by omega⟩
  exact nI_pred j
theorem nI_0lt {h : Nat} (hh : h < 2 ^ 31) : (0 : Int32) < nI h ↔ 0 < h := nI_ltI (a := 0) (by decide) hh
theorem uR_put4 {G : Gl} {V : Vw} {b r sA h h' : Nat} {mo nx oc an st nx' oc' an' st' : Int32} {f : Nat → Int32} : uV (uR G V b r sA mo h nx oc an st f) 4 b (r, oU sA mo (nI h') nx' oc' an' st') = uR G V b r sA mo h' nx' oc' an' st' f := by
  unfold uR
  rw [uV_uV]
def pStep (o : Nat) (cn : Int32) (fa : Nat → Int32) (ak : Int32) (h : Nat) (nx an : Int32) (f : Nat → Int32) : Int32 × Nat × Int32 × Int32 × (Nat → Int32) :=
  if h < pNeed o then (3, h, nx, an, f) else
  if o = 0 then ((pPut cn.toInt64 h f).1, (pPut cn.toInt64 h f).2.1, nx, an, (pPut cn.toInt64 h f).2.2) else
  if o = 1 then ((pPut (fa cn.toNatClampNeg).toInt64 h f).1, (pPut (fa cn.toNatClampNeg).toInt64 h f).2.1, nx, an, (pPut (fa cn.toNatClampNeg).toInt64 h f).2.2) else
  if o = 7 then ((pPut (f (h - 1)).toInt64 h f).1, (pPut (f (h - 1)).toInt64 h f).2.1, nx, an, (pPut (f (h - 1)).toInt64 h f).2.2) else
  if o = 10 then ((pPut ak.toInt64 h f).1, (pPut ak.toInt64 h f).2.1, nx, an, (pPut ak.toInt64 h f).2.2) else
  if o = 8 then (7, h - 1, (if f (h - 1) = 0 then cn else nx), an, f) else
  if o = 9 then (6, h - 1, nx, f (h - 1), f) else
  ((pJoin o h f).1, (pJoin o h f).2.1, nx, an, (pJoin o h f).2.2)
theorem pJoin_h {o h : Nat} {f : Nat → Int32} (hh : h ≤ 8) : (pJoin o h f).2.1 ≤ 8 := by
  have h2 : h - 2 ≤ 8 := by omega
  unfold pJoin
  dsimp only
  repeat' split
  all_goals first | exact pPut_h h2 | exact h2
theorem pStep_h {o h : Nat} {cn ak nx an : Int32} {fa f : Nat → Int32} (hh : h ≤ 8) : (pStep o cn fa ak h nx an f).2.1 ≤ 8 := by
  unfold pStep
  repeat' split
  all_goals first | exact hh | exact pPut_h hh | exact pJoin_h hh | (show h - 1 ≤ 8; omega)
def pRun (ln : Nat) (po cs fa : Nat → Int32) (ak : Int32) : Nat → Nat → Int32 → Int32 → Int32 → (Nat → Int32) → Int32 × Nat × Int32 × Int32 × Int32 × (Nat → Int32)
  | 0, h, nx, an, st, f => (1, h, nx, an, st, f)
  | n + 1, h, nx, an, st, f =>
    if nx < 0 ∨ nI ln ≤ nx then (4, h, nx, an, st, f) else
    if (pStep (po nx.toNatClampNeg).toNatClampNeg (cs nx.toNatClampNeg) fa ak h (nx + 1) an f).1 = 7 then
      pRun ln po cs fa ak n (pStep (po nx.toNatClampNeg).toNatClampNeg (cs nx.toNatClampNeg) fa ak h (nx + 1) an f).2.1 (pStep (po nx.toNatClampNeg).toNatClampNeg (cs nx.toNatClampNeg) fa ak h (nx + 1) an f).2.2.1 (pStep (po nx.toNatClampNeg).toNatClampNeg (cs nx.toNatClampNeg) fa ak h (nx + 1) an f).2.2.2.1 (st + 1) (pStep (po nx.toNatClampNeg).toNatClampNeg (cs nx.toNatClampNeg) fa ak h (nx + 1) an f).2.2.2.2
    else ((pStep (po nx.toNatClampNeg).toNatClampNeg (cs nx.toNatClampNeg) fa ak h (nx + 1) an f).1, (pStep (po nx.toNatClampNeg).toNatClampNeg (cs nx.toNatClampNeg) fa ak h (nx + 1) an f).2.1, (pStep (po nx.toNatClampNeg).toNatClampNeg (cs nx.toNatClampNeg) fa ak h (nx + 1) an f).2.2.1, (pStep (po nx.toNatClampNeg).toNatClampNeg (cs nx.toNatClampNeg) fa ak h (nx + 1) an f).2.2.2.1, st + 1, (pStep (po nx.toNatClampNeg).toNatClampNeg (cs nx.toNatClampNeg) fa ak h (nx + 1) an f).2.2.2.2)
/-- an edition's code is one that op() can have written -/
def okCode (ln : Nat) (po cs : Nat → Int32) : Prop := ln ≤ 16 ∧ ∀ j, j < ln → ∃ o, o ≤ 10 ∧ po j = nI o ∧ (o = 1 → ∃ c, c < 8 ∧ cs j = nI c)
theorem pNeed_le (o : Nat) : pNeed o ≤ 2 := by
  unfold pNeed
  repeat' split
  all_goals decide
theorem pNeed_lt (o : Nat) : pNeed o < 2 ^ 31 := Nat.lt_of_le_of_lt (pNeed_le o) (by decide)

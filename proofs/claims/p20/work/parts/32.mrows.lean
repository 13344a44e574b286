/-! The reference: rows and numbers. -/
section MR
variable {G : Gl} {p : Program} {l : Launch} {e : Env} {R : Room} {s : State} {m : MethodId} {args : Array Value} {below : List Frame} {meth : Method} {c : Code} {H : Heap} {locs : List Loc} {cells slots : Nat} {Q : State → Prop}
variable {cc : ByteArray} {nL pc : Nat} {own : String} {ls : Array Slot} {rest : List Value} {V : Vw} {k i a : Nat} {rm : Room} {Rt : Option Value → Vw → Prop}
theorem r_zald (F : Bd G p l s m args meth c cc nL own) (hS : HS G s V H locs) {n : Nat} {f : Nat → Int32} (he : V k i = some (a, .inl (G.2.1 3, n, .inl f))) {x : Int32} (hin : vp_in x n) (hdg : decode cc pc = .ok (.baload, 1))
    (kk : W p l e R s m args below meth c H locs cells slots Q (F0 m (pc + 1) ls (.int (f x.toNatClampNeg) :: rest))) : W p l e R s m args below meth c H locs cells slots Q (F0 m pc ls (.int x :: .ref a :: rest)) := by
  obtain ⟨hx, hb, hml, hown, hts, hK, -, -⟩ := F
  exact va_zald (D := G.1) (cl := vwCl) (ws := [(a, .inl (G.2.1 3, n, .inl f))]) hx hb hK.1 (hS.1.one he) 0 3 rfl rfl hin hdg kk
theorem r_lald (F : Bd G p l s m args meth c cc nL own) (hS : HS G s V H locs) {n : Nat} {f : Nat → Int64} (he : V k i = some (a, .inl (G.2.1 2, n, .inr (.inl f)))) {x : Int32} (hin : vp_in x n) (hdg : decode cc pc = .ok (.laload, 1))
    (kk : W p l e R s m args below meth c H locs cells slots Q (F0 m (pc + 1) ls (.long (f x.toNatClampNeg) :: rest))) : W p l e R s m args below meth c H locs cells slots Q (F0 m pc ls (.int x :: .ref a :: rest)) := by
  obtain ⟨hx, hb, hml, hown, hts, hK, -, -⟩ := F
  exact va_lald (D := G.1) (cl := vwCl) (ws := [(a, .inl (G.2.1 2, n, .inr (.inl f)))]) hx hb hK.1 (hS.1.one he) 0 2 rfl rfl hin hdg kk
theorem r_zast (F : Bd G p l s m args meth c cc nL own) (hS : HS G s V H locs) {n : Nat} {f : Nat → Int32} (he : V k i = some (a, .inl (G.2.1 3, n, .inl f))) {x y : Int32} (hin : vp_in x n) (hn : narrow .boolean (.int y) = .int y) (hdg : decode cc pc = .ok (.bastore, 1))
    (kk : ∀ (H1 : Heap) (locs1 : List Loc), HS G s (uV V k i (a, .inl (G.2.1 3, n, .inl (upd f x.toNatClampNeg y)))) H1 locs1 → W p l e R s m args below meth c H1 locs1 cells slots Q (F0 m (pc + 1) ls rest)) : W p l e R s m args below meth c H locs cells slots Q (F0 m pc ls (.int y :: .int x :: .ref a :: rest)) := by
  obtain ⟨hx, hb, hml, hown, hts, hK, -, -⟩ := F
  have hc : H[a]? = some (vp_cell (G.2.1 3) (n, .inl f)) := (hS.1.1 _ _ _ he).1
  have hA := (hK.1.2 3 (G.2.1 3, .boolean) rfl).1 n (fun j => .int (f j))
  refine W.zast hx hb hc hA (fun q => by cases q) (by show ¬ (x < 0 ∨ (arrV _ _ _).slots.size ≤ _); rw [arrV_size]; exact hin) rfl rfl hdg fun H1 e1 z oq => ?_
  refine kk H1 _ ⟨hS.1.set he ?_ oq, hS.2.1.put z oq (hS.1.1 _ _ _ he).2, hS.2.2⟩
  show H1[a]? = some (vp_cell _ _)
  rw [e1, hn, vp_cell_i, vp_cell_i, arrV_store]
  congr 2
  funext q
  by_cases hq : q = x.toNatClampNeg
  · subst hq
    simp [updV, upd]
  · simp [updV, upd, hq]
theorem r_newz (F : Bd G p l s m args meth c cc nL own) (hS : HS G s V H locs) (k i : Nat) (harr : Cond.arrayClass (newarray.typeOf .boolean) ∈ TBL) {n : Int32} {N : Nat} (hn : ¬ n < 0) (hN : n.toNatClampNeg = N) (hbytes : N * componentBytes (newarray.typeOf .boolean) ≤ 536870912) (hcells : cells + 1 ≤ R.cells) (hslots : slots + N ≤ R.slots) (hdg : decode cc pc = .ok (.newarray .boolean, 2))
    (kk : ∀ (q : Nat) (H1 : Heap), HS G s (uV V k i (q, .inl (G.2.1 3, N, .inl (fun _ => 0)))) H1 locs → W p l e R s m args below meth c H1 locs (cells + 1) (slots + N) Q (F0 m (pc + 2) ls (.ref q :: rest))) : W p l e R s m args below meth c H locs cells slots Q (F0 m pc ls (.int n :: rest)) := by
  obtain ⟨hx, hb, hml, hown, hts, hK, -, -⟩ := F
  refine va_newaK hx hb (hts _ harr) rfl hdg rfl hn hN hbytes hcells hslots rfl fun H1 cA e1 z1 o1 hAr hNm => ?_
  have hcA : cA = G.2.1 3 := Option.some.inj (hNm.symm.trans (hK.1.2 3 (G.2.1 3, .boolean) rfl).2)
  subst hcA
  exact kk H.size H1 ⟨hS.1.push (Nat.le_trans hS.2.2 hS.2.1.1) e1 o1, ⟨Nat.le_trans hS.2.1.1 (by omega), fun x h1 h2 => (o1 x (Nat.lt_of_lt_of_le h1 hS.2.1.1)).trans (hS.2.1.2.1 x h1 h2), hS.2.1.2.2⟩, hS.2.2⟩
theorem r_newl (F : Bd G p l s m args meth c cc nL own) (hS : HS G s V H locs) (k i : Nat) (harr : Cond.arrayClass (newarray.typeOf .long) ∈ TBL) {n : Int32} {N : Nat} (hn : ¬ n < 0) (hN : n.toNatClampNeg = N) (hbytes : N * componentBytes (newarray.typeOf .long) ≤ 536870912) (hcells : cells + 1 ≤ R.cells) (hslots : slots + N ≤ R.slots) (hdg : decode cc pc = .ok (.newarray .long, 2))
    (kk : ∀ (q : Nat) (H1 : Heap), HS G s (uV V k i (q, .inl (G.2.1 2, N, .inr (.inl (fun _ => 0))))) H1 locs → W p l e R s m args below meth c H1 locs (cells + 1) (slots + N) Q (F0 m (pc + 2) ls (.ref q :: rest))) : W p l e R s m args below meth c H locs cells slots Q (F0 m pc ls (.int n :: rest)) := by
  obtain ⟨hx, hb, hml, hown, hts, hK, -, -⟩ := F
  refine va_newaK hx hb (hts _ harr) rfl hdg rfl hn hN hbytes hcells hslots rfl fun H1 cA e1 z1 o1 hAr hNm => ?_
  have hcA : cA = G.2.1 2 := Option.some.inj (hNm.symm.trans (hK.1.2 2 (G.2.1 2, .long) rfl).2)
  subst hcA
  exact kk H.size H1 ⟨hS.1.push (Nat.le_trans hS.2.2 hS.2.1.1) e1 o1, ⟨Nat.le_trans hS.2.1.1 (by omega), fun x h1 h2 => (o1 x (Nat.lt_of_lt_of_le h1 hS.2.1.1)).trans (hS.2.1.2.1 x h1 h2), hS.2.1.2.2⟩, hS.2.2⟩
theorem m_retl (F : Bd G p l s m args meth c cc nL own) (hr : meth.sig.returnType = some .long) (hS : HS G s V H locs) (hc : cells ≤ rm.cells) (hs : slots ≤ rm.slots) {v : Int64} (hq : Rt (some (.long v)) V) (hdg : decode cc pc = .ok (.lreturn, 1)) :
    W p l e R s m args below meth c H locs cells slots (MQ below (QcC G Rt) args s rm.cells rm.slots (aB G)) (F0 m pc ls [.long v]) := by
  obtain ⟨hx, hb, hml, hown, hts, hK, hlk, -⟩ := F
  exact W.widen hc hs (W.lret hx hb hr (fun t ht hW => ⟨⟨_, V, rfl, hq, by rw [ht]; exact hS.1⟩, hS.2.1.F ht⟩) hS.2.1.2.2 hdg (hlocks := hlk))
end MR
/-- a boolean answer -/
def bv (b : Int32) (P : Prop) : Prop := (b = 1 ∧ P) ∨ (b = 0 ∧ ¬ P)
theorem bv.t {b : Int32} {P : Prop} (h : bv b P) (c : ¬ b = 0) : P := by
  rcases h with h | h
  · exact h.2
  · exact absurd h.1 c
theorem bv.f {b : Int32} {P : Prop} (h : bv b P) (c : b = 0) : ¬ P := by
  rcases h with h | h
  · exact absurd (h.1.symm.trans c) (by decide)
  · exact h.2
theorem bv.nar {b : Int32} {P : Prop} (h : bv b P) : narrow .boolean (.int b) = .int b := by
  rcases h with h | h <;> rw [h.1] <;> rfl
theorem bv.iff {b : Int32} {P Q : Prop} (h : bv b P) (e : P ↔ Q) : bv b Q := by
  rcases h with h | h
  · exact Or.inl ⟨h.1, e.mp h.2⟩
  · exact Or.inr ⟨h.1, fun z => h.2 (e.mpr z)⟩
theorem bv.eq1 {b : Int32} {P : Prop} (h : bv b P) (hp : P) : b = 1 := by
  rcases h with h | h
  · exact h.1
  · exact absurd hp h.2
theorem bv.eq0 {b : Int32} {P : Prop} (h : bv b P) (hp : ¬ P) : b = 0 := by
  rcases h with h | h
  · exact absurd h.2 hp
  · exact h.1
theorem nI_m2 {h : Nat} (h0 : 2 ≤ h) : nI h - 2 = nI (h - 2) := by
  obtain ⟨j, rfl⟩ : ∃ j, h = j + 2 := ⟨h - 2, by omega⟩
  have e : nI (j + 2) = nI j + 2 := (nI_add j 2).symm
  rw [e, show j + 2 - 2 = j from rfl, Int32.add_sub_cancel _ _]
theorem in_iff {x : Int32} {n : Nat} (hn : n < 2 ^ 31) : (0 ≤ x ∧ x ≤ nI n) ↔ ∃ i : Nat, i ≤ n ∧ x = nI i := by
  constructor
  · rintro ⟨h1, h2⟩
    obtain ⟨j, hj, rfl⟩ := nI_of (Int32.not_lt.mpr h1)
    exact ⟨j, (nI_leI hj hn).mp h2, rfl⟩
  · rintro ⟨i, hi, rfl⟩
    exact ⟨nI_pos' (by omega), nI_le hi hn⟩
theorem ed_iff {n : Int32} {ne : Nat} (hne : ne ≤ 24) : (0 ≤ n ∧ n ≤ nI ne - 1) ↔ ∃ i : Nat, i < ne ∧ n = nI i := by
  rcases Nat.eq_zero_or_pos ne with h | h
  · subst h
    constructor
    · rintro ⟨h1, h2⟩
      exact absurd (Int32.le_trans h1 h2) (by decide)
    · rintro ⟨i, hi, -⟩
      omega
  · rw [nI_m1 h, in_iff (by omega)]
    constructor
    · rintro ⟨i, hi, e⟩
      exact ⟨i, by omega, e⟩
    · rintro ⟨i, hi, e⟩
      exact ⟨i, by omega, e⟩
theorem pl_iff {o k : Int32} : ((0 ≤ o ∧ o ≤ 5) ∧ (0 ≤ k ∧ k ≤ 2)) ↔ ∃ on kn : Nat, on ≤ 5 ∧ kn ≤ 2 ∧ o = nI on ∧ k = nI kn := by
  have h5 : (0 ≤ o ∧ o ≤ 5) ↔ ∃ i : Nat, i ≤ 5 ∧ o = nI i := in_iff (n := 5) (by decide)
  have h2 : (0 ≤ k ∧ k ≤ 2) ↔ ∃ i : Nat, i ≤ 2 ∧ k = nI i := in_iff (n := 2) (by decide)
  rw [h5, h2]
  constructor
  · rintro ⟨⟨a, h1, h2⟩, b, h3, h4⟩
    exact ⟨a, b, h1, h3, h2, h4⟩
  · rintro ⟨a, b, h1, h3, h2, h4⟩
    exact ⟨⟨a, h1, h2⟩, b, h3, h4⟩
theorem no_op1 {op cn : Int32} (h : ¬ (0 ≤ op ∧ op ≤ 10)) : ¬ ∃ on : Nat, on ≤ 10 ∧ op = nI on ∧ (pLs (nI on) ≤ cn ∧ cn ≤ pGr on) := by
  rintro ⟨on, h1, h2, -⟩
  exact h ((in_iff (n := 10) (by decide)).mpr ⟨on, h1, h2⟩)
theorem no_op2 {on : Nat} {cn : Int32} (hon : on ≤ 10) (h : ¬ (pLs (nI on) ≤ cn ∧ cn ≤ pGr on)) : ¬ ∃ o2 : Nat, o2 ≤ 10 ∧ nI on = nI o2 ∧ (pLs (nI o2) ≤ cn ∧ cn ≤ pGr o2) := by
  rintro ⟨o2, h1, h2, h3⟩
  have e : on = o2 := (nI_eq (by omega) (by omega)).mp h2
  subst e
  exact h h3
theorem i64_0 {x : Int32} (h : x.toInt64 = 0) : x = 0 := by
  have h1 : x.toInt64.toInt = (0 : Int64).toInt := by rw [h]
  rw [Int32.toInt_toInt64] at h1
  exact Int32.toInt_inj.mp h1
theorem i64_fit {v : Int64} (h : ¬ (v < -1000000000 ∨ 1000000000 < v)) : v.toInt32.toInt64 = v := by
  have h1 : ¬ v < -1000000000 := fun z => h (Or.inl z)
  have h2 : ¬ 1000000000 < v := fun z => h (Or.inr z)
  rw [Int64.lt_iff_toInt_lt] at h1 h2
  have e1 : (-1000000000 : Int64).toInt = -1000000000 := by decide
  have e2 : (1000000000 : Int64).toInt = 1000000000 := by decide
  rw [e1] at h1
  rw [e2] at h2
  apply Int64.toInt_inj.mp
  rw [Int32.toInt_toInt64, Int64.toInt_toInt32]
  apply Int.bmod_eq_of_le <;> omega
theorem upL_ok {h HB : Nat} {g : Nat → Int64} {f : Nat → Int32} {v : Int64} (hg : ∀ q, q < h → g q = (f q).toInt64) (hHB : HB ≤ h) (hv : ¬ (v < -1000000000 ∨ 1000000000 < v)) : ∀ q, q < HB + 1 → vp_updL g HB v q = (upd f HB v.toInt32 q).toInt64 := by
  intro q hq
  unfold vp_updL upd
  by_cases e : q = HB
  · rw [if_pos e, if_pos e, i64_fit hv]
  · rw [if_neg e, if_neg e, hg q (by omega)]
/-- the reference's object and its arrays -/
abbrev oM (A : Nat → Nat) (mo ne dy th qs nk hs hd pu st nx : Int32) (an : Int64) : va_E := .inr (5, [.int mo, .int ne, .int dy, .int th, .int qs, .int nk, .int hs, .int hd, .ref (A 21), .ref (A 22), .ref (A 23), .ref (A 24), .ref (A 25), .ref (A 26), .ref (A 27), .ref (A 28), .ref (A 29), .ref (A 30), .ref (A 31), .ref (A 32), .ref (A 33), .ref (A 34), .ref (A 35), .ref (A 36), .ref (A 37), .int pu, .int st, .int nx, .long an, .ref (A 38)])
abbrev uM (G : Gl) (V : Vw) (a1 : Nat) (A : Nat → Nat) (mo ne dy th qs nk hs hd pu st nx : Int32) (an : Int64) (g : Nat → Int64) : Vw := uV (uV V 37 0 (A 37, aL G 8 g)) 20 0 (a1, oM A mo ne dy th qs nk hs hd pu st nx an)
theorem uM_of20 {G : Gl} {V : Vw} {a1 : Nat} {A : Nat → Nat} {mo ne dy th qs nk hs hd pu st nx : Int32} {an : Int64} {g : Nat → Int64} (h37 : V 37 0 = some (A 37, aL G 8 g)) : uV V 20 0 (a1, oM A mo ne dy th qs nk hs hd pu st nx an) = uM G V a1 A mo ne dy th qs nk hs hd pu st nx an g := by
  unfold uM
  rw [uV_id h37]
theorem uM_put {G : Gl} {V : Vw} {a1 : Nat} {A : Nat → Nat} {mo ne dy th qs nk hs hd pu st nx mo2 ne2 dy2 th2 qs2 nk2 hs2 hd2 pu2 st2 nx2 : Int32} {an an2 : Int64} {g : Nat → Int64} : uV (uM G V a1 A mo ne dy th qs nk hs hd pu st nx an g) 20 0 (a1, oM A mo2 ne2 dy2 th2 qs2 nk2 hs2 hd2 pu2 st2 nx2 an2) = uM G V a1 A mo2 ne2 dy2 th2 qs2 nk2 hs2 hd2 pu2 st2 nx2 an2 g := by
  unfold uM
  rw [uV_uV]
theorem uM_uM {G : Gl} {V : Vw} {a1 : Nat} {A : Nat → Nat} {mo ne dy th qs nk hs hd pu st nx mo2 ne2 dy2 th2 qs2 nk2 hs2 hd2 pu2 st2 nx2 : Int32} {an an2 : Int64} {g g2 : Nat → Int64} : uM G (uM G V a1 A mo ne dy th qs nk hs hd pu st nx an g) a1 A mo2 ne2 dy2 th2 qs2 nk2 hs2 hd2 pu2 st2 nx2 an2 g2 = uM G V a1 A mo2 ne2 dy2 th2 qs2 nk2 hs2 hd2 pu2 st2 nx2 an2 g2 := by
  unfold uM
  rw [uV_cm (k := 20) (k2 := 37) _ _ _ (by omega), uV_uV, uV_uV]
theorem uM_38 {G : Gl} {V : Vw} {a1 : Nat} {A : Nat → Nat} {mo ne dy th qs nk hs hd pu st nx : Int32} {an : Int64} {g : Nat → Int64} {x y : Nat × va_E} : uV (uM G (uV V 38 0 x) a1 A mo ne dy th qs nk hs hd pu st nx an g) 38 0 y = uM G (uV V 38 0 y) a1 A mo ne dy th qs nk hs hd pu st nx an g := by
  unfold uM
  rw [uV_cm (k := 20) (k2 := 38) _ _ _ (by omega), uV_cm (k := 37) (k2 := 38) _ _ _ (by omega), uV_uV]
/-- a value that an op puts -/
def pVal (o : Nat) (cn gc : Int32) (lo up : Int64) (ak : Int32) : Int64 := if o = 0 then cn.toInt64 else if o = 1 then gc.toInt64 else if o = 2 then lo + up else if o = 3 then lo - up else if o = 4 then lo * up else if o = 5 then lo / up else if o = 6 then (if lo < up then 1 else 0) else if o = 7 then up else ak.toInt64
/-- how the reference numbers a step's end, and a run's -/
def mC (c : Int32) : Int32 := if c = 7 then 0 else if c = 6 then -1 else c
def mE (c : Int32) : Int32 := if c = 6 then 0 else c
def SP (G : Gl) (V : Vw) (a1 : Nat) (A : Nat → Nat) (mo ne dy th qs nk hs hd st : Int32) (an : Int64) (P : Int32 × Nat × Int32 × Int32 × (Nat → Int32)) (rv : Option Value) (V' : Vw) : Prop :=
  ∃ (pu nx : Int32) (g : Nat → Int64), rv = some (.int (mC P.1)) ∧ (P.1 = 7 → pu = nI P.2.1 ∧ nx = P.2.2.1 ∧ ∀ q, q < P.2.1 → g q = (P.2.2.2.2 q).toInt64) ∧ V' = uM G V a1 A mo ne dy th qs nk hs hd pu st nx (if P.1 = 6 then P.2.2.2.1.toInt64 else an) g
section SPs
variable {G : Gl} {V V' : Vw} {a1 : Nat} {A : Nat → Nat} {mo ne dy th qs nk hs hd st pu nx c n2 a2 : Int32} {an : Int64} {P : Int32 × Nat × Int32 × Int32 × (Nat → Int32)} {h2 : Nat} {f2 : Nat → Int32} {g : Nat → Int64}
theorem SP.bad (hp : P = (c, h2, n2, a2, f2)) (h6 : ¬ c = 6) (h7 : ¬ c = 7) (hV : V' = uM G V a1 A mo ne dy th qs nk hs hd pu st nx an g) : SP G V a1 A mo ne dy th qs nk hs hd st an P (some (.int c)) V' := by
  subst hp
  refine ⟨pu, nx, g, ?_, fun z => absurd z h7, ?_⟩
  · show some (Value.int c) = some (Value.int (mC c))
    unfold mC
    rw [if_neg h7, if_neg h6]
  · show V' = uM G V a1 A mo ne dy th qs nk hs hd pu st nx (if c = 6 then _ else an) g
    rw [if_neg h6]
    exact hV
theorem SP.ans (hp : P = (6, h2, n2, a2, f2)) (hV : V' = uM G V a1 A mo ne dy th qs nk hs hd pu st nx a2.toInt64 g) : SP G V a1 A mo ne dy th qs nk hs hd st an P (some (.int (-1))) V' := by
  subst hp
  refine ⟨pu, nx, g, ?_, fun z => absurd (show (6 : Int32) = 7 from z) (by decide), ?_⟩
  · show some (Value.int (-1)) = some (Value.int (mC 6))
    rw [show mC 6 = -1 by decide]
  · show V' = uM G V a1 A mo ne dy th qs nk hs hd pu st nx (if (6 : Int32) = 6 then a2.toInt64 else an) g
    rw [if_pos rfl]
    exact hV
theorem SP.go (hp : P = (7, h2, n2, a2, f2)) (hg : ∀ q, q < h2 → g q = (f2 q).toInt64) (hV : V' = uM G V a1 A mo ne dy th qs nk hs hd (nI h2) st n2 an g) : SP G V a1 A mo ne dy th qs nk hs hd st an P (some (.int 0)) V' := by
  subst hp
  refine ⟨nI h2, n2, g, ?_, fun _ => ⟨rfl, rfl, hg⟩, ?_⟩
  · show some (Value.int 0) = some (Value.int (mC 7))
    rw [show mC 7 = 0 by decide]
  · show V' = uM G V a1 A mo ne dy th qs nk hs hd (nI h2) st n2 (if (7 : Int32) = 6 then a2.toInt64 else an) g
    rw [if_neg (by decide)]
    exact hV
end SPs
theorem uM_of208 {G : Gl} {V : Vw} {a1 : Nat} {A : Nat → Nat} {mo ne dy th qs nk hs hd pu st nx : Int32} {an : Int64} {g : Nat → Int64} {gv : Nat → Int32} (h37 : V 37 0 = some (A 37, aL G 8 g)) (h38 : V 38 0 = some (A 38, aI G 8 gv)) : uV V 20 0 (a1, oM A mo ne dy th qs nk hs hd pu st nx an) = uM G (uV V 38 0 (A 38, aI G 8 gv)) a1 A mo ne dy th qs nk hs hd pu st nx an g := by
  rw [uV_id h38]
  exact uM_of20 h37
theorem e64 (x : Int32) : x.toInt64.toInt32 = x := Int32.toInt32_toInt64 x

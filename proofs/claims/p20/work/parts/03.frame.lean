/-! The logical heap: a cell by its kind and number; no list of cells, no split, no join: a contract says what it does to the view V. -/
abbrev Vw : Type := Nat → Nat → Option (Nat × va_E)
/-- class numbers and slots; array classes by number (0 int, 1 Object); the first address that is ours -/
abbrev Gl : Type := va_G × (Nat → ClassId) × Nat
def uV (V : Vw) (k i : Nat) (x : Nat × va_E) : Vw := fun k' i' => bif (Nat.beq k' k && Nat.beq i' i) then some x else V k' i'
theorem uV_self (V : Vw) (k i : Nat) (x : Nat × va_E) : uV V k i x k i = some x := by
  show (bif (Nat.beq k k && Nat.beq i i) then some x else V k i) = some x
  rw [Nat.beq_refl, Nat.beq_refl]
  rfl
theorem uV_ne {V : Vw} {k i k' i' : Nat} {x : Nat × va_E} (h : ¬ (k' = k ∧ i' = i)) : uV V k i x k' i' = V k' i' := by
  have hb : (Nat.beq k' k && Nat.beq i' i) = false := by
    cases hc : (Nat.beq k' k && Nat.beq i' i) with
    | false => rfl
    | true =>
      rw [Bool.and_eq_true] at hc
      exact absurd ⟨Nat.eq_of_beq_eq_true hc.1, Nat.eq_of_beq_eq_true hc.2⟩ h
  show (bif (Nat.beq k' k && Nat.beq i' i) then some x else V k' i') = V k' i'
  rw [hb]
  rfl
theorem uV_cases {V : Vw} {k i k' i' : Nat} {x q : Nat × va_E} (h : uV V k i x k' i' = some q) : (k' = k ∧ i' = i ∧ q = x) ∨ (¬ (k' = k ∧ i' = i) ∧ V k' i' = some q) := by
  by_cases hk : k' = k ∧ i' = i
  · obtain ⟨e1, e2⟩ := hk
    rw [e1, e2, uV_self] at h
    exact Or.inl ⟨e1, e2, (Option.some.inj h).symm⟩
  · rw [uV_ne hk] at h
    exact Or.inr ⟨hk, h⟩
def aB (G : Gl) : Nat → Prop := fun q => G.2.2 ≤ q
def HW (G : Gl) (V : Vw) (H : Heap) : Prop := (∀ (k i : Nat) (q : Nat × va_E), V k i = some q → va_at G.1 vwCl q H ∧ G.2.2 ≤ q.1) ∧ ∀ (k i k' i' : Nat) (q q' : Nat × va_E), V k i = some q → V k' i' = some q' → q.1 = q'.1 → k = k' ∧ i = i'
theorem HW.one {G : Gl} {V : Vw} {H : Heap} {k i : Nat} {q : Nat × va_E} (h : HW G V H) (he : V k i = some q) : va_P G.1 vwCl [q] H := by
  intro n x hx
  match n, hx with
  | 0, hx => cases hx; exact (h.1 _ _ _ he).1
  | n + 1, hx => simp at hx
theorem HW.keep {G : Gl} {V : Vw} {H H1 : Heap} (h : HW G V H) (hq : ∀ q : Nat, q < H.size → H1[q]? = H[q]?) : HW G V H1 :=
  ⟨fun k i q e => ⟨(h.1 k i q e).1.kept (hq _ (h.1 k i q e).1.lt), (h.1 k i q e).2⟩, h.2⟩
theorem HW.set {G : Gl} {V : Vw} {H H1 : Heap} {k i a : Nat} {e0 e : va_E} (h : HW G V H) (hp : V k i = some (a, e0)) (he : va_at G.1 vwCl (a, e) H1) (oq : ∀ q : Nat, q ≠ a → H1[q]? = H[q]?) : HW G (uV V k i (a, e)) H1 := by
  refine ⟨fun k' i' q hq => ?_, fun k1 i1 k2 i2 q1 q2 h1 h2 e12 => ?_⟩
  · rcases uV_cases hq with ⟨-, -, e3⟩ | ⟨hk, hq⟩
    · rw [e3]
      exact ⟨he, (h.1 _ _ _ hp).2⟩
    · have hn : q.1 ≠ a := fun z => hk (h.2 k' i' k i q (a, e0) hq hp z)
      exact ⟨(h.1 _ _ _ hq).1.kept (oq _ hn), (h.1 _ _ _ hq).2⟩
  · rcases uV_cases h1 with ⟨a1, a2, a3⟩ | ⟨n1, h1⟩ <;> rcases uV_cases h2 with ⟨b1, b2, b3⟩ | ⟨n2, h2⟩
    · exact ⟨a1.trans b1.symm, a2.trans b2.symm⟩
    · rw [a3] at e12
      exact absurd (h.2 k2 i2 k i q2 (a, e0) h2 hp e12.symm) n2
    · rw [b3] at e12
      exact absurd (h.2 k1 i1 k i q1 (a, e0) h1 hp e12) n1
    · exact h.2 _ _ _ _ _ _ h1 h2 e12
theorem HW.push {G : Gl} {V : Vw} {H H1 : Heap} {k i : Nat} {e : va_E} (h : HW G V H) (hB : G.2.2 ≤ H.size) (he : va_at G.1 vwCl (H.size, e) H1) (oq : ∀ q : Nat, q < H.size → H1[q]? = H[q]?) : HW G (uV V k i (H.size, e)) H1 := by
  have lt : ∀ (k i : Nat) (q : Nat × va_E), V k i = some q → q.1 < H.size := fun k i q hq => (h.1 k i q hq).1.lt
  refine ⟨fun k' i' q hq => ?_, fun k1 i1 k2 i2 q1 q2 h1 h2 e12 => ?_⟩
  · rcases uV_cases hq with ⟨-, -, e3⟩ | ⟨hk, hq⟩
    · rw [e3]
      exact ⟨he, hB⟩
    · exact ⟨(h.1 _ _ _ hq).1.kept (oq _ (lt _ _ _ hq)), (h.1 _ _ _ hq).2⟩
  · rcases uV_cases h1 with ⟨a1, a2, a3⟩ | ⟨n1, h1⟩ <;> rcases uV_cases h2 with ⟨b1, b2, b3⟩ | ⟨n2, h2⟩
    · exact ⟨a1.trans b1.symm, a2.trans b2.symm⟩
    · rw [a3] at e12
      have := lt _ _ _ h2
      have e13 : H.size = q2.1 := e12
      omega
    · rw [b3] at e12
      have := lt _ _ _ h1
      have e13 : q1.1 = H.size := e12
      omega
    · exact h.2 _ _ _ _ _ _ h1 h2 e12
/-- array classes: 0 int, 1 Object, 2 long, 3 boolean -/
def KT (G : Gl) : List (ClassId × FieldType) := [(G.2.1 0, .int), (G.2.1 1, .object "java/lang/Object"), (G.2.1 2, .long), (G.2.1 3, .boolean)]
def XN : List String := ["java/lang/IllegalArgumentException", "java/lang/UnsupportedOperationException", "java/util/NoSuchElementException", "java/lang/IllegalStateException", "java/lang/ArithmeticException"]
def KS (G : Gl) (U : State) (H : Heap) : Prop :=
  (vx_Zq Bundle.tN "UNASSIGNED_STACK" Bundle.steD (aB G) U H ∧ vx_Zq Bundle.tN "SUPPRESSED_SENTINEL" Bundle.listD (aB G) U H) ∧
  (va_Z "java/util/ArrayList" "DEFAULTCAPACITY_EMPTY_ELEMENTDATA" "[Ljava/lang/Object;" (.ref (G.2.1 9)) (aB G) U H ∧ va_T (.object "java/lang/Object") (G.2.1 9) 0 (fun _ => .null) (aB G) U H) ∧
  (∀ q ∈ CSP, va_Nw (.castable q.1 q.2) U) ∧ (∀ q ∈ STR, ∃ sa, vk_R "RuleClasses" q.1 q.2 sa U) ∧ va_Nw (.methodLinkNest "RuleClasses" 21 y_F_init "RuleClasses") U ∧ va_AO "java/lang/Object" U ∧ va_Mi "[Ljava/lang/Object;" (G.2.1 8) U ∧ (∀ y ∈ DCL, va_Nw (.declares y) U) ∧ ∀ a ∈ XN, ∀ b ∈ XN, a ≠ b → va_Nc a b U
def KK (G : Gl) (U : State) : Prop := va_K G.1 vwCl (KT G) U ∧ KS G U U.heap
theorem KK.go {G : Gl} {s U : State} {locs : List Loc} (h : KK G s) (hW : s.WarmedH U.vm) (hS : va_S (aB G) s.heap U.heap locs) : KK G U := by
  obtain ⟨h1, ⟨⟨a1, a2⟩, ⟨b1, b2⟩, c1, d1, e1, f1, i1, g1, n1⟩⟩ := h
  have ha := hW.alike
  have hk := hS.2.1
  exact ⟨va_K.moved ha h1, ⟨⟨vx_Zq.moved ha (a1.kept hk), vx_Zq.moved ha (a2.kept hk)⟩, ⟨va_Z.moved ha (b1.kept hk), va_T.moved ha (b2.kept hk)⟩, fun q hq => va_Nw.warmC hW (c1 q hq), fun q hq => by
    obtain ⟨sa, h⟩ := d1 q hq
    exact ⟨sa, vk_R.warm hW h⟩, va_Nw.warmM hW e1, va_AO.moved ha f1, va_Mi.moved ha i1, fun y hy => va_Nw.warmD hW (g1 y hy), fun a h1 b h2 h3 => va_Nc.moved ha (n1 a h1 b h2 h3)⟩⟩
theorem KK.same {G : Gl} {u U : State} (h : KK G u) (hh : U.heap = u.heap) (hv : U.vm = u.vm) : KK G U := by
  have hW : u.WarmedH U.vm := by rw [hv]; exact State.WarmedH.refl u
  exact h.go (locs := []) hW (by rw [hh]; exact va_S.rf)
theorem KK.xw {G : Gl} {s : State} {args : Array Value} (h : KK G s) : ∀ w ∈ XWS, w.before args s = true := by
  intro w hw
  rcases List.mem_append.mp hw with hw | hw
  · obtain ⟨q, hq, rfl⟩ := List.mem_map.mp hw
    exact va_Nw.use rfl (h.2.2.2.1 q hq)
  · obtain ⟨q, hq, rfl⟩ := List.mem_map.mp hw
    exact va_Nw.use rfl (h.2.2.2.2.2.2.2.2.1 q hq)
/-! One row an instruction over the view. F: what a body knows; hS: the view holds, nothing below our first address was written. -/
def HS (G : Gl) (s : State) (V : Vw) (H : Heap) (locs : List Loc) : Prop := HW G V H ∧ va_S (aB G) s.heap H locs ∧ G.2.2 ≤ s.heap.size
def Bd (G : Gl) (p : Program) (l : Launch) (s : State) (m : MethodId) (args : Array Value) (meth : Method) (c : Code) (cc : ByteArray) (nL : Nat) (own : String) : Prop :=
  p.tables.exec = Jvm.exec ∧ c.code = cc ∧ c.maxLocals = nL ∧ s.vm.findClass own = some m.cls ∧ (∀ w ∈ TBL, w.before args s = true) ∧ KK G s ∧ meth.locks = false ∧ l.stackTraces = false
/-- a field's place in the pool of 'own': class number, field number; 'ref' as javac spells its class -/
def FR (ref : String) (T : u_T) (j : Nat) : Prop := ref = (T j).1 ∨ Cond.sameField ref (T j).1 (T j).2.1 (T j).2.2.1 ∈ TBL
def FL (own : String) (index ci j : Nat) : Prop := ∃ (ref C : String) (T : u_T) (N : Nat), vwCl[ci]? = some (C, T, N) ∧ (∀ w ∈ u_ws C T N, w ∈ TBL) ∧ j < N ∧ Cond.fieldLink own index ref (T j).2.1 (T j).2.2.1 ∈ TBL ∧ FR ref T j
/-- what stores need of a class -/
def CT (ci : Nat) : Prop := ∃ (C : String) (T : u_T) (N : Nat), vwCl[ci]? = some (C, T, N) ∧ (∃ ty0 : Nat → FieldType, ∀ k, k < N → parseFieldDescriptor (T k).2.2.1 = some (ty0 k)) ∧ ∀ a, a < N → ∀ b, b < N → a ≠ b → (T a).2.1 ≠ (T b).2.1
def FP (own : String) (index ci j : Nat) (ty : FieldType) (fin : Bool) : Prop := ∃ (ref C : String) (T : u_T) (N : Nat), vwCl[ci]? = some (C, T, N) ∧ (∀ w ∈ u_ws C T N, w ∈ TBL) ∧ j < N ∧ Cond.fieldLink own index ref (T j).2.1 (T j).2.2.1 ∈ TBL ∧ FR ref T j ∧ (T j).2.2.2 = fin ∧ parseFieldDescriptor (T j).2.2.1 = some ty ∧ (fin = true → (T j).1 = own)
theorem FP.get {own : String} {index ci j : Nat} {ty : FieldType} {fin : Bool} (h : FP own index ci j ty fin) : FL own index ci j := by
  obtain ⟨r, C, T, N, h1, h2, h3, h4, h5, -⟩ := h
  exact ⟨r, C, T, N, h1, h2, h3, h4, h5⟩
theorem FR.use {ref : String} {T : u_T} {j : Nat} {args : Array Value} {s : State} (h : FR ref T j) (hts : ∀ w ∈ TBL, w.before args s = true) : ∀ x, s.fieldFound? (T j).1 (T j).2.1 (T j).2.2.1 = some x → s.fieldFound? ref (T j).2.1 (T j).2.2.1 = some x := by
  intro x hx
  rcases h with h | h
  · rw [h]; exact hx
  · exact u_same (hts _ h) x hx
section RW
variable {G : Gl} {p : Program} {l : Launch} {e : Env} {R : Room} {s : State} {m : MethodId} {args : Array Value} {below : List Frame} {meth : Method} {c : Code} {H : Heap} {locs : List Loc} {cells slots : Nat} {Q : State → Prop}
variable {cc : ByteArray} {nL pc : Nat} {own : String} {ls : Array Slot} {rest : List Value} {V : Vw} {k i a : Nat}
theorem r_get (F : Bd G p l s m args meth c cc nL own) (hS : HS G s V H locs) {index ci j : Nat} (fl : FL own index ci j) {fs : List Value} {v : Value} (he : V k i = some (a, .inr (ci, fs))) (hv : fs[j]? = some v) (hdg : decode cc pc = .ok (.getfield index, 3))
    (kk : W p l e R s m args below meth c H locs cells slots Q (F0 m (pc + 3) ls (v :: rest))) : W p l e R s m args below meth c H locs cells slots Q (F0 m pc ls (.ref a :: rest)) := by
  obtain ⟨hx, hb, hml, hown, hts, hK, -, -⟩ := F
  obtain ⟨r, C, T, N, hc, hin, hj, hl, hr⟩ := fl
  exact va_get (D := G.1) (cl := vwCl) (ws := [(a, .inr (ci, fs))]) hx hb hts hin hown hK.1 (hS.1.one he) 0 rfl hc j hj (hts _ hl) (hr.use hts) hv hdg kk
theorem r_put (F : Bd G p l s m args meth c cc nL own) (hS : HS G s V H locs) {index ci j : Nat} {ty : FieldType} (fl : FP own index ci j ty false) (ct : CT ci) {fs : List Value} {v : Value} (he : V k i = some (a, .inr (ci, fs))) (hn : narrow ty v = v) (hfit : fits ty v = true) (hl : j < fs.length) (hdg : decode cc pc = .ok (.putfield index, 3))
    (kk : ∀ (H1 : Heap) (locs1 : List Loc), HS G s (uV V k i (a, .inr (ci, fs.set j v))) H1 locs1 → W p l e R s m args below meth c H1 locs1 cells slots Q (F0 m (pc + 3) ls rest)) : W p l e R s m args below meth c H locs cells slots Q (F0 m pc ls (v :: .ref a :: rest)) := by
  obtain ⟨hx, hb, hml, hown, hts, hK, -, -⟩ := F
  obtain ⟨rf, C, T, N, hc, hin, hj, hlk, hrf, hfin, hd, -⟩ := fl
  obtain ⟨C', T', N', hc', ⟨ty0, hty⟩, hnm⟩ := ct
  cases Option.some.inj (hc.symm.trans hc')
  have hap := va_apart (own := own) hts hin ty0 hty hnm hK.1 hc
  obtain ⟨r, h1, cell, q1, q2, q3, q4⟩ := (hS.1.1 _ _ _ he).1
  have hr : r = (C, T, N) := Option.some.inj (h1.symm.trans hc)
  subst hr
  obtain ⟨hS0, hfc, kC, hkC, hkind⟩ := hK.1.1 ci _ hc
  obtain ⟨cf, kf, fi, f, hi, hsl⟩ := hS0 j hj
  have hlay := hts _ (hin _ (u_in_lay hj))
  unfold u_lay at hlay
  rw [if_neg (by rw [hfin]; decide)] at hlay
  have hst := (u_facts hfc hkC (u_lays hts hin hj) hi).1
  have h6 := u_store hfc hkC hkind hlay hi hd hn hfit
  refine W.putK hx hb (f := f) ⟨hown, hts _ hlk, ⟨_, _, _, hrf.use hts _ hi⟩, hst⟩ (by rw [q2]; exact h6) q1 q3 (by rw [hsl]; exact k2_hasslot (q4 j hj)) rfl rfl hdg fun H' e1 e2 e3 => ?_
  rw [hsl] at e1 ⊢
  exact kk H' _ ⟨hS.1.set he ⟨_, hc, t_OB.to (V := updV (vp_V fs) j v) ⟨_, e1, q2, q3, t_set q4 hap hj v⟩ (fun n _ => vp_updV_set hl v n)⟩ e3, hS.2.1.put e2 e3 (hS.1.1 _ _ _ he).2, hS.2.2⟩
theorem r_putF (F : Bd G p l s m args meth c cc nL own) (hS : HS G s V H locs) {index ci j : Nat} {ty : FieldType} (fl : FP own index ci j ty true) (ct : CT ci) (hin2 : meth.name = "<init>") {fs : List Value} {v : Value} (he : V k i = some (a, .inr (ci, fs))) (hn : narrow ty v = v) (hfit : fits ty v = true) (hl : j < fs.length) (hdg : decode cc pc = .ok (.putfield index, 3))
    (kk : ∀ (H1 : Heap) (locs1 : List Loc), HS G s (uV V k i (a, .inr (ci, fs.set j v))) H1 locs1 → W p l e R s m args below meth c H1 locs1 cells slots Q (F0 m (pc + 3) ls rest)) : W p l e R s m args below meth c H locs cells slots Q (F0 m pc ls (v :: .ref a :: rest)) := by
  obtain ⟨hx, hb, hml, hown, hts, hK, -, -⟩ := F
  obtain ⟨rf, C, T, N, hc, hin, hj, hlk, hrf, hfin, hd, hdecl⟩ := fl
  have hdecl := hdecl rfl
  obtain ⟨C', T', N', hc', ⟨ty0, hty⟩, hnm⟩ := ct
  cases Option.some.inj (hc.symm.trans hc')
  have hap := va_apart (own := own) hts hin ty0 hty hnm hK.1 hc
  obtain ⟨r, h1, cell, q1, q2, q3, q4⟩ := (hS.1.1 _ _ _ he).1
  have hr : r = (C, T, N) := Option.some.inj (h1.symm.trans hc)
  subst hr
  obtain ⟨hS0, hfc, kC, hkC, hkind⟩ := hK.1.1 ci _ hc
  obtain ⟨cf, kf, fi, f, hi, hsl⟩ := hS0 j hj
  have hlay := hts _ (hin _ (u_in_lay hj))
  unfold u_lay at hlay
  rw [if_pos hfin] at hlay
  have hst := (u_facts hfc hkC (u_lays hts hin hj) hi).1
  have hcf : m.cls = cf := by
    obtain ⟨_, _, c', _, _, _, -, -, hf', -, -, -, hown2, -⟩ := Cond.laysFinal_spec hlay
    have e1 : c' = cf := by have := hi.symm.trans hf'; simp at this; exact this.1.symm
    rw [hdecl] at hown2
    rw [← e1]; exact Option.some.inj (hown.symm.trans hown2)
  have h6 := u_fits hfc hkC hkind (Or.inr hlay) hi hd hn hfit
  refine W.putFinK hx hb hown (hts _ hlk) (hrf.use hts _ hi) hst hcf hin2 (by rw [q2]; exact h6) q1 q3 (by rw [hsl]; exact k2_hasslot (q4 j hj)) rfl rfl hdg fun H' e1 e2 e3 => ?_
  rw [hsl] at e1 ⊢
  exact kk H' _ ⟨hS.1.set he ⟨_, hc, t_OB.to (V := updV (vp_V fs) j v) ⟨_, e1, q2, q3, t_set q4 hap hj v⟩ (fun n _ => vp_updV_set hl v n)⟩ e3, hS.2.1.put e2 e3 (hS.1.1 _ _ _ he).2, hS.2.2⟩
theorem r_iald (F : Bd G p l s m args meth c cc nL own) (hS : HS G s V H locs) {n : Nat} {f : Nat → Int32} (he : V k i = some (a, .inl (G.2.1 0, n, .inl f))) {x : Int32} (hin : vp_in x n) (hdg : decode cc pc = .ok (.iaload, 1))
    (kk : W p l e R s m args below meth c H locs cells slots Q (F0 m (pc + 1) ls (.int (f x.toNatClampNeg) :: rest))) : W p l e R s m args below meth c H locs cells slots Q (F0 m pc ls (.int x :: .ref a :: rest)) := by
  obtain ⟨hx, hb, hml, hown, hts, hK, -, -⟩ := F
  exact va_iald (D := G.1) (cl := vwCl) (ws := [(a, .inl (G.2.1 0, n, .inl f))]) hx hb hK.1 (hS.1.one he) 0 0 rfl rfl hin hdg kk
theorem r_iast (F : Bd G p l s m args meth c cc nL own) (hS : HS G s V H locs) {n : Nat} {f : Nat → Int32} (he : V k i = some (a, .inl (G.2.1 0, n, .inl f))) {x y : Int32} (hin : vp_in x n) (hdg : decode cc pc = .ok (.iastore, 1))
    (kk : ∀ (H1 : Heap) (locs1 : List Loc), HS G s (uV V k i (a, .inl (G.2.1 0, n, .inl (upd f x.toNatClampNeg y)))) H1 locs1 → W p l e R s m args below meth c H1 locs1 cells slots Q (F0 m (pc + 1) ls rest)) : W p l e R s m args below meth c H locs cells slots Q (F0 m pc ls (.int y :: .int x :: .ref a :: rest)) := by
  obtain ⟨hx, hb, hml, hown, hts, hK, -, -⟩ := F
  have hc : H[a]? = some (vp_cell (G.2.1 0) (n, .inl f)) := (hS.1.1 _ _ _ he).1
  have hA := (hK.1.2 0 (G.2.1 0, .int) rfl).1 n (fun j => .int (f j))
  refine W.iast hx hb hc hA (fun q => by cases q) (by show ¬ (x < 0 ∨ (arrV _ _ _).slots.size ≤ _); rw [arrV_size]; exact hin) rfl rfl hdg fun H1 e1 z oq => ?_
  refine kk H1 _ ⟨hS.1.set he ?_ oq, hS.2.1.put z oq (hS.1.1 _ _ _ he).2, hS.2.2⟩
  show H1[a]? = some (vp_cell _ _)
  rw [e1, vp_cell_i, vp_cell_i, arrV_store]
  congr 2
  funext q
  by_cases hq : q = x.toNatClampNeg
  · subst hq
    simp [updV, upd]
  · simp [updV, upd, hq]
theorem r_alen (F : Bd G p l s m args meth c cc nL own) (hS : HS G s V H locs) {t n : Nat} {x : vp_A} (he : V k i = some (a, .inl (G.2.1 t, x))) (ht : t < 2) {v : Int32} (hv : Int32.ofNat x.1 = v) (hdg : decode cc pc = .ok (.arraylength, 1))
    (kk : W p l e R s m args below meth c H locs cells slots Q (F0 m (pc + 1) ls (.int v :: rest))) : W p l e R s m args below meth c H locs cells slots Q (F0 m pc ls (.ref a :: rest)) := by
  obtain ⟨hx, hb, hml, hown, hts, hK, -, -⟩ := F
  rcases (show t = 0 ∨ t = 1 by omega) with rfl | rfl
  · exact va_alen (D := G.1) (cl := vwCl) (ws := [(a, .inl (G.2.1 0, x))]) hx hb hK.1 (hS.1.one he) 0 0 rfl (ty := .int) rfl hv hdg kk
  · exact va_alen (D := G.1) (cl := vwCl) (ws := [(a, .inl (G.2.1 1, x))]) hx hb hK.1 (hS.1.one he) 0 1 rfl (ty := .object "java/lang/Object") rfl hv hdg kk
theorem r_aald (F : Bd G p l s m args meth c cc nL own) (hS : HS G s V H locs) {n : Nat} {f : Nat → Option Nat} (he : V k i = some (a, .inl (G.2.1 1, n, .inr (.inr (.inr (.inr f)))))) {x : Int32} (hin : vp_in x n) (hdg : decode cc pc = .ok (.aaload, 1))
    (kk : W p l e R s m args below meth c H locs cells slots Q (F0 m (pc + 1) ls (va_rf (f x.toNatClampNeg) :: rest))) : W p l e R s m args below meth c H locs cells slots Q (F0 m pc ls (.int x :: .ref a :: rest)) := by
  obtain ⟨hx, hb, hml, hown, hts, hK, -, -⟩ := F
  exact va_aldq (D := G.1) (cl := vwCl) (ws := [(a, .inl (G.2.1 1, n, .inr (.inr (.inr (.inr f)))))]) (C := "java/lang/Object") hx hb hK.1 (hS.1.one he) 0 1 rfl rfl hin hdg kk
/-- new: the cell gets the kind k and the number i -/
theorem r_new (F : Bd G p l s m args meth c cc nL own) (hS : HS G s V H locs) (k i : Nat) {index ci N : Nat} {C : String} {T : u_T} (hc : vwCl[ci]? = some (C, T, N)) (hin : ∀ w ∈ u_ws C T N, w ∈ TBL) (ty : Nat → FieldType) (hty : ∀ k, k < N → parseFieldDescriptor (T k).2.2.1 = some (ty k)) (hcl : Cond.classLink own index C ∈ TBL) (hinst : Cond.instantiable C N ∈ TBL) (hini : Cond.initialized C ∈ TBL)
    {fs : List Value} (hfs : ∀ j, j < N → defaultValue (ty j) = vp_V fs j) (hcells : cells + 1 ≤ R.cells) (hslots : slots + N ≤ R.slots) (hdg : decode cc pc = .ok (.new index, 3))
    (kk : ∀ (q : Nat) (H1 : Heap), HS G s (uV V k i (q, .inr (ci, fs))) H1 locs → W p l e R s m args below meth c H1 locs (cells + 1) (slots + N) Q (F0 m (pc + 3) ls (.ref q :: rest))) : W p l e R s m args below meth c H locs cells slots Q (F0 m pc ls rest) := by
  obtain ⟨hx, hb, hml, hown, hts, hK, -, -⟩ := F
  have hKn := hK.1.1 ci _ hc
  refine W.newcK hx hb hown (hts _ hcl) (hts _ hinst) (hts _ hini) rfl hdg hcells hslots hKn.2.1 rfl fun H1 kC hkC e1 z1 o1 => ?_
  refine kk H.size H1 ⟨hS.1.push (Nat.le_trans hS.2.2 hS.2.1.1) ⟨_, hc, (u_born ty hts hin hKn hkC e1 hty).to hfs⟩ o1, ⟨Nat.le_trans hS.2.1.1 (by omega), fun x h1 h2 => (o1 x (Nat.lt_of_lt_of_le h1 hS.2.1.1)).trans (hS.2.1.2.1 x h1 h2), hS.2.1.2.2⟩, hS.2.2⟩
/-- newarray int -/
theorem r_newi (F : Bd G p l s m args meth c cc nL own) (hS : HS G s V H locs) (k i : Nat) (harr : Cond.arrayClass (newarray.typeOf .int) ∈ TBL) {n : Int32} {N : Nat} (hn : ¬ n < 0) (hN : n.toNatClampNeg = N) (hbytes : N * 4 ≤ 536870912) (hcells : cells + 1 ≤ R.cells) (hslots : slots + N ≤ R.slots) (hdg : decode cc pc = .ok (.newarray .int, 2))
    (kk : ∀ (q : Nat) (H1 : Heap), HS G s (uV V k i (q, .inl (G.2.1 0, N, .inl (fun _ => 0)))) H1 locs → W p l e R s m args below meth c H1 locs (cells + 1) (slots + N) Q (F0 m (pc + 2) ls (.ref q :: rest))) : W p l e R s m args below meth c H locs cells slots Q (F0 m pc ls (.int n :: rest)) := by
  obtain ⟨hx, hb, hml, hown, hts, hK, -, -⟩ := F
  refine va_newaK hx hb (hts _ harr) rfl hdg rfl hn hN hbytes hcells hslots rfl fun H1 cA e1 z1 o1 hAr hNm => ?_
  have hcA : cA = G.2.1 0 := Option.some.inj (hNm.symm.trans (hK.1.2 0 (G.2.1 0, .int) rfl).2)
  subst hcA
  exact kk H.size H1 ⟨hS.1.push (Nat.le_trans hS.2.2 hS.2.1.1) e1 o1, ⟨Nat.le_trans hS.2.1.1 (by omega), fun x h1 h2 => (o1 x (Nat.lt_of_lt_of_le h1 hS.2.1.1)).trans (hS.2.1.2.1 x h1 h2), hS.2.1.2.2⟩, hS.2.2⟩
end RW

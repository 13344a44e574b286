/-! Rows for the lists: static, Object[], copies, class objects. -/
section JR
variable {G : Gl} {p : Program} {l : Launch} {e : Env} {R : Room} {s : State} {m : MethodId} {args : Array Value} {below : List Frame} {meth : Method} {c : Code} {H : Heap} {locs : List Loc} {cells slots : Nat} {Q : State → Prop}
variable {cc : ByteArray} {nL pc : Nat} {own : String} {ls : Array Slot} {rest : List Value} {V : Vw} {k i a : Nat}
theorem r_gete (F : Bd G p l s m args meth c cc nL "java/util/ArrayList") (hS : HS G s V H locs) (hdg : decode cc pc = .ok (.getstatic 39, 3))
    (kk : W p l e R s m args below meth c H locs cells slots Q (F0 m (pc + 3) ls (.ref (G.2.1 9) :: rest))) : W p l e R s m args below meth c H locs cells slots Q (F0 m pc ls rest) := by
  obtain ⟨hx, hb, hml, hown, hts, hK, -, -⟩ := F
  exact va_gets hx hb hK.2.2.1.1 hS.2.1 hown (hts _ m_43) (fun _ h => h) hdg kk
theorem r_elen (F : Bd G p l s m args meth c cc nL own) (hS : HS G s V H locs) (hdg : decode cc pc = .ok (.arraylength, 1))
    (kk : W p l e R s m args below meth c H locs cells slots Q (F0 m (pc + 1) ls (.int 0 :: rest))) : W p l e R s m args below meth c H locs cells slots Q (F0 m pc ls (.ref (G.2.1 9) :: rest)) := by
  obtain ⟨hx, hb, hml, hown, hts, hK, -, -⟩ := F
  exact va_tlen hx hb hK.2.2.1.2 hS.2.1 (v := 0) rfl hdg kk
/-- new Object[n] -/
theorem r_newq (F : Bd G p l s m args meth c cc nL own) (hS : HS G s V H locs) (k i : Nat) {index : Nat} (hcl : Cond.classLink own index "java/lang/Object" ∈ TBL) {n : Int32} {N : Nat} (hn : ¬ n < 0) (hN : n.toNatClampNeg = N) (hbytes : N * 4 ≤ 536870912) (hcells : cells + 1 ≤ R.cells) (hslots : slots + N ≤ R.slots) (hdg : decode cc pc = .ok (.anewarray index, 3))
    (kk : ∀ (q : Nat) (H1 : Heap), HS G s (uV V k i (q, .inl (G.2.1 1, N, .inr (.inr (.inr (.inr (fun _ => none))))))) H1 locs → W p l e R s m args below meth c H1 locs (cells + 1) (slots + N) Q (F0 m (pc + 3) ls (.ref q :: rest))) : W p l e R s m args below meth c H locs cells slots Q (F0 m pc ls (.int n :: rest)) := by
  obtain ⟨hx, hb, hml, hown, hts, hK, -, -⟩ := F
  subst hN
  refine W.anew hx hb hown (hts _ hcl) (va_AO.use hK.2.2.2.2.2.2.1) rfl hdg rfl hn hbytes hcells hslots fun cA kA comp f1 f2 f3 f4 => ?_
  obtain ⟨kA', comp', r1, r2, r3, r4⟩ := (hK.1.2 1 (G.2.1 1, .object "java/lang/Object") rfl).2
  have hcA : cA = G.2.1 1 := Option.some.inj (f1.symm.trans r4)
  subst hcA
  generalize hH1 : H.push ({ cls := G.2.1 1, slots := Array.replicate n.toNatClampNeg .null, vm := .none } : Cell) = H1
  have z1 : H1.size = H.size + 1 := by rw [← hH1, Array.size_push]
  have e1 : H1[H.size]? = some (arrV (G.2.1 1) n.toNatClampNeg (fun _ => .null)) := by rw [← hH1, Array.getElem?_push_size, ← arrV_new]
  have o1 : ∀ q : Nat, q < H.size → H1[q]? = H[q]? := fun q hq => by rw [← hH1, Array.getElem?_push, if_neg (Nat.ne_of_lt hq)]
  exact kk H.size H1 ⟨hS.1.push (Nat.le_trans hS.2.2 hS.2.1.1) e1 o1, ⟨Nat.le_trans hS.2.1.1 (by omega), fun x h1 h2 => (o1 x (Nat.lt_of_lt_of_le h1 hS.2.1.1)).trans (hS.2.1.2.1 x h1 h2), hS.2.1.2.2⟩, hS.2.2⟩
/-- what may lie in an Object[]: a class that can be cast -/
def EC (ci : Nat) : Prop := ∃ q : vw_C, vwCl[ci]? = some q ∧ (q.1, "java/lang/Object") ∈ CSP
theorem r_aast (F : Bd G p l s m args meth c cc nL own) (hS : HS G s V H locs) {n v kv iv ci : Nat} {vs : List Value} {f : Nat → Option Nat} (he : V k i = some (a, .inl (G.2.1 1, n, .inr (.inr (.inr (.inr f)))))) (hv : V kv iv = some (v, .inr (ci, vs))) (ec : EC ci) {x : Int32} (hin : vp_in x n) (hdg : decode cc pc = .ok (.aastore, 1))
    (kk : ∀ (H1 : Heap) (locs1 : List Loc), HS G s (uV V k i (a, .inl (G.2.1 1, n, .inr (.inr (.inr (.inr (va_up f x.toNatClampNeg (some v)))))))) H1 locs1 → W p l e R s m args below meth c H1 locs1 cells slots Q (F0 m (pc + 1) ls rest)) : W p l e R s m args below meth c H locs cells slots Q (F0 m pc ls (.ref v :: .int x :: .ref a :: rest)) := by
  obtain ⟨hx, hb, hml, hown, hts, hK, -, -⟩ := F
  obtain ⟨r, hr, hcs⟩ := ec
  have hlt : x.toNatClampNeg < n := Nat.not_le.mp fun q => hin (Or.inr q)
  have h0 : ¬ x < 0 := fun q => hin (Or.inl q)
  obtain ⟨r', hr', cellV, g1, g2, g3, -⟩ := (hS.1.1 _ _ _ hv).1
  have hcls := (hK.1.1 ci r hr).2
  obtain ⟨kA, comp, k1, k2, k3, -⟩ := (hK.1.2 1 (G.2.1 1, .object "java/lang/Object") rfl).2
  obtain ⟨kE, hkE, -⟩ := Vm.findClass_spec k3
  obtain ⟨c0, t1, f1, f2, f3⟩ := Cond.castable_spec (va_Nw.use (A := args) rfl (hK.2.2.2.1 _ hcs))
  cases hcls.1.symm.trans f1
  cases k3.symm.trans f2
  obtain ⟨kC, hkC, -⟩ := hcls.2
  have hcell : H[a]? = some (vp_cell (G.2.1 1) (n, .inr (.inr (.inr (.inr f))))) := (hS.1.1 _ _ _ he).1
  refine W.aast hx hb hcell (fun q h => by cases h) (fun h => by cases h) k1 k2 rfl hkE ⟨h0, by show _ < (arrV _ _ _).slots.size; rw [arrV_size]; exact hlt⟩ g1 (fun q h => by rw [g3] at h; cases h) (by rw [g2]; exact hkC) (by rw [g2]; exact f3) rfl rfl hdg fun H1 e1 z oq => ?_
  refine kk H1 _ ⟨hS.1.set he ?_ oq, hS.2.1.put z oq (hS.1.1 _ _ _ he).2, hS.2.2⟩
  show H1[a]? = some (vp_cell _ _)
  rw [e1, vp_cell_q, vp_cell_q, arrV_store]
  congr 2
  funext q
  by_cases hq : q = x.toNatClampNeg
  · subst hq
    simp [updV, va_up, va_rf]
  · simp [updV, va_up, hq]
theorem nn32 (z : Int32) (hz : ¬ z < 0) : z.toInt = (z.toNatClampNeg : Int) := by
  have hz0 : (0 : Int) ≤ z.toInt := by
    have := Int32.not_lt.mp hz
    simpa using Int32.le_iff_toInt_le.mp this
  show z.toInt = ((z.toInt.toNat : Nat) : Int)
  omega
/-- the view behind a copy into the cell a -/
theorem HS.copied {T : State} {vm' : Vm} {e0 e1 : va_E} {cell : Cell} {L : List Loc} (hS : HS G s V T.heap locs) (he : V k i = some (a, e0)) (hc : va_at G.1 vwCl (a, e1) ((T.setVm vm').setCell a cell).heap) (hL : ∀ z ∈ L, z.base = a) : HS G s (uV V k i (a, e1)) ((T.setVm vm').setCell a cell).heap (locs ++ L) := by
  have hz : ((T.setVm vm').setCell a cell).heap = T.heap.setIfInBounds a cell := rfl
  have oq : ∀ q : Nat, q ≠ a → ((T.setVm vm').setCell a cell).heap[q]? = T.heap[q]? := fun q hq => by
    rw [hz]
    simp [Array.getElem?_setIfInBounds, Ne.symm hq]
  have hA : aB G a := (hS.1.1 _ _ _ he).2
  refine ⟨hS.1.set he hc oq, ⟨by rw [hz]; simpa using hS.2.1.1, fun q g1 g2 => ?_, fun z hz' => ?_⟩, hS.2.2⟩
  · rw [oq q (fun e => g2 (by rw [e]; exact hA))]
    exact hS.2.1.2.1 q g1 g2
  · rcases List.mem_append.mp hz' with h | h
    · exact hS.2.1.2.2 z h
    · rw [hL z h]
      exact hA
/-- System.arraycopy of ints, whole: n from the start -/
theorem r_icopy (F : Bd G p l s m args meth c cc nL own) (hS : HS G s V H locs) {k0 i0 a0 n0 n1 index : Nat} {f g : Nat → Int32} (h0 : V k0 i0 = some (a0, .inl (G.2.1 0, n0, .inl f))) (h1 : V k i = some (a, .inl (G.2.1 0, n1, .inl g))) (hlink : Cond.methodLink own index arraycopyName ∈ TBL) (hnat : Cond.native arraycopyName ∈ TBL) (hstat : Cond.static arraycopyName ∈ TBL) (hini : Cond.initialized "java/lang/System" ∈ TBL)
    {n : Int32} (hn : ¬ n < 0) (hn0 : n.toNatClampNeg ≤ n0) (hn1 : n.toNatClampNeg ≤ n1) (hsz : ls.size = nL) (hframes : 1 ≤ R.frames) (hlocals : (rest.map fun v => v.category).sum + (nativeFrameWords "java/lang/System" "arraycopy" 5 + 11) ≤ R.locals) (hdg : decode cc pc = .ok (.invokestatic index, 3))
    (kk : ∀ (H1 : Heap) (locs1 : List Loc), HS G s (uV V k i (a, .inl (G.2.1 0, n1, .inl (va_cpy f g 0 0 n.toNatClampNeg)))) H1 locs1 → W p l e R s m args below meth c H1 locs1 cells slots Q (F0 m (pc + 3) ls rest)) : W p l e R s m args below meth c H locs cells slots Q (F0 m pc ls (.int n :: .int 0 :: .ref a :: .int 0 :: .ref a0 :: rest)) := by
  obtain ⟨hx, hb, hml, hown, hts, hK, -, -⟩ := F
  intro T hT X
  subst hT
  have hc0 : T.heap[a0]? = some (vp_cell (G.2.1 0) (n0, .inl f)) := (hS.1.1 _ _ _ h0).1
  have hc1 : T.heap[a]? = some (vp_cell (G.2.1 0) (n1, .inl g)) := (hS.1.1 _ _ _ h1).1
  obtain ⟨-, k0', hk0, cm0, hkk0⟩ := (hK.1.2 0 (G.2.1 0, .int) rfl).1 n0 (fun j => .int (f j))
  have c0 : (0 : Int32).toNatClampNeg = 0 := by decide
  obtain ⟨vm', X', step⟩ := X.arraycopy hx hown (hts _ hlink) (hts _ hnat) (hts _ hstat) (hts _ hini) (src := a0) (dst := a) (cs := vp_cell (G.2.1 0) (n0, .inl f)) (cd := vp_cell (G.2.1 0) (n1, .inl g)) (srcPos := 0) (destPos := 0) (n := n) hc0 hc1
    (fun _ h => by cases h) (fun _ h => by cases h) (fun h => by cases h) (fun h => by cases h) hk0 hk0 hkk0 hkk0 (by simp [refKind]) (by decide) (by decide) hn
    (by rw [nn32 n hn]; show ¬ _ > ((arrV (G.2.1 0) n0 (fun j => .int (f j))).slots.size : Int); rw [arrV_size]; simp; omega)
    (by rw [nn32 n hn]; show ¬ _ > ((arrV (G.2.1 0) n1 (fun j => .int (g j))).slots.size : Int); rw [arrV_size]; simp; omega)
    (fun vm₁ _ i hi => by
      have e : (vp_cell (G.2.1 0) (n0, .inl f)).slots.getD ((0 : Int32).toNatClampNeg + i) .null = .int (f ((0 : Int32).toNatClampNeg + i)) := by
        show (arrV (G.2.1 0) n0 (fun j => .int (f j))).slots.getD _ _ = _
        rw [Array.getD_eq_getD_getElem?, arrV_read _ _ (by rw [c0]; omega)]
        rfl
      rw [e]
      exact ⟨rfl, trivial⟩)
    (g := F0 m pc ls (.int n :: .int 0 :: .ref a :: .int 0 :: .ref a0 :: rest)) rfl (by rw [hml]; exact hsz) (rest := rest) rfl (by rw [hb]; exact hdg) hframes (by show 2 * 0 + _ + _ ≤ _; omega)
  have e1 : copied (vp_cell (G.2.1 0) (n0, .inl f)) (vp_cell (G.2.1 0) (n1, .inl g)) 0 0 n = vp_cell (G.2.1 0) (n1, .inl (va_cpy f g 0 0 n.toNatClampNeg)) := va_copied (fun z => .int z) (G.2.1 0) (G.2.1 0) f g (by omega)
  rw [e1] at X' step
  have hl : a < T.heap.size := (Array.getElem?_eq_some_iff.mp hc1).1
  obtain ⟨t, a1, b1⟩ := kk _ _ (HS.copied hS h1 (show ((T.setVm vm').setCell a _).heap[a]? = some _ from heapAt_setCell_self (s := T.setVm vm') _ hl) (fun z hz => by
    obtain ⟨w, -, hw⟩ := List.mem_map.mp hz
    rw [← hw])) _ rfl X'
  exact ⟨t, step t a1, b1⟩
/-- System.arraycopy of references, whole: n from the start -/
theorem r_qcopy (F : Bd G p l s m args meth c cc nL own) (hS : HS G s V H locs) {k0 i0 a0 n0 n1 index ci : Nat} {f g : Nat → Option Nat} (h0 : V k0 i0 = some (a0, .inl (G.2.1 1, n0, .inr (.inr (.inr (.inr f)))))) (h1 : V k i = some (a, .inl (G.2.1 1, n1, .inr (.inr (.inr (.inr g)))))) (hlink : Cond.methodLink own index arraycopyName ∈ TBL) (hnat : Cond.native arraycopyName ∈ TBL) (hstat : Cond.static arraycopyName ∈ TBL) (hini : Cond.initialized "java/lang/System" ∈ TBL) (ec : EC ci)
    {n : Int32} (hn : ¬ n < 0) (hn0 : n.toNatClampNeg ≤ n0) (hn1 : n.toNatClampNeg ≤ n1) (hel : ∀ j, j < n.toNatClampNeg → ∀ y, f j = some y → ∃ (kv iv : Nat) (vs : List Value), V kv iv = some (y, .inr (ci, vs))) (hsz : ls.size = nL) (hframes : 1 ≤ R.frames) (hlocals : (rest.map fun v => v.category).sum + (nativeFrameWords "java/lang/System" "arraycopy" 5 + 11) ≤ R.locals) (hdg : decode cc pc = .ok (.invokestatic index, 3))
    (kk : ∀ (H1 : Heap) (locs1 : List Loc), HS G s (uV V k i (a, .inl (G.2.1 1, n1, .inr (.inr (.inr (.inr (va_cpy f g 0 0 n.toNatClampNeg))))))) H1 locs1 → W p l e R s m args below meth c H1 locs1 cells slots Q (F0 m (pc + 3) ls rest)) : W p l e R s m args below meth c H locs cells slots Q (F0 m pc ls (.int n :: .int 0 :: .ref a :: .int 0 :: .ref a0 :: rest)) := by
  obtain ⟨hx, hb, hml, hown, hts, hK, -, -⟩ := F
  obtain ⟨rq, hrq, hcs⟩ := ec
  intro T hT X
  subst hT
  have hc0 : T.heap[a0]? = some (vp_cell (G.2.1 1) (n0, .inr (.inr (.inr (.inr f))))) := (hS.1.1 _ _ _ h0).1
  have hc1 : T.heap[a]? = some (vp_cell (G.2.1 1) (n1, .inr (.inr (.inr (.inr g))))) := (hS.1.1 _ _ _ h1).1
  obtain ⟨-, k0', hk0, cm0, hkk0⟩ := (hK.1.2 1 (G.2.1 1, .object "java/lang/Object") rfl).1 n0 (fun j => va_rf (f j))
  have c0 : (0 : Int32).toNatClampNeg = 0 := by decide
  obtain ⟨vm', X', step⟩ := X.arraycopy hx hown (hts _ hlink) (hts _ hnat) (hts _ hstat) (hts _ hini) (src := a0) (dst := a) (cs := vp_cell (G.2.1 1) (n0, .inr (.inr (.inr (.inr f))))) (cd := vp_cell (G.2.1 1) (n1, .inr (.inr (.inr (.inr g))))) (srcPos := 0) (destPos := 0) (n := n) hc0 hc1
    (fun _ h => by cases h) (fun _ h => by cases h) (fun h => by cases h) (fun h => by cases h) hk0 hk0 hkk0 hkk0 rfl (by decide) (by decide) hn
    (by rw [nn32 n hn]; show ¬ _ > ((arrV (G.2.1 1) n0 (fun j => va_rf (f j))).slots.size : Int); rw [arrV_size]; simp; omega)
    (by rw [nn32 n hn]; show ¬ _ > ((arrV (G.2.1 1) n1 (fun j => va_rf (g j))).slots.size : Int); rw [arrV_size]; simp; omega)
    (fun vm₁ hal i hi => by
      have e : (vp_cell (G.2.1 1) (n0, .inr (.inr (.inr (.inr f))))).slots.getD ((0 : Int32).toNatClampNeg + i) .null = va_rf (f ((0 : Int32).toNatClampNeg + i)) := by
        show (arrV (G.2.1 1) n0 (fun j => va_rf (f j))).slots.getD _ _ = _
        rw [Array.getD_eq_getD_getElem?, arrV_read _ _ (by rw [c0]; omega)]
        rfl
      rw [e]
      cases hy : f ((0 : Int32).toNatClampNeg + i) with
      | none => exact ⟨rfl, trivial⟩
      | some y =>
        rw [c0, Nat.zero_add] at hy
        obtain ⟨kv, iv, vs, hv⟩ := hel i hi y hy
        obtain ⟨r', hr', cellV, g1, g2, g3, -⟩ := (hS.1.1 _ _ _ hv).1
        have hcls := (hK.1.1 ci rq hrq).2
        obtain ⟨kA, comp, r1, r2, r3, -⟩ := (hK.1.2 1 (G.2.1 1, .object "java/lang/Object") rfl).2
        cases hk0.symm.trans r1
        cases hkk0.symm.trans r2
        obtain ⟨cc0, t1, f1, f2, f3⟩ := Cond.castable_spec (va_Nw.use (A := args) rfl (hK.2.2.2.1 _ hcs))
        cases hcls.1.symm.trans f1
        cases r3.symm.trans f2
        obtain ⟨kC, hkC, -⟩ := hcls.2
        obtain ⟨kE, hkE, -⟩ := Vm.findClass_spec r3
        obtain ⟨kC', hkC', -⟩ := hal.2.2 _ _ hkC
        obtain ⟨kE', hkE', -⟩ := hal.2.2 _ _ hkE
        have hcc : cellV.cls = G.1.1 ci := g2
        refine ⟨rfl, cellV, g1, (fun q h => by rw [g3] at h; cases h), ⟨kC', by rw [hcc]; exact hkC'⟩, ⟨kE', hkE'⟩, ?_⟩
        show vm₁.assignable _ _ = true
        rw [hal.assignable, hcc]
        exact f3)
    (g := F0 m pc ls (.int n :: .int 0 :: .ref a :: .int 0 :: .ref a0 :: rest)) rfl (by rw [hml]; exact hsz) (rest := rest) rfl (by rw [hb]; exact hdg) hframes (by show 2 * 0 + _ + _ ≤ _; omega)
  have e1 : copied (vp_cell (G.2.1 1) (n0, .inr (.inr (.inr (.inr f))))) (vp_cell (G.2.1 1) (n1, .inr (.inr (.inr (.inr g))))) 0 0 n = vp_cell (G.2.1 1) (n1, .inr (.inr (.inr (.inr (va_cpy f g 0 0 n.toNatClampNeg))))) := by
    rw [vp_cell_q, vp_cell_q, vp_cell_q]
    exact va_copied (fun z => va_rf z) (G.2.1 1) (G.2.1 1) f g (by omega)
  rw [e1] at X' step
  have hl : a < T.heap.size := (Array.getElem?_eq_some_iff.mp hc1).1
  obtain ⟨t, a1, b1⟩ := kk _ _ (HS.copied hS h1 (show ((T.setVm vm').setCell a _).heap[a]? = some _ from heapAt_setCell_self (s := T.setVm vm') _ hl) (fun z hz => by
    obtain ⟨w, -, hw⟩ := List.mem_map.mp hz
    rw [← hw])) _ rfl X'
  exact ⟨t, step t a1, b1⟩
end JR
theorem ec_E : EC 2 := ⟨_, rfl, by decide +kernel⟩
theorem ec_F : EC 3 := ⟨_, rfl, by decide +kernel⟩

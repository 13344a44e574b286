/-! The law's helpers: a call whose exceptions are caught. -/
section HR
variable {G : Gl} {p : Program} {l : Launch} {e : Env} {R : Room} {s : State} {m : MethodId} {args : Array Value} {below : List Frame} {meth : Method} {c : Code} {H : Heap} {locs : List Loc} {cells slots : Nat} {Q : State → Prop}
variable {cc : ByteArray} {nL pc : Nat} {own : String} {ls : Array Slot} {rest : List Value} {V : Vw} {k i a : Nat}
theorem r_last (F : Bd G p l s m args meth c cc nL own) (hS : HS G s V H locs) {n : Nat} {f : Nat → Int64} (he : V k i = some (a, .inl (G.2.1 2, n, .inr (.inl f)))) {x : Int32} {y : Int64} (hin : vp_in x n) (hdg : decode cc pc = .ok (.lastore, 1))
    (kk : ∀ (H1 : Heap) (locs1 : List Loc), HS G s (uV V k i (a, .inl (G.2.1 2, n, .inr (.inl (vp_updL f x.toNatClampNeg y))))) H1 locs1 → W p l e R s m args below meth c H1 locs1 cells slots Q (F0 m (pc + 1) ls rest)) : W p l e R s m args below meth c H locs cells slots Q (F0 m pc ls (.long y :: .int x :: .ref a :: rest)) := by
  obtain ⟨hx, hb, hml, hown, hts, hK, -, -⟩ := F
  have hc : H[a]? = some (vp_cell (G.2.1 2) (n, .inr (.inl f))) := (hS.1.1 _ _ _ he).1
  have hA := (hK.1.2 2 (G.2.1 2, .long) rfl).1 n (fun j => .long (f j))
  refine W.last hx hb hc hA (fun q => by cases q) (by show ¬ (x < 0 ∨ (arrV _ _ _).slots.size ≤ _); rw [arrV_size]; exact hin) rfl rfl hdg fun H1 e1 z oq => ?_
  refine kk H1 _ ⟨hS.1.set he ?_ oq, hS.2.1.put z oq (hS.1.1 _ _ _ he).2, hS.2.2⟩
  show H1[a]? = some (vp_cell _ _)
  rw [e1, vp_cell_l, vp_cell_l, arrV_store]
  congr 2
  funext q
  by_cases hq : q = x.toNatClampNeg
  · subst hq
    simp [updV, vp_updL]
  · simp [updV, vp_updL, hq]
theorem r_catch {hh : List (Nat × Nat × Nat × Nat)} {x : Nat × Nat × Nat × Nat} {E : String} {q : Addr} {ce : Cell} (F : Bd G p l s m args meth c cc nL "RuleClassesLaw") (htab : c.exceptionTable.toList = tableOf hh) (preh sufh : List (Nat × Nat × Nat × Nat)) (hsp : hh = preh ++ x :: sufh)
    (hpass : ∀ z ∈ preh, z.2.2.2 ≠ 0 ∧ ∃ nm : String, Cond.classLink "RuleClassesLaw" z.2.2.2 nm ∈ TBL ∧ nm ∈ XN ∧ E ∈ XN ∧ E ≠ nm) (hcov : covers (⟨x.1, x.2.1, x.2.2.1, x.2.2.2⟩ : ExceptionTableEntry) pc = true) (h0 : x.2.2.2 ≠ 0) (hlink : Cond.classLink "RuleClassesLaw" x.2.2.2 E ∈ TBL) (hcast : (E, E) ∈ CSP) (hce : H[q]? = some ce ∧ ce.vm = .none ∧ s.vm.findClass E = some ce.cls)
    (kk : W p l e R s m args below meth c H locs cells slots Q (F0 m x.2.2.1 ls [.ref q])) : vx_W p l e R s m args below meth c H locs cells slots Q (F0 m pc ls rest) q := by
  obtain ⟨hx, hb, hml, hown, hts, hK, -, -⟩ := F
  refine vx_catch (own := "RuleClassesLaw") (name := E) (E := E) hown (tableOf preh) ⟨x.1, x.2.1, x.2.2.1, x.2.2.2⟩ (tableOf sufh) (by rw [htab, hsp]; simp [tableOf]) (fun z hz => ?_) hcov h0 (hts _ hlink) (va_Nw.use (A := args) rfl (hK.2.2.2.1 _ hcast)) hce.1 hce.2.1 hce.2.2 kk
  obtain ⟨w, hw, rfl⟩ := List.mem_map.mp hz
  obtain ⟨a1, nm, a2, a3, a4, a5⟩ := hpass w hw
  exact Or.inr ⟨a1, nm, hts _ a2, hK.2.2.2.2.2.2.2.2.2 E a4 nm a3 a5⟩
end HR
def Cw (G : Gl) (l : Launch) (y : MethodName) (cc : ByteArray) (maxL : Nat) (ret : Option FieldType) (hh : List (Nat × Nat × Nat × Nat)) (rm : Room) (V : Vw) (As : List Value) (Rt : Option Value → Vw → Prop) : Prop :=
  Met l y (Cond.codeWith y cc maxL ret hh :: TBL) rm (PreC G V As) (QcC G Rt) rm.cells rm.slots (aB G)
theorem Cw.of {G : Gl} {l : Launch} {V : Vw} {y : MethodName} {cc : ByteArray} {maxL : Nat} {ret : Option FieldType} {hh : List (Nat × Nat × Nat × Nat)} {rm : Room} {As : List Value} {Rt : Option Value → Vw → Prop} (htr : l.stackTraces = false) (hy : plainName y.cls = true) (hlen : (lg_sl As).length ≤ maxL)
    (body : ∀ (p : Program) (e : Env) (s : State) (m : MethodId) (args : Array Value) (below : List Frame) (meth : Method) (c : Code) (ls : Array Slot), Bd G p l s m args meth c cc maxL y.cls → meth.sig.returnType = ret → c.exceptionTable.toList = tableOf hh → HS G s V s.heap [] → lv_has ls maxL (lv_args 0 As) →
      W p l e rm s m args below meth c s.heap [] 0 0 (MQ below (QcC G Rt) args s rm.cells rm.slots (aB G)) (F0 m 0 ls [])) : Cw G l y cc maxL ret hh rm V As Rt := by
  refine va_MetW (cc := cc) (maxL := maxL) (ret := ret) (hh := hh) hy rfl ?_
  intro p e s m args below meth c s₁ B hml hv
  obtain ⟨rfl, hW, hz, hK⟩ := hv
  have hts := atoms_spec (ws := Cond.codeWith y cc maxL ret hh :: TBL) B.pre
  have hl := lv_entry As (n := maxL) hlen
  rw [lg_entry_eq]
  exact body p e s m _ below meth c _ ⟨B.exec, B.bytes, hml, findClass_of_methodNamed B.named, fun w h => hts w (List.mem_cons_of_mem _ h), hK, B.notSynchronized, htr⟩ B.returns (vx_table (x := y) B (hts _ List.mem_cons_self)) ⟨hW, va_S.rf, hz⟩ hl

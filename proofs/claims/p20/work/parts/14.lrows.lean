/-! Lists as numbers: what an ArrayList holds, and rows for class objects. -/
abbrev oAl (d : Nat) (n mc : Int32) : va_E := .inr (0, [.int mc, .ref d, .int n])
def lF (n : Nat) (f : Nat → Nat) : Nat → Option Nat := fun j => if j < n then some (f j) else none
theorem lF_0 (f : Nat → Nat) : lF 0 f = fun _ => none := by
  funext j
  exact if_neg (by omega)
theorem lF_at {n j : Nat} {f : Nat → Nat} (h : j < n) : lF n f j = some (f j) := if_pos h
theorem lF_up {n v : Nat} {f : Nat → Nat} : va_up (lF n f) n (some v) = lF (n + 1) (va_up f n v) := by
  funext j
  unfold va_up lF
  by_cases h : j = n
  · subst h
    simp
  · by_cases h2 : j < n
    · simp [h, h2, show j < n + 1 by omega]
    · simp [h, h2, show ¬ j < n + 1 by omega]
theorem lF_cpy {n : Nat} {f : Nat → Nat} : va_cpy (lF n f) (fun _ => none) 0 0 n = lF n f := by
  funext j
  unfold va_cpy lF
  by_cases h : j < n <;> simp [h]
/-- how an ArrayList grows -/
def nC (n : Nat) : Nat := if n < 2 then n + 1 else n + n / 2
theorem nC_eq : ∀ n, n ≤ 24 → nI n + (if nI (n + 1) - nI n < nI n >>> ((1 : Int32) &&& 31) then nI n >>> ((1 : Int32) &&& 31) else nI (n + 1) - nI n) = nI (nC n) := by decide +kernel
theorem nC_le {n : Nat} (h : n ≤ 24) : n < nC n ∧ nC n ≤ 36 := by
  unfold nC
  split <;> omega
/-- a cell's label moves -/
theorem HS.mv {G : Gl} {s : State} {V : Vw} {H : Heap} {locs : List Loc} {k i k2 i2 : Nat} {x : Nat × va_E} (hS : HS G s (uV V k2 i2 x) H locs) (h0 : V k2 i2 = none) : HS G s (uV V k i x) H locs := by
  have hne : ∀ (k' i' : Nat) (q : Nat × va_E), V k' i' = some q → uV V k2 i2 x k' i' = some q := fun k' i' q hq => by
    refine (uV_ne (fun z => ?_)).trans hq
    rw [z.1, z.2, h0] at hq
    cases hq
  have hnx : ∀ (k' i' : Nat) (q : Nat × va_E), V k' i' = some q → q.1 ≠ x.1 := fun k' i' q hq z => by
    have h := hS.1.2 k' i' k2 i2 q x (hne _ _ _ hq) (uV_self _ _ _ _) z
    rw [h.1, h.2, h0] at hq
    cases hq
  refine ⟨⟨fun k' i' q hq => ?_, fun k1 i1 k3 i3 q1 q3 h1 h3 e13 => ?_⟩, hS.2⟩
  · rcases uV_cases hq with ⟨-, -, e⟩ | ⟨-, hq⟩
    · rw [e]
      exact hS.1.1 k2 i2 x (uV_self _ _ _ _)
    · exact hS.1.1 k' i' q (hne _ _ _ hq)
  · rcases uV_cases h1 with ⟨a1, a2, a3⟩ | ⟨n1, h1⟩ <;> rcases uV_cases h3 with ⟨b1, b2, b3⟩ | ⟨n3, h3⟩
    · exact ⟨a1.trans b1.symm, a2.trans b2.symm⟩
    · rw [a3] at e13
      exact absurd e13.symm (hnx _ _ _ h3)
    · rw [b3] at e13
      exact absurd e13 (hnx _ _ _ h1)
    · exact hS.1.2 _ _ _ _ _ _ (hne _ _ _ h1) (hne _ _ _ h3) e13
theorem uV3 {V : Vw} {k k2 i : Nat} {x1 x3 x4 : Nat × va_E} (h : k ≠ k2) : uV (uV (uV V k i x1) k2 i x3) k i x4 = uV (uV V k2 i x3) k i x4 := by
  rw [uV_cm _ _ _ (fun z => h z.1), uV_uV]
theorem uV4 {V : Vw} {k k2 i : Nat} {x1 x2 x3 x4 : Nat × va_E} (h : k ≠ k2) : uV (uV (uV (uV V k2 i x1) k i x2) k2 i x3) k i x4 = uV (uV V k2 i x3) k i x4 := by
  rw [uV3 h, uV_uV]
section LR
variable {G : Gl} {p : Program} {l : Launch} {e : Env} {R : Room} {s : State} {m : MethodId} {args : Array Value} {below : List Frame} {meth : Method} {c : Code} {H : Heap} {locs : List Loc} {cells slots : Nat} {Q : State → Prop}
variable {cc : ByteArray} {nL pc : Nat} {own : String} {ls : Array Slot} {rest : List Value} {V : Vw} {k i a : Nat}
theorem r_getC (F : Bd G p l s m args meth c cc nL own) (hS : HS G s V H locs) {index n : Nat} {f : Nat → Option Nat} (he : V k i = some (a, .inl (G.2.1 1, n, .inr (.inr (.inr (.inr f)))))) (hlink : Cond.methodLink own index ⟨"java/lang/Object", "getClass", "()Ljava/lang/Class;"⟩ ∈ TBL) (hsel : Cond.selects "[Ljava/lang/Object;" ⟨"java/lang/Object", "getClass", "()Ljava/lang/Class;"⟩ ⟨"java/lang/Object", "getClass", "()Ljava/lang/Class;"⟩ ∈ TBL) (hinst : Cond.instanceMethod ⟨"java/lang/Object", "getClass", "()Ljava/lang/Class;"⟩ ∈ TBL) (hnat : Cond.native ⟨"java/lang/Object", "getClass", "()Ljava/lang/Class;"⟩ ∈ TBL)
    (hsz : ls.size = nL) (hframes : 1 ≤ R.frames) (hlocals : (rest.map fun v => v.category).sum + 14 ≤ R.locals) (hdg : decode cc pc = .ok (.invokevirtual index, 3))
    (kk : W p l e R s m args below meth c H locs cells slots Q (F0 m (pc + 3) ls (.ref (G.2.1 8) :: rest))) : W p l e R s m args below meth c H locs cells slots Q (F0 m pc ls (.ref a :: rest)) := by
  obtain ⟨hx, hb, hml, hown, hts, hK, -, -⟩ := F
  exact va_getC hx hb (hml.trans hsz.symm) hown (hts _ hlink) (va_Nw.use (A := args) rfl (hK.2.2.2.2.2.2.2.2.1 _ (by decide +kernel))) (hts _ hsel) (hts _ hinst) (hts _ hnat) hK.2.2.2.2.2.2.2.1 ⟨_, (hS.1.1 _ _ _ he).1, rfl, va_nmO (hK.1.2 1 (G.2.1 1, .object "java/lang/Object") rfl).2 (by decide +kernel)⟩ hframes hlocals hdg kk
theorem r_ldcM (F : Bd G p l s m args meth c cc nL own) {index : Nat} (hlink : Cond.classLink own index "[Ljava/lang/Object;" ∈ TBL) (hdg : decode cc pc = .ok (.ldc index, 2))
    (kk : W p l e R s m args below meth c H locs cells slots Q (F0 m (pc + 2) ls (.ref (G.2.1 8) :: rest))) : W p l e R s m args below meth c H locs cells slots Q (F0 m pc ls rest) := by
  obtain ⟨hx, hb, hml, hown, hts, hK, -, -⟩ := F
  exact va_ldcM hx hb hown (hts _ hlink) hK.2.2.2.2.2.2.2.1 hdg kk
end LR
/-- a body's start, for a class of which the machine has entries of its own -/
theorem Cm.ofF {G : Gl} {l : Launch} {V : Vw} {y : MethodName} {cc : ByteArray} {maxL : Nat} {ret : Option FieldType} {rm : Room} {As : List Value} {Rt : Option Value → Vw → Prop} (htr : l.stackTraces = false) (hy : plainFor y = true) (hlen : (lg_sl As).length ≤ maxL)
    (body : ∀ (p : Program) (e : Env) (s : State) (m : MethodId) (args : Array Value) (below : List Frame) (meth : Method) (c : Code) (ls : Array Slot), Bd G p l s m args meth c cc maxL y.cls → meth.sig.returnType = ret → meth.name = y.name → HS G s V s.heap [] → lv_has ls maxL (lv_args 0 As) →
      W p l e rm s m args below meth c s.heap [] 0 0 (MQ below (QcC G Rt) args s rm.cells rm.slots (aB G)) (F0 m 0 ls [])) : Cm G l y cc maxL ret rm V As Rt := by
  refine va_MetF (cc := cc) (maxL := maxL) (ret := ret) hy rfl ?_
  intro p e s m args below meth c s₁ B hml hv
  obtain ⟨rfl, hW, hz, hK⟩ := hv
  have hts := atoms_spec (ws := wsY y cc maxL ret) B.pre
  have hl := lv_entry As (n := maxL) hlen
  rw [lg_entry_eq]
  exact body p e s m _ below meth c _ ⟨B.exec, B.bytes, hml, findClass_of_methodNamed B.named, fun w h => hts w (List.mem_cons_of_mem _ h), hK, B.notSynchronized, htr⟩ B.returns (name_of_methodNamed B.named B.method).1 ⟨hW, va_S.rf, hz⟩ hl

/-! Contracts over the view: Cm (returns), Cx (returns or throws); their bodies' starts and ends; calls. -/
abbrev wsY (y : MethodName) (cc : ByteArray) (maxL : Nat) (ret : Option FieldType) : List Cond := Cond.code y cc maxL ret :: TBL
def PreC (G : Gl) (V : Vw) (As : List Value) : Array Value → State → Prop := va_Pc As (fun U => HW G V U.heap ∧ G.2.2 ≤ U.heap.size ∧ KK G U)
def QcC (G : Gl) (Rt : Option Value → Vw → Prop) : Array Value → State → Outcome → State → Prop := fun _ st oc t => (∃ (r : Option Value) (V' : Vw), oc = .returned r ∧ Rt r V' ∧ HW G V' t.heap) ∧ va_F (aB G) st t
def Cm (G : Gl) (l : Launch) (y : MethodName) (cc : ByteArray) (maxL : Nat) (ret : Option FieldType) (rm : Room) (V : Vw) (As : List Value) (Rt : Option Value → Vw → Prop) : Prop :=
  Met l y (wsY y cc maxL ret) rm (PreC G V As) (QcC G Rt) rm.cells rm.slots (aB G)
theorem PreC.blind (G : Gl) (V : Vw) (As : List Value) : FrameBlind (PreC G V As) := by
  intro a U g mk h
  obtain ⟨h1, h2, h3, h4⟩ := h
  exact ⟨h1, h2, h3, h4.same rfl rfl⟩
theorem PreC.at {G : Gl} {V : Vw} {As : List Value} {s U : State} {H : Heap} {locs : List Loc} (hS : HS G s V H locs) (hK : KK G s) (hU : U.heap = H) (hW : s.WarmedH U.vm) : PreC G V As As.toArray U :=
  ⟨rfl, by rw [hU]; exact hS.1, by rw [hU]; exact Nat.le_trans hS.2.2 hS.2.1.1, hK.go hW (by rw [hU]; exact hS.2.1)⟩
/-- a method's place in the pool of 'own' -/
def ML (own : String) (index : Nat) (y : MethodName) (bytes : ByteArray) (maxL : Nat) (ret : Option FieldType) (n : Nat) : Prop :=
  Cond.methodLink own index y ∈ TBL ∧ Cond.code y bytes maxL ret ∈ TBL ∧ Cond.initialized y.cls ∈ TBL ∧ (y.cls ≠ "java/lang/invoke/MethodHandle" ∧ y.cls ≠ "java/lang/invoke/VarHandle") ∧ (parseMethodDescriptor y.desc).map (fun d => d.parameters.length) = some n
def MLV (own : String) (index : Nat) (y : MethodName) (C : String) (bytes : ByteArray) (maxL : Nat) (ret : Option FieldType) (n : Nat) : Prop := ML own index y bytes maxL ret n ∧ Cond.instanceMethod y ∈ TBL ∧ Cond.selects C y y ∈ TBL
def MLS (own : String) (index : Nat) (y : MethodName) (bytes : ByteArray) (maxL : Nat) (ret : Option FieldType) (n : Nat) : Prop := ML own index y bytes maxL ret n ∧ Cond.static y ∈ TBL
def MLI (own : String) (index : Nat) (y : MethodName) (bytes : ByteArray) (maxL : Nat) (n : Nat) : Prop := ML own index y bytes maxL none n ∧ y.name = "<init>" ∧ Cond.instanceMethod y ∈ TBL
section CC
variable {G : Gl} {p : Program} {l : Launch} {e : Env} {R : Room} {s : State} {m : MethodId} {args : Array Value} {below : List Frame} {meth : Method} {c : Code} {H : Heap} {locs : List Loc} {cells slots : Nat} {Q : State → Prop}
variable {cc : ByteArray} {nL pc : Nat} {own : String} {ls : Array Slot} {rest st0 : List Value} {V : Vw}
variable {y : MethodName} {bytes : ByteArray} {maxL n index : Nat} {ret : Option FieldType} {rm : Room} {As : List Value} {Rt : Option Value → Vw → Prop}
theorem good_T (w : Cond) (h : w ∈ TBL) : goodWord w = true := (List.mem_filter.mp h).2
theorem pay_Y {s : State} {args : Array Value} (hts : ∀ w ∈ TBL, w.before args s = true) (hc : Cond.code y bytes maxL ret ∈ TBL) : ∀ w ∈ wsY y bytes maxL ret, ∀ (a' : Array Value) (U : State), s.WarmedH U.vm → w.before a' U = true := by
  intro w hw a' U hW
  have h1 : w ∈ TBL := by
    rcases List.mem_cons.mp hw with h | h
    · rw [h]; exact hc
    · exact h
  exact word_at hW (good_of_word (good_T w h1)) (hts w h1)
theorem ML.cb (h : ML own index y bytes maxL ret n) (hts : ∀ w ∈ TBL, w.before args s = true) (hR : rm.frames + 1 ≤ R.frames ∧ 8 + (maxL + 11) + rm.locals ≤ R.locals) : CallB R s args own index y bytes maxL ret (wsY y bytes maxL ret) rm rm.cells rm.slots n := by
  obtain ⟨h1, h2, h3, h4, h5⟩ := h
  refine ⟨rfl, rfl, hR.1, hR.2, pay_Y hts h2, List.mem_cons_self, hts _ h2, hts _ h3, h4, fun sig hs => ?_, hts _ h1⟩
  rw [hs] at h5
  exact (Option.some.inj h5).symm
/-- behind a call that returns -/
theorem k_back {a : Array Value} (hr : va_Run p l e R s m args below meth c H locs cells slots rm.cells rm.slots (F0 m pc ls st0) rest (QcC G Rt a) (aB G)) (hS : HS G s V H locs)
    (kk : ∀ (r : Option Value) (V' : Vw) (H1 : Heap) (locs1 : List Loc), Rt r V' → HS G s V' H1 locs1 → W p l e R s m args below meth c H1 locs1 (cells + rm.cells) (slots + rm.slots) Q (F0 m (pc + 3) ls (r.toList ++ rest))) : W p l e R s m args below meth c H locs cells slots Q (F0 m pc ls st0) := by
  intro T hT X
  obtain ⟨v, st₀, t, T', L, h0, X', hL, e1, e2, ⟨⟨r, V', hv, hp, hw⟩, hz, hk⟩, st⟩ := hr T hT X
  cases hv
  rw [h0] at hz hk
  have hlt := hS.2.1.1
  obtain ⟨t2, a1, b1⟩ := kk v V' T'.heap (locs ++ L) hp ⟨by rw [e1]; exact hw, ⟨Nat.le_trans hlt (by rw [e1]; exact hz), fun q g1 g2 => by rw [e1, hk q (Nat.lt_of_lt_of_le g1 hlt) g2]; exact hS.2.1.2.1 q g1 g2, fun q hq => by
      rcases List.mem_append.mp hq with h | h
      · exact hS.2.1.2.2 q h
      · exact hL q h⟩, hS.2.2⟩ T' rfl X'
  exact ⟨t2, st t2 a1, b1⟩
theorem recv_of_view {k i b ci : Nat} {fs : List Value} {q : vw_C} (hS : HS G s V H locs) (hK : KK G s) (hc : vwCl[ci]? = some q) (he : V k i = some (b, .inr (ci, fs))) : ∃ cell : Cell, H[b]? = some cell ∧ cell.vm.isStatics = false ∧ s.vm.findClass q.1 = some cell.cls :=
  va_recv (ws := [(b, .inr (ci, fs))]) (q0 := 0) hK.1 (hS.1.one he) hc rfl
theorem r_callV (F : Bd G p l s m args meth c cc nL own) (hS : HS G s V H locs) {k i b ci : Nat} {fs : List Value} {q : vw_C} (ml : MLV own index y q.1 bytes maxL ret n) (hM : Cm G l y bytes maxL ret rm V (.ref b :: As) Rt) (hc : vwCl[ci]? = some q) (he : V k i = some (b, .inr (ci, fs)))
    (hn : As.length = n) (hsz : ls.size = nL) (hst : st0 = As.reverse ++ .ref b :: rest) (hw : (rest.map fun v => v.category).sum ≤ 8) (hdg : decode cc pc = .ok (.invokevirtual index, 3)) (hR : rm.frames + 1 ≤ R.frames ∧ 8 + (maxL + 11) + rm.locals ≤ R.locals) (hf : cells + rm.cells ≤ R.cells ∧ slots + rm.slots ≤ R.slots)
    (kk : ∀ (r : Option Value) (V' : Vw) (H1 : Heap) (locs1 : List Loc), Rt r V' → HS G s V' H1 locs1 → W p l e R s m args below meth c H1 locs1 (cells + rm.cells) (slots + rm.slots) Q (F0 m (pc + 3) ls (r.toList ++ rest))) : W p l e R s m args below meth c H locs cells slots Q (F0 m pc ls st0) := by
  obtain ⟨hx, hb, hml, hown, hts, hK, -, -⟩ := F
  exact k_back (va_runV (C := q.1) (As := As) (rest := rest) ⟨hx, hb, hml, hown, hts⟩ hM ⟨ml.1.cb hts hR, hts _ ml.2.1, hts _ ml.2.2⟩ ⟨PreC.blind _ _ _, recv_of_view hS hK hc he, fun U hU hW => PreC.at hS hK hU hW⟩ rfl hn hsz hst (lv_room hw) hdg hf) hS kk
theorem r_callS (F : Bd G p l s m args meth c cc nL own) (hS : HS G s V H locs) (ml : MLS own index y bytes maxL ret n) (hM : Cm G l y bytes maxL ret rm V As Rt)
    (hn : As.length = n) (hsz : ls.size = nL) (hst : st0 = As.reverse ++ rest) (hw : (rest.map fun v => v.category).sum ≤ 8) (hdg : decode cc pc = .ok (.invokestatic index, 3)) (hR : rm.frames + 1 ≤ R.frames ∧ 8 + (maxL + 11) + rm.locals ≤ R.locals) (hf : cells + rm.cells ≤ R.cells ∧ slots + rm.slots ≤ R.slots)
    (kk : ∀ (r : Option Value) (V' : Vw) (H1 : Heap) (locs1 : List Loc), Rt r V' → HS G s V' H1 locs1 → W p l e R s m args below meth c H1 locs1 (cells + rm.cells) (slots + rm.slots) Q (F0 m (pc + 3) ls (r.toList ++ rest))) : W p l e R s m args below meth c H locs cells slots Q (F0 m pc ls st0) := by
  obtain ⟨hx, hb, hml, hown, hts, hK, -, -⟩ := F
  exact k_back (va_runS (As := As) (rest := rest) ⟨hx, hb, hml, hown, hts⟩ hM ⟨ml.1.cb hts hR, hts _ ml.2⟩ ⟨PreC.blind _ _ _, fun U hU hW => PreC.at hS hK hU hW⟩ rfl hn hsz hst (lv_room hw) hdg hf) hS kk
theorem r_callI (F : Bd G p l s m args meth c cc nL own) (hS : HS G s V H locs) {b : Nat} (ml : MLI own index y bytes maxL n) (hM : Cm G l y bytes maxL none rm V (.ref b :: As) Rt)
    (hn : As.length = n) (hsz : ls.size = nL) (hst : st0 = As.reverse ++ .ref b :: rest) (hw : (rest.map fun v => v.category).sum ≤ 8) (hdg : decode cc pc = .ok (.invokespecial index, 3)) (hR : rm.frames + 1 ≤ R.frames ∧ 8 + (maxL + 11) + rm.locals ≤ R.locals) (hf : cells + rm.cells ≤ R.cells ∧ slots + rm.slots ≤ R.slots)
    (kk : ∀ (r : Option Value) (V' : Vw) (H1 : Heap) (locs1 : List Loc), Rt r V' → HS G s V' H1 locs1 → W p l e R s m args below meth c H1 locs1 (cells + rm.cells) (slots + rm.slots) Q (F0 m (pc + 3) ls (r.toList ++ rest))) : W p l e R s m args below meth c H locs cells slots Q (F0 m pc ls st0) := by
  obtain ⟨hx, hb, hml, hown, hts, hK, -, -⟩ := F
  exact k_back (va_runI (As := As) (rest := rest) ⟨hx, hb, hml, hown, hts⟩ hM ⟨ml.1.cb hts hR, ml.2.1, hts _ ml.2.2⟩ ⟨PreC.blind _ _ _, fun U hU hW => PreC.at hS hK hU hW⟩ rfl hn hsz hst (lv_room hw) hdg hf) hS kk
/-- a body's start -/
theorem Cm.of (htr : l.stackTraces = false) (hy : plainName y.cls = true) (hlen : (lg_sl As).length ≤ maxL)
    (body : ∀ (p : Program) (e : Env) (s : State) (m : MethodId) (args : Array Value) (below : List Frame) (meth : Method) (c : Code) (ls : Array Slot), Bd G p l s m args meth c cc maxL y.cls → meth.sig.returnType = ret → meth.name = y.name → HS G s V s.heap [] → lv_has ls maxL (lv_args 0 As) →
      W p l e rm s m args below meth c s.heap [] 0 0 (MQ below (QcC G Rt) args s rm.cells rm.slots (aB G)) (F0 m 0 ls [])) : Cm G l y cc maxL ret rm V As Rt := by
  refine Met.ofW (cc := cc) (maxL := maxL) (ret := ret) hy rfl ?_
  intro p e s m args below meth c s₁ B hml hv
  obtain ⟨rfl, hW, hz, hK⟩ := hv
  have hts := atoms_spec (ws := wsY y cc maxL ret) B.pre
  have hl := lv_entry As (n := maxL) hlen
  rw [lg_entry_eq]
  exact body p e s m _ below meth c _ ⟨B.exec, B.bytes, hml, findClass_of_methodNamed B.named, fun w h => hts w (List.mem_cons_of_mem _ h), hK, B.notSynchronized, htr⟩ B.returns (name_of_methodNamed B.named B.method).1 ⟨hW, va_S.rf, hz⟩ hl
theorem m_reti (F : Bd G p l s m args meth c cc nL own) (hr : meth.sig.returnType = some .int) (hS : HS G s V H locs) (hc : cells ≤ rm.cells) (hs : slots ≤ rm.slots) {v : Int32} (hq : Rt (some (.int v)) V) (hdg : decode cc pc = .ok (.ireturn, 1)) :
    W p l e R s m args below meth c H locs cells slots (MQ below (QcC G Rt) args s rm.cells rm.slots (aB G)) (F0 m pc ls [.int v]) := by
  obtain ⟨hx, hb, hml, hown, hts, hK, hlk, -⟩ := F
  exact W.widen hc hs (W.iret hx hb hr (fun t ht hW => ⟨⟨_, V, rfl, hq, by rw [ht]; exact hS.1⟩, hS.2.1.F ht⟩) hS.2.1.2.2 hdg (hlocks := hlk))
theorem m_retz (F : Bd G p l s m args meth c cc nL own) (hr : meth.sig.returnType = some .boolean) (hS : HS G s V H locs) (hc : cells ≤ rm.cells) (hs : slots ≤ rm.slots) {v : Int32} (hn : narrow .boolean (.int v) = .int v) (hq : Rt (some (.int v)) V) (hdg : decode cc pc = .ok (.ireturn, 1)) :
    W p l e R s m args below meth c H locs cells slots (MQ below (QcC G Rt) args s rm.cells rm.slots (aB G)) (F0 m pc ls [.int v]) := by
  obtain ⟨hx, hb, hml, hown, hts, hK, hlk, -⟩ := F
  exact W.widen hc hs (W.zret hx hb hr hn (fun t ht hW => ⟨⟨_, V, rfl, hq, by rw [ht]; exact hS.1⟩, hS.2.1.F ht⟩) hS.2.1.2.2 hdg (hlocks := hlk))
theorem m_retv (F : Bd G p l s m args meth c cc nL own) (hr : meth.sig.returnType = none) (hS : HS G s V H locs) (hc : cells ≤ rm.cells) (hs : slots ≤ rm.slots) (hq : Rt none V) (hdg : decode cc pc = .ok (.return_, 1)) :
    W p l e R s m args below meth c H locs cells slots (MQ below (QcC G Rt) args s rm.cells rm.slots (aB G)) (F0 m pc ls []) := by
  obtain ⟨hx, hb, hml, hown, hts, hK, hlk, -⟩ := F
  exact W.widen hc hs (W.vret hx hb hr (fun t ht hW => ⟨⟨_, V, rfl, hq, by rw [ht]; exact hS.1⟩, hS.2.1.F ht⟩) hS.2.1.2.2 hdg (hlocks := hlk))
theorem m_reta (F : Bd G p l s m args meth c cc nL own) {rt : FieldType} (hr : meth.sig.returnType = some rt) (hrt : (∃ n, rt = .object n) ∨ ∃ t, rt = .array t) (hS : HS G s V H locs) (hc : cells ≤ rm.cells) (hs : slots ≤ rm.slots) {v : Value} (hv : v = .null ∨ ∃ a, v = .ref a) (hq : Rt (some v) V) (hdg : decode cc pc = .ok (.areturn, 1)) :
    W p l e R s m args below meth c H locs cells slots (MQ below (QcC G Rt) args s rm.cells rm.slots (aB G)) (F0 m pc ls [v]) := by
  obtain ⟨hx, hb, hml, hown, hts, hK, hlk, -⟩ := F
  exact W.widen hc hs (W.aret hx hb hr hrt hv (fun t ht hW => ⟨⟨_, V, rfl, hq, by rw [ht]; exact hS.1⟩, hS.2.1.F ht⟩) hS.2.1.2.2 hdg (hlocks := hlk))
end CC

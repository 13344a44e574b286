/-! Methods that return or throw, over the view. -/
def NMS : List String := ["java/lang/RuntimeException", "java/lang/Exception"]
def XcC (G : Gl) (Th : String → Vw → Prop) : String → State → State → Prop := fun E st t => ∃ V' : Vw, Th E V' ∧ HW G V' t.heap ∧ va_F (aB G) st t
def Cx (G : Gl) (l : Launch) (y : MethodName) (cc : ByteArray) (maxL : Nat) (ret : Option FieldType) (rm : Room) (V : Vw) (As : List Value) (Rt : Option Value → Vw → Prop) (Th : String → Vw → Prop) : Prop :=
  vx_Met l y (wsY y cc maxL ret) rm (PreC G V As) (QcC G Rt) (XcC G Th) rm.cells rm.slots (aB G)
/-- what a 'throw new E("text")' of the class needs -/
def TW (own : String) (ik ic : Nat) (cls : String) : Prop :=
  Bundle.fit cls = true ∧ (∀ n ∈ NMS, Bundle.fit n = true) ∧ Cond.classLink own ik cls ∈ TBL ∧ Cond.initialized cls ∈ TBL ∧ (∀ w ∈ (vx_atS own ic cls NMS).filter goodWord, w ∈ tables_1) ∧ (∀ w ∈ (vx_atS own ic cls NMS).filter (fun w => !goodWord w), w ∈ XWS) ∧ ∀ w ∈ Cond.classLink own ik cls :: Cond.initialized cls :: vx_atS own ic cls NMS, vx_ot w = true
section XX
variable {G : Gl} {p : Program} {l : Launch} {e : Env} {R : Room} {s : State} {m : MethodId} {args : Array Value} {below : List Frame} {meth : Method} {c : Code} {H : Heap} {locs : List Loc} {cells slots : Nat} {Q : State → Prop}
variable {cc : ByteArray} {nL pc : Nat} {own : String} {ls : Array Slot} {rest st0 : List Value} {V : Vw}
variable {y : MethodName} {bytes : ByteArray} {maxL n index : Nat} {ret : Option FieldType} {rm : Room} {As : List Value} {Rt : Option Value → Vw → Prop} {Th : String → Vw → Prop}
theorem Cx.of (htr : l.stackTraces = false) (hy : plainName y.cls = true) (hlen : (lg_sl As).length ≤ maxL)
    (body : ∀ (p : Program) (e : Env) (s : State) (m : MethodId) (args : Array Value) (below : List Frame) (meth : Method) (c : Code) (ls : Array Slot), Bd G p l s m args meth c cc maxL y.cls → meth.sig.returnType = ret → (∀ x ∈ c.exceptionTable.toList, False) → HS G s V s.heap [] → lv_has ls maxL (lv_args 0 As) →
      W p l e rm s m args below meth c s.heap [] 0 0 (vx_MQ below (QcC G Rt) (XcC G Th) args s rm.cells rm.slots (aB G)) (F0 m 0 ls [])) : Cx G l y cc maxL ret rm V As Rt Th := by
  refine vx_ofW (cc := cc) (maxL := maxL) (ret := ret) hy rfl ?_
  intro p e s m args below meth c s₁ B hml hex hv
  obtain ⟨rfl, hW, hz, hK⟩ := hv
  have hts := atoms_spec (ws := wsY y cc maxL ret) B.pre
  have hl := lv_entry As (n := maxL) hlen
  rw [lg_entry_eq]
  exact body p e s m _ below meth c _ ⟨B.exec, B.bytes, hml, findClass_of_methodNamed B.named, fun w h => hts w (List.mem_cons_of_mem _ h), hK, B.notSynchronized, htr⟩ B.returns hex ⟨hW, va_S.rf, hz⟩ hl
/-- a contract that never throws is one that may -/
theorem x_back {a : Array Value} (hr : vx_Run p l e R s m args below meth c H locs cells slots rm.cells rm.slots (F0 m pc ls st0) rest (QcC G Rt a) (XcC G Th) (aB G)) (hS : HS G s V H locs)
    (kx : ∀ (q9 : Addr) (E : String) (ce : Cell) (V' : Vw) (H1 : Heap) (locs1 : List Loc), Th E V' → HS G s V' H1 locs1 → (H1[q9]? = some ce ∧ ce.vm = .none ∧ s.vm.findClass E = some ce.cls) → vx_W p l e R s m args below meth c H1 locs1 (cells + rm.cells) (slots + rm.slots) Q (F0 m pc ls rest) q9)
    (kk : ∀ (r : Option Value) (V' : Vw) (H1 : Heap) (locs1 : List Loc), Rt r V' → HS G s V' H1 locs1 → W p l e R s m args below meth c H1 locs1 (cells + rm.cells) (slots + rm.slots) Q (F0 m (pc + 3) ls (r.toList ++ rest))) : W p l e R s m args below meth c H locs cells slots Q (F0 m pc ls st0) := by
  have hlt := hS.2.1.1
  have key : ∀ {st₀ t T' : State} {L : List Loc}, st₀.heap = H → T'.heap = t.heap → (∀ q ∈ L, aB G q.base) → va_F (aB G) st₀ t → va_S (aB G) s.heap T'.heap (locs ++ L) := by
    intro st₀ t T' L h0 e1 hL hF
    obtain ⟨hz, hk⟩ := hF
    rw [h0] at hz hk
    refine ⟨Nat.le_trans hlt (by rw [e1]; exact hz), fun q g1 g2 => by rw [e1, hk q (Nat.lt_of_lt_of_le g1 hlt) g2]; exact hS.2.1.2.1 q g1 g2, fun q hq => ?_⟩
    rcases List.mem_append.mp hq with h | h
    · exact hS.2.1.2.2 q h
    · exact hL q h
  intro T hT X
  rcases hr T hT X with ⟨v, st₀, t, T', L, h0, X', hL, e1, e2, ⟨⟨r, V', hv, hp, hw⟩, hF⟩, st⟩ | ⟨q, st₀, t, T', L, E, ce, h0, X', hL, e1, e2, ⟨V', hTh, hw, hF⟩, hce, hcv, hcl, st⟩
  · cases hv
    obtain ⟨t2, a1, b1⟩ := kk v V' T'.heap (locs ++ L) hp ⟨by rw [e1]; exact hw, key h0 e1 hL hF, hS.2.2⟩ T' rfl X'
    exact ⟨t2, st t2 a1, b1⟩
  · obtain ⟨t2, a1, b1⟩ := kx q E ce V' T'.heap (locs ++ L) hTh ⟨by rw [e1]; exact hw, key h0 e1 hL hF, hS.2.2⟩ ⟨by rw [e1]; exact hce, hcv, hcl⟩ T' rfl X'
    exact ⟨t2, st.trans a1, b1⟩
theorem r_xcallV (F : Bd G p l s m args meth c cc nL own) (hS : HS G s V H locs) {k i b ci : Nat} {fs : List Value} {q : vw_C} (ml : MLV own index y q.1 bytes maxL ret n) (hM : Cx G l y bytes maxL ret rm V (.ref b :: As) Rt Th) (hc : vwCl[ci]? = some q) (he : V k i = some (b, .inr (ci, fs)))
    (hn : As.length = n) (hsz : ls.size = nL) (hst : st0 = As.reverse ++ .ref b :: rest) (hw : (rest.map fun v => v.category).sum ≤ 8) (hdg : decode cc pc = .ok (.invokevirtual index, 3)) (hR : rm.frames + 1 ≤ R.frames ∧ 8 + (maxL + 11) + rm.locals ≤ R.locals) (hf : cells + rm.cells ≤ R.cells ∧ slots + rm.slots ≤ R.slots)
    (kx : ∀ (q9 : Addr) (E : String) (ce : Cell) (V' : Vw) (H1 : Heap) (locs1 : List Loc), Th E V' → HS G s V' H1 locs1 → (H1[q9]? = some ce ∧ ce.vm = .none ∧ s.vm.findClass E = some ce.cls) → vx_W p l e R s m args below meth c H1 locs1 (cells + rm.cells) (slots + rm.slots) Q (F0 m pc ls rest) q9)
    (kk : ∀ (r : Option Value) (V' : Vw) (H1 : Heap) (locs1 : List Loc), Rt r V' → HS G s V' H1 locs1 → W p l e R s m args below meth c H1 locs1 (cells + rm.cells) (slots + rm.slots) Q (F0 m (pc + 3) ls (r.toList ++ rest))) : W p l e R s m args below meth c H locs cells slots Q (F0 m pc ls st0) := by
  obtain ⟨hx, hb, hml, hown, hts, hK, -, -⟩ := F
  exact x_back (vx_runV (C := q.1) (As := As) (rest := rest) ⟨hx, hb, hml, hown, hts⟩ hM ⟨ml.1.cb hts hR, hts _ ml.2.1, hts _ ml.2.2⟩ ⟨PreC.blind _ _ _, recv_of_view hS hK hc he, fun U hU hW => PreC.at hS hK hU hW⟩ rfl hn hsz hst (lv_room hw) hdg hf) hS kx kk
theorem r_xcallS (F : Bd G p l s m args meth c cc nL own) (hS : HS G s V H locs) (ml : MLS own index y bytes maxL ret n) (hM : Cx G l y bytes maxL ret rm V As Rt Th)
    (hn : As.length = n) (hsz : ls.size = nL) (hst : st0 = As.reverse ++ rest) (hw : (rest.map fun v => v.category).sum ≤ 8) (hdg : decode cc pc = .ok (.invokestatic index, 3)) (hR : rm.frames + 1 ≤ R.frames ∧ 8 + (maxL + 11) + rm.locals ≤ R.locals) (hf : cells + rm.cells ≤ R.cells ∧ slots + rm.slots ≤ R.slots)
    (kx : ∀ (q9 : Addr) (E : String) (ce : Cell) (V' : Vw) (H1 : Heap) (locs1 : List Loc), Th E V' → HS G s V' H1 locs1 → (H1[q9]? = some ce ∧ ce.vm = .none ∧ s.vm.findClass E = some ce.cls) → vx_W p l e R s m args below meth c H1 locs1 (cells + rm.cells) (slots + rm.slots) Q (F0 m pc ls rest) q9)
    (kk : ∀ (r : Option Value) (V' : Vw) (H1 : Heap) (locs1 : List Loc), Rt r V' → HS G s V' H1 locs1 → W p l e R s m args below meth c H1 locs1 (cells + rm.cells) (slots + rm.slots) Q (F0 m (pc + 3) ls (r.toList ++ rest))) : W p l e R s m args below meth c H locs cells slots Q (F0 m pc ls st0) := by
  obtain ⟨hx, hb, hml, hown, hts, hK, -, -⟩ := F
  exact x_back (vx_runS (As := As) (rest := rest) ⟨hx, hb, hml, hown, hts⟩ hM ⟨ml.1.cb hts hR, hts _ ml.2⟩ ⟨PreC.blind _ _ _, fun U hU hW => PreC.at hS hK hU hW⟩ rfl hn hsz hst (lv_room hw) hdg hf) hS kx kk
/-- not caught here: on to the caller -/
theorem x_out (F : Bd G p l s m args meth c cc nL own) (hex : ∀ x ∈ c.exceptionTable.toList, False) (hS : HS G s V H locs) {q : Addr} {E : String} {ce : Cell} (hce : H[q]? = some ce ∧ ce.vm = .none ∧ s.vm.findClass E = some ce.cls) (hTh : Th E V) (hc : cells ≤ rm.cells) (hs : slots ≤ rm.slots) :
    vx_W p l e R s m args below meth c H locs cells slots (vx_MQ below (QcC G Rt) (XcC G Th) args s rm.cells rm.slots (aB G)) (F0 m pc ls rest) q := by
  obtain ⟨hx, hb, hml, hown, hts, hK, hlk, -⟩ := F
  exact vx_out (E := E) (fun x h => (hex x h).elim) hlk hce.1 hce.2.1 hce.2.2 (fun t ht ha => ⟨V, hTh, by rw [ht]; exact hS.1, hS.2.1.F ht⟩) hS.2.1.2.2 hc hs
/-- throw new E("text") -/
theorem r_throw (F : Bd G p l s m args meth c cc nL "RuleClasses") (hex : ∀ x ∈ c.exceptionTable.toList, False) (hS : HS G s V H locs) {ik ic is : Nat} {cls text : String} (tw : TW "RuleClasses" ik ic cls) (ht : (is, text) ∈ STR) (hsz : ls.size = nL)
    (d0 : decode cc pc = .ok (.new ik, 3)) (d3 : decode cc (pc + 3) = .ok (.dup, 1)) (d4 : decode cc (pc + 4) = .ok (.ldc is, 2)) (d6 : decode cc (pc + 6) = .ok (.invokespecial ic, 3)) (d9 : decode cc (pc + 9) = .ok (.athrow, 1))
    (hRf : 5 < R.frames) (hRl : (rest.map fun v => v.category).sum + 82 ≤ R.locals) (hRc : cells + 1 ≤ R.cells) (hRs : slots + 6 ≤ R.slots) (hc : cells + 1 ≤ rm.cells) (hs : slots + 6 ≤ rm.slots) (hTh : Th cls V) :
    W p l e R s m args below meth c H locs cells slots (vx_MQ below (QcC G Rt) (XcC G Th) args s rm.cells rm.slots (aB G)) (F0 m pc ls rest) := by
  obtain ⟨hx, hb, hml, hown, hts, hK, hlk, htr⟩ := F
  obtain ⟨t1, t2, t3, t4, t5, t6, t7⟩ := tw
  obtain ⟨hU, hN⟩ := hK.2.1
  obtain ⟨sa, hstr⟩ := hK.2.2.2.2.1 _ ht
  refine vx_throwS (names := NMS) (sa := sa) (text := text) hx hb htr hown t1 t2 (hts _ t3) (hts _ t4) hstr (vx_hat (fun w hw => hts w (mT (t5 w hw) (List.mem_filter.mp hw).2)) t6 hK.xw) t7 hU hN hS.2.1 (hsz.trans hml.symm) d0 d3 d4 d6 d9 (fun x h => (hex x h).elim) hRf hRl hRc hRs hlk (fun t ha hz hk => ⟨V, hTh, hS.1.keep hk, ⟨Nat.le_trans hS.2.1.1 hz, fun q g1 g2 => (hk q (Nat.lt_of_lt_of_le g1 hS.2.1.1)).trans (hS.2.1.2.1 q g1 g2)⟩⟩) hS.2.1.2.2 hc hs
end XX
